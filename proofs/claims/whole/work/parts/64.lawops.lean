/-! ===== the law: its operations: printed by g64.py ===== -/
abbrev lawL (ad : Nat → Nat → Nat) (b i : Nat) : gLoc := [some (.ref b), some (.ref (ad 0 0)), some (.ref (ad 19 0)), some (.ref (ad 21 0)), some (.int (nI i)), none, none]
abbrev LX (l : Launch) (D : va_G) (ad : Nat → Nat → Nat) (aC : Nat → ClassId) (b Ls : Nat) (xs : Nat → Int32) (S : gS) : Prop := Lx l D ad aC cL_law RL 7 (some .boolean) 19 10000 b Ls xs (fun r _ _ => r = some (.int 1)) S
set_option maxRecDepth 100000 in
set_option maxHeartbeats 1000000 in
theorem l_number {l : Launch} {D : va_G} {ad : Nat → Nat → Nat} {aC : Nat → ClassId} {b Ls : Nat} {xs : Nat → Int32} {S : gS} (C : LX l D ad aC b Ls xs S) {n i : Nat} {σ : gSig} {τ : gTau} (hR : Rel σ) (hi : i + 4 ≤ Ls) (hL : Ls ≤ 2048) (hn : n + 3 ≤ 10000) (hk : ∀ (n' : Nat) (σ' : gSig) (τ' : gTau), n' ≤ n + 3 → Rel σ' → S n' σ' τ' 1670 (lawL ad b i) []) : S n σ τ 164 (lawL ad b i) [] := by
  have c0 := C.cx
  obtain ⟨k, hd⟩ := hR.1
  refine r_aload_n c0 dL_law_164 rfl rfl ?_
  refine r_aload_n c0 dL_law_165 rfl rfl ?_
  refine r_iload c0 dL_law_166 rfl ?_
  refine r_iconst (v := 1) c0 dL_law_168 rfl ?_
  refine r_iadd c0 dL_law_169 ?_
  refine r_sld C (j := 1) (by omega) (by omega) dL_law_170 ?_
  refine r_aload_n c0 dL_law_171 rfl rfl ?_
  refine r_callH C dL_law_172 (w_number (c_number σ τ (xs (i + 1)) k hd.2.1 hd.1) (fun r σ9 τ9 h => (by
      repeat' (first | (rcases (h : _ ∨ _) with h | h) | (obtain ⟨_, h⟩ := (h : _ ∧ _)) | (obtain ⟨_, h⟩ := (h : ∃ _, _)))
      all_goals exact ⟨_, Eq.symm ‹some (Value.int _) = r›⟩)) (fun E σ9 τ9 h => by
      rcases h with ⟨⟨rfl, -⟩, -⟩ <;> simp)) rfl kcw_number kini_L (by decide) (by show (parseMethodDescriptor yL_number.desc).map (fun d => d.parameters.length) = some 3; decide +kernel) (by decide) kst_number kl_L_96 (by decide) (Nat.le_of_ble_eq_true rfl) (by omega) ?_
  intro r9 σ1 τ1 h1
  obtain ⟨k0, rfl⟩ := wrQ_int h1
  have e9 : σ1 19 = σ 19 ∧ σ1 20 = σ 20 := by
    have h9 := h1
    rcases h9 with ⟨x9, t9, h9, -, -⟩ | ⟨E9, i9, -, h9, -⟩
    all_goals (repeat' (first | (rcases (h9 : _ ∨ _) with h9 | h9) | (obtain ⟨_, h9⟩ := (h9 : _ ∧ _)) | (obtain ⟨_, h9⟩ := (h9 : ∃ _, _))))
    all_goals (rw [← ‹_ = σ1›]; exact ⟨rfl, rfl⟩)
  refine r_istore c0 dL_law_175 (by decide) rfl ?_
  refine r_aload_n c0 dL_law_177 rfl rfl ?_
  refine r_aload_n c0 dL_law_178 rfl rfl ?_
  refine r_iload c0 dL_law_179 rfl ?_
  refine r_iconst (v := 1) c0 dL_law_181 rfl ?_
  refine r_iadd c0 dL_law_182 ?_
  refine r_sld C (j := 1) (by omega) (by omega) dL_law_183 ?_
  refine r_callV c0 dL_law_184 (m_number σ1 τ1 (xs (i + 1)) k (by rw [e9.1]; exact hd.2.2.1) hd.1) rfl ⟨by decide, by decide⟩ rfl rfl kB_X6_number rfl kI_X6_number kV_X6_number kl_L_101 (by decide) (Nat.le_of_ble_eq_true rfl) (by omega) ?_
  intro r9 σ2 τ2 h2
  obtain ⟨b9, rfl⟩ : ∃ x : Int32, r9 = some (.int x) := (by
      repeat' (first | (rcases (h2 : _ ∨ _) with h2 | h2) | (obtain ⟨_, h2⟩ := (h2 : _ ∧ _)) | (obtain ⟨_, h2⟩ := (h2 : ∃ _, _)))
      all_goals exact ⟨_, Eq.symm ‹some (Value.int _) = r9›⟩)
  have hs := s_number hR hd h1 h2
  obtain ⟨s1, s2, s3⟩ := hs
  refine r_istore c0 dL_law_187 (by decide) rfl ?_
  refine r_aload_n c0 dL_law_189 rfl rfl ?_
  refine r_callV c0 dL_law_190 (m_thrown σ2 τ2) rfl ⟨by decide, by decide⟩ rfl rfl kB_X6_thrown rfl kI_X6_thrown kV_X6_thrown kl_L_102 (by decide) (Nat.le_of_ble_eq_true rfl) (by omega) ?_
  rintro r9 σ' τ' ⟨rfl, rfl, rfl⟩
  refine r_iload c0 dL_law_193 rfl ?_
  refine r_icmpeq (tgt := 200) c0 dL_law_195 (by decide) (fun c9 => ?_) (fun c9 => absurd s1 c9)
  refine r_iload c0 dL_law_200 rfl ?_
  refine r_ifne (tgt := 217) c0 dL_law_202 (by decide) (fun q9 => ?_) (fun q9 => ?_)
  · refine r_goto (tgt := 1670) c0 dL_law_217 (by decide) ?_
    refine r_drop c0 [5, 6] ?_
    exact r_swk (hk _ _ _ (by omega) s3) rfl rfl rfl rfl
  · refine r_aload_n c0 dL_law_205 rfl rfl ?_
    refine r_iconst (v := 0) c0 dL_law_206 rfl ?_
    refine r_laldv (v := b9.toInt64) c0 dL_law_207 ⟨by decide, by decide⟩ rfl (vp_in_nI (show 0 < 1 by decide) (by decide)) (s2 q9) ?_
    refine r_iload c0 dL_law_208 rfl ?_
    refine r_i2l c0 dL_law_210 ?_
    refine r_lcmp c0 dL_law_211 ?_
    rw [lg_cmp_self]
    refine r_ifeq (tgt := 217) c0 dL_law_212 (by decide) (fun q8 => ?_) (fun q8 => absurd rfl q8)
    refine r_goto (tgt := 1670) c0 dL_law_217 (by decide) ?_
    refine r_drop c0 [5, 6] ?_
    exact r_swk (hk _ _ _ (by omega) s3) rfl rfl rfl rfl
set_option maxRecDepth 100000 in
set_option maxHeartbeats 1000000 in
theorem l_cell {l : Launch} {D : va_G} {ad : Nat → Nat → Nat} {aC : Nat → ClassId} {b Ls : Nat} {xs : Nat → Int32} {S : gS} (C : LX l D ad aC b Ls xs S) {n i : Nat} {σ : gSig} {τ : gTau} (hR : Rel σ) (hi : i + 4 ≤ Ls) (hL : Ls ≤ 2048) (hn : n + 3 ≤ 10000) (hk : ∀ (n' : Nat) (σ' : gSig) (τ' : gTau), n' ≤ n + 3 → Rel σ' → S n' σ' τ' 1670 (lawL ad b i) []) : S n σ τ 220 (lawL ad b i) [] := by
  have c0 := C.cx
  obtain ⟨k, hd⟩ := hR.1
  refine r_aload_n c0 dL_law_220 rfl rfl ?_
  refine r_aload_n c0 dL_law_221 rfl rfl ?_
  refine r_iload c0 dL_law_222 rfl ?_
  refine r_iconst (v := 1) c0 dL_law_224 rfl ?_
  refine r_iadd c0 dL_law_225 ?_
  refine r_sld C (j := 1) (by omega) (by omega) dL_law_226 ?_
  refine r_aload_n c0 dL_law_227 rfl rfl ?_
  refine r_callH C dL_law_228 (w_cell (c_cell σ τ (xs (i + 1)) k hd.2.1 hd.1) (fun r σ9 τ9 h => (by
      repeat' (first | (rcases (h : _ ∨ _) with h | h) | (obtain ⟨_, h⟩ := (h : _ ∧ _)) | (obtain ⟨_, h⟩ := (h : ∃ _, _)))
      all_goals exact ⟨_, Eq.symm ‹some (Value.int _) = r›⟩)) (fun E σ9 τ9 h => by
      rcases h with ⟨⟨rfl, -⟩ | ⟨rfl, -⟩, -⟩ <;> simp)) rfl kcw_cell kini_L (by decide) (by show (parseMethodDescriptor yL_cell.desc).map (fun d => d.parameters.length) = some 3; decide +kernel) (by decide) kst_cell kl_L_106 (by decide) (Nat.le_of_ble_eq_true rfl) (by omega) ?_
  intro r9 σ1 τ1 h1
  obtain ⟨k0, rfl⟩ := wrQ_int h1
  have e9 : σ1 19 = σ 19 ∧ σ1 20 = σ 20 := by
    have h9 := h1
    rcases h9 with ⟨x9, t9, h9, -, -⟩ | ⟨E9, i9, -, h9, -⟩
    all_goals (repeat' (first | (rcases (h9 : _ ∨ _) with h9 | h9) | (obtain ⟨_, h9⟩ := (h9 : _ ∧ _)) | (obtain ⟨_, h9⟩ := (h9 : ∃ _, _))))
    all_goals (rw [← ‹_ = σ1›]; exact ⟨rfl, rfl⟩)
  refine r_istore c0 dL_law_231 (by decide) rfl ?_
  refine r_aload_n c0 dL_law_233 rfl rfl ?_
  refine r_aload_n c0 dL_law_234 rfl rfl ?_
  refine r_iload c0 dL_law_235 rfl ?_
  refine r_iconst (v := 1) c0 dL_law_237 rfl ?_
  refine r_iadd c0 dL_law_238 ?_
  refine r_sld C (j := 1) (by omega) (by omega) dL_law_239 ?_
  refine r_callV c0 dL_law_240 (m_cell σ1 τ1 (xs (i + 1)) k (by rw [e9.1]; exact hd.2.2.1) hd.1) rfl ⟨by decide, by decide⟩ rfl rfl kB_X6_cell rfl kI_X6_cell kV_X6_cell kl_L_108 (by decide) (Nat.le_of_ble_eq_true rfl) (by omega) ?_
  intro r9 σ2 τ2 h2
  obtain ⟨b9, rfl⟩ : ∃ x : Int32, r9 = some (.int x) := (by
      repeat' (first | (rcases (h2 : _ ∨ _) with h2 | h2) | (obtain ⟨_, h2⟩ := (h2 : _ ∧ _)) | (obtain ⟨_, h2⟩ := (h2 : ∃ _, _)))
      all_goals exact ⟨_, Eq.symm ‹some (Value.int _) = r9›⟩)
  have hs := s_cell hR hd h1 h2
  obtain ⟨s1, s2, s3⟩ := hs
  refine r_istore c0 dL_law_243 (by decide) rfl ?_
  refine r_aload_n c0 dL_law_245 rfl rfl ?_
  refine r_callV c0 dL_law_246 (m_thrown σ2 τ2) rfl ⟨by decide, by decide⟩ rfl rfl kB_X6_thrown rfl kI_X6_thrown kV_X6_thrown kl_L_102 (by decide) (Nat.le_of_ble_eq_true rfl) (by omega) ?_
  rintro r9 σ' τ' ⟨rfl, rfl, rfl⟩
  refine r_iload c0 dL_law_249 rfl ?_
  refine r_icmpeq (tgt := 256) c0 dL_law_251 (by decide) (fun c9 => ?_) (fun c9 => absurd s1 c9)
  refine r_iload c0 dL_law_256 rfl ?_
  refine r_ifne (tgt := 273) c0 dL_law_258 (by decide) (fun q9 => ?_) (fun q9 => ?_)
  · refine r_goto (tgt := 1670) c0 dL_law_273 (by decide) ?_
    refine r_drop c0 [5, 6] ?_
    exact r_swk (hk _ _ _ (by omega) s3) rfl rfl rfl rfl
  · refine r_aload_n c0 dL_law_261 rfl rfl ?_
    refine r_iconst (v := 0) c0 dL_law_262 rfl ?_
    refine r_laldv (v := b9.toInt64) c0 dL_law_263 ⟨by decide, by decide⟩ rfl (vp_in_nI (show 0 < 1 by decide) (by decide)) (s2 q9) ?_
    refine r_iload c0 dL_law_264 rfl ?_
    refine r_i2l c0 dL_law_266 ?_
    refine r_lcmp c0 dL_law_267 ?_
    rw [lg_cmp_self]
    refine r_ifeq (tgt := 273) c0 dL_law_268 (by decide) (fun q8 => ?_) (fun q8 => absurd rfl q8)
    refine r_goto (tgt := 1670) c0 dL_law_273 (by decide) ?_
    refine r_drop c0 [5, 6] ?_
    exact r_swk (hk _ _ _ (by omega) s3) rfl rfl rfl rfl
set_option maxRecDepth 100000 in
set_option maxHeartbeats 1000000 in
theorem l_apply {l : Launch} {D : va_G} {ad : Nat → Nat → Nat} {aC : Nat → ClassId} {b Ls : Nat} {xs : Nat → Int32} {S : gS} (C : LX l D ad aC b Ls xs S) {n i : Nat} {σ : gSig} {τ : gTau} (hR : Rel σ) (hi : i + 4 ≤ Ls) (hL : Ls ≤ 2048) (hn : n + 3 ≤ 10000) (hk : ∀ (n' : Nat) (σ' : gSig) (τ' : gTau), n' ≤ n + 3 → Rel σ' → S n' σ' τ' 1670 (lawL ad b i) []) : S n σ τ 276 (lawL ad b i) [] := by
  have c0 := C.cx
  obtain ⟨k, hd⟩ := hR.1
  refine r_aload_n c0 dL_law_276 rfl rfl ?_
  refine r_aload_n c0 dL_law_277 rfl rfl ?_
  refine r_iload c0 dL_law_278 rfl ?_
  refine r_iconst (v := 1) c0 dL_law_280 rfl ?_
  refine r_iadd c0 dL_law_281 ?_
  refine r_sld C (j := 1) (by omega) (by omega) dL_law_282 ?_
  refine r_aload_n c0 dL_law_283 rfl rfl ?_
  refine r_callH C dL_law_284 (w_apply (c_apply σ τ (xs (i + 1)) k hd.2.1 hd.1) (fun r σ9 τ9 h => (by
      repeat' (first | (rcases (h : _ ∨ _) with h | h) | (obtain ⟨_, h⟩ := (h : _ ∧ _)) | (obtain ⟨_, h⟩ := (h : ∃ _, _)))
      all_goals exact ⟨_, Eq.symm ‹some (Value.int _) = r›⟩)) (fun E σ9 τ9 h => by
      rcases h with ⟨⟨rfl, -⟩ | ⟨rfl, -⟩, -⟩ <;> simp)) rfl kcw_apply kini_L (by decide) (by show (parseMethodDescriptor yL_apply.desc).map (fun d => d.parameters.length) = some 3; decide +kernel) (by decide) kst_apply kl_L_109 (by decide) (Nat.le_of_ble_eq_true rfl) (by omega) ?_
  intro r9 σ1 τ1 h1
  obtain ⟨k0, rfl⟩ := wrQ_int h1
  have e9 : σ1 19 = σ 19 ∧ σ1 20 = σ 20 := by
    have h9 := h1
    rcases h9 with ⟨x9, t9, h9, -, -⟩ | ⟨E9, i9, -, h9, -⟩
    all_goals (repeat' (first | (rcases (h9 : _ ∨ _) with h9 | h9) | (obtain ⟨_, h9⟩ := (h9 : _ ∧ _)) | (obtain ⟨_, h9⟩ := (h9 : ∃ _, _))))
    all_goals (rw [← ‹_ = σ1›]; exact ⟨rfl, rfl⟩)
  refine r_istore c0 dL_law_287 (by decide) rfl ?_
  refine r_aload_n c0 dL_law_289 rfl rfl ?_
  refine r_aload_n c0 dL_law_290 rfl rfl ?_
  refine r_iload c0 dL_law_291 rfl ?_
  refine r_iconst (v := 1) c0 dL_law_293 rfl ?_
  refine r_iadd c0 dL_law_294 ?_
  refine r_sld C (j := 1) (by omega) (by omega) dL_law_295 ?_
  refine r_callV c0 dL_law_296 (m_apply σ1 τ1 (xs (i + 1)) k (by rw [e9.1]; exact hd.2.2.1) hd.1) rfl ⟨by decide, by decide⟩ rfl rfl kB_X6_apply rfl kI_X6_apply kV_X6_apply kl_L_111 (by decide) (Nat.le_of_ble_eq_true rfl) (by omega) ?_
  intro r9 σ2 τ2 h2
  obtain ⟨b9, rfl⟩ : ∃ x : Int32, r9 = some (.int x) := (by
      repeat' (first | (rcases (h2 : _ ∨ _) with h2 | h2) | (obtain ⟨_, h2⟩ := (h2 : _ ∧ _)) | (obtain ⟨_, h2⟩ := (h2 : ∃ _, _)))
      all_goals exact ⟨_, Eq.symm ‹some (Value.int _) = r9›⟩)
  have hs := s_apply hR hd h1 h2
  obtain ⟨s1, s2, s3⟩ := hs
  refine r_istore c0 dL_law_299 (by decide) rfl ?_
  refine r_aload_n c0 dL_law_301 rfl rfl ?_
  refine r_callV c0 dL_law_302 (m_thrown σ2 τ2) rfl ⟨by decide, by decide⟩ rfl rfl kB_X6_thrown rfl kI_X6_thrown kV_X6_thrown kl_L_102 (by decide) (Nat.le_of_ble_eq_true rfl) (by omega) ?_
  rintro r9 σ' τ' ⟨rfl, rfl, rfl⟩
  refine r_iload c0 dL_law_305 rfl ?_
  refine r_icmpeq (tgt := 312) c0 dL_law_307 (by decide) (fun c9 => ?_) (fun c9 => absurd s1 c9)
  refine r_iload c0 dL_law_312 rfl ?_
  refine r_ifne (tgt := 329) c0 dL_law_314 (by decide) (fun q9 => ?_) (fun q9 => ?_)
  · refine r_goto (tgt := 1670) c0 dL_law_329 (by decide) ?_
    refine r_drop c0 [5, 6] ?_
    exact r_swk (hk _ _ _ (by omega) s3) rfl rfl rfl rfl
  · refine r_aload_n c0 dL_law_317 rfl rfl ?_
    refine r_iconst (v := 0) c0 dL_law_318 rfl ?_
    refine r_laldv (v := b9.toInt64) c0 dL_law_319 ⟨by decide, by decide⟩ rfl (vp_in_nI (show 0 < 1 by decide) (by decide)) (s2 q9) ?_
    refine r_iload c0 dL_law_320 rfl ?_
    refine r_i2l c0 dL_law_322 ?_
    refine r_lcmp c0 dL_law_323 ?_
    rw [lg_cmp_self]
    refine r_ifeq (tgt := 329) c0 dL_law_324 (by decide) (fun q8 => ?_) (fun q8 => absurd rfl q8)
    refine r_goto (tgt := 1670) c0 dL_law_329 (by decide) ?_
    refine r_drop c0 [5, 6] ?_
    exact r_swk (hk _ _ _ (by omega) s3) rfl rfl rfl rfl
set_option maxRecDepth 100000 in
set_option maxHeartbeats 1000000 in
theorem l_wipe {l : Launch} {D : va_G} {ad : Nat → Nat → Nat} {aC : Nat → ClassId} {b Ls : Nat} {xs : Nat → Int32} {S : gS} (C : LX l D ad aC b Ls xs S) {n i : Nat} {σ : gSig} {τ : gTau} (hR : Rel σ) (hi : i + 4 ≤ Ls) (hL : Ls ≤ 2048) (hn : n + 3 ≤ 10000) (hk : ∀ (n' : Nat) (σ' : gSig) (τ' : gTau), n' ≤ n + 3 → Rel σ' → S n' σ' τ' 1670 (lawL ad b i) []) : S n σ τ 332 (lawL ad b i) [] := by
  have c0 := C.cx
  obtain ⟨k, hd⟩ := hR.1
  refine r_aload_n c0 dL_law_332 rfl rfl ?_
  refine r_callV c0 dL_law_333 (c_wipe σ τ ) rfl ⟨by decide, by decide⟩ rfl rfl kB_X5_wipe rfl kI_X5_wipe kV_X5_wipe kl_L_112 (by decide) (Nat.le_of_ble_eq_true rfl) (by omega) ?_
  intro r9 σ1 τ1 h1
  obtain ⟨x9, rfl⟩ : ∃ x : Int32, r9 = some (.int x) := ⟨_, h1.1.symm⟩
  have e9 : σ1 19 = σ 19 ∧ σ1 20 = σ 20 := by
    rw [← h1.2.1]; exact ⟨rfl, rfl⟩
  refine r_aload_n c0 dL_law_336 rfl rfl ?_
  refine r_callV c0 dL_law_337 (m_wipe σ1 τ1 ) rfl ⟨by decide, by decide⟩ rfl rfl kB_X6_wipe rfl kI_X6_wipe kV_X6_wipe kl_L_115 (by decide) (Nat.le_of_ble_eq_true rfl) (by omega) ?_
  intro r9 σ2 τ2 h2
  obtain ⟨b9, rfl⟩ : ∃ x : Int32, r9 = some (.int x) := (by
      repeat' (first | (rcases (h2 : _ ∨ _) with h2 | h2) | (obtain ⟨_, h2⟩ := (h2 : _ ∧ _)) | (obtain ⟨_, h2⟩ := (h2 : ∃ _, _)))
      all_goals exact ⟨_, Eq.symm ‹some (Value.int _) = r9›⟩)
  have hs := s_wipe hR hd h1 h2
  refine r_icmpeq (tgt := 1670) c0 dL_law_340 (by decide) (fun c9 => ?_) (fun c9 => absurd hs.1 c9)
  exact hk _ _ _ (by omega) hs.2
set_option maxRecDepth 100000 in
set_option maxHeartbeats 1000000 in
theorem l_enter {l : Launch} {D : va_G} {ad : Nat → Nat → Nat} {aC : Nat → ClassId} {b Ls : Nat} {xs : Nat → Int32} {S : gS} (C : LX l D ad aC b Ls xs S) {n i : Nat} {σ : gSig} {τ : gTau} (hR : Rel σ) (hi : i + 4 ≤ Ls) (hL : Ls ≤ 2048) (hn : n + 3 ≤ 10000) (hk : ∀ (n' : Nat) (σ' : gSig) (τ' : gTau), n' ≤ n + 3 → Rel σ' → S n' σ' τ' 1670 (lawL ad b i) []) : S n σ τ 345 (lawL ad b i) [] := by
  have c0 := C.cx
  obtain ⟨k, hd⟩ := hR.1
  obtain ⟨⟨o, hK⟩, ⟨o2, hM⟩, -, -⟩ := id hR.2.1
  refine r_aload_n c0 dL_law_345 rfl rfl ?_
  refine r_aload_n c0 dL_law_346 rfl rfl ?_
  refine r_iload c0 dL_law_347 rfl ?_
  refine r_iconst (v := 1) c0 dL_law_349 rfl ?_
  refine r_iadd c0 dL_law_350 ?_
  refine r_sld C (j := 1) (by omega) (by omega) dL_law_351 ?_
  refine r_aload_n c0 dL_law_352 rfl rfl ?_
  refine r_callH C dL_law_353 (w_enter (c_enter σ τ (xs (i + 1)) k hd.2.1 hd.1 (fun c hc h => hn_en hR hd c hc h)) (fun r σ9 τ9 h => (by
      repeat' (first | (rcases (h : _ ∨ _) with h | h) | (obtain ⟨_, h⟩ := (h : _ ∧ _)) | (obtain ⟨_, h⟩ := (h : ∃ _, _)))
      all_goals exact ⟨_, Eq.symm ‹some (Value.int _) = r›⟩)) (fun E σ9 τ9 h => by
      rcases h with ⟨⟨rfl, -⟩ | ⟨rfl, -⟩, -⟩ <;> simp)) rfl kcw_enter kini_L (by decide) (by show (parseMethodDescriptor yL_enter.desc).map (fun d => d.parameters.length) = some 3; decide +kernel) (by decide) kst_enter kl_L_116 (by decide) (Nat.le_of_ble_eq_true rfl) (by omega) ?_
  intro r9 σ1 τ1 h1
  obtain ⟨k0, rfl⟩ := wrQ_int h1
  have e9 : σ1 19 = σ 19 ∧ σ1 20 = σ 20 := by
    have h9 := h1
    rcases h9 with ⟨x9, t9, h9, -, -⟩ | ⟨E9, i9, -, h9, -⟩
    all_goals (repeat' (first | (rcases (h9 : _ ∨ _) with h9 | h9) | (obtain ⟨_, h9⟩ := (h9 : _ ∧ _)) | (obtain ⟨_, h9⟩ := (h9 : ∃ _, _))))
    all_goals (rw [← ‹_ = σ1›]; exact ⟨rfl, rfl⟩)
  refine r_istore c0 dL_law_356 (by decide) rfl ?_
  refine r_aload_n c0 dL_law_358 rfl rfl ?_
  refine r_aload_n c0 dL_law_359 rfl rfl ?_
  refine r_iload c0 dL_law_360 rfl ?_
  refine r_iconst (v := 1) c0 dL_law_362 rfl ?_
  refine r_iadd c0 dL_law_363 ?_
  refine r_sld C (j := 1) (by omega) (by omega) dL_law_364 ?_
  refine r_callV c0 dL_law_365 (m_enter σ1 τ1 (xs (i + 1)) k (by rw [e9.1]; exact hd.2.2.1) hd.1 (tr (P := fun z => dfK z k) (fun _ => rfl) e9.1 e9.2 hd.2.2.2.2.2.2.1) (tr (P := fun z => ∀ c, c < 16 → msK z c) (fun _ => rfl) e9.1 e9.2 hM.2.2.2.2.1) (tr (P := fun z => ∀ c, c < 16 → enB z c k → (∀ d, d < 16 → msK (enS (up3 z 19 0 0 0) c k) d) ∧ ∃ rk : Nat → Nat, ∀ a b, a < 16 → b < 16 → bt (mR (enS (up3 z 19 0 0 0) c k) a) b = true → rk b < rk a) (fun _ => rfl) e9.1 e9.2 (hn_enM hR hd))) rfl ⟨by decide, by decide⟩ rfl rfl kB_X6_enter rfl kI_X6_enter kV_X6_enter kl_L_118 (by decide) (Nat.le_of_ble_eq_true rfl) (by omega) ?_
  intro r9 σ2 τ2 h2
  obtain ⟨b9, rfl⟩ : ∃ x : Int32, r9 = some (.int x) := (by
      repeat' (first | (rcases (h2 : _ ∨ _) with h2 | h2) | (obtain ⟨_, h2⟩ := (h2 : _ ∧ _)) | (obtain ⟨_, h2⟩ := (h2 : ∃ _, _)))
      all_goals exact ⟨_, Eq.symm ‹some (Value.int _) = r9›⟩)
  have hs := s_enter hR hd h1 h2
  obtain ⟨s1, s2, s3⟩ := hs
  refine r_istore c0 dL_law_368 (by decide) rfl ?_
  refine r_aload_n c0 dL_law_370 rfl rfl ?_
  refine r_callV c0 dL_law_371 (m_thrown σ2 τ2) rfl ⟨by decide, by decide⟩ rfl rfl kB_X6_thrown rfl kI_X6_thrown kV_X6_thrown kl_L_102 (by decide) (Nat.le_of_ble_eq_true rfl) (by omega) ?_
  rintro r9 σ' τ' ⟨rfl, rfl, rfl⟩
  refine r_iload c0 dL_law_374 rfl ?_
  refine r_icmpeq (tgt := 381) c0 dL_law_376 (by decide) (fun c9 => ?_) (fun c9 => absurd s1 c9)
  refine r_iload c0 dL_law_381 rfl ?_
  refine r_ifne (tgt := 398) c0 dL_law_383 (by decide) (fun q9 => ?_) (fun q9 => ?_)
  · refine r_goto (tgt := 1670) c0 dL_law_398 (by decide) ?_
    refine r_drop c0 [5, 6] ?_
    exact r_swk (hk _ _ _ (by omega) s3) rfl rfl rfl rfl
  · refine r_aload_n c0 dL_law_386 rfl rfl ?_
    refine r_iconst (v := 0) c0 dL_law_387 rfl ?_
    refine r_laldv (v := b9.toInt64) c0 dL_law_388 ⟨by decide, by decide⟩ rfl (vp_in_nI (show 0 < 1 by decide) (by decide)) (s2 q9) ?_
    refine r_iload c0 dL_law_389 rfl ?_
    refine r_i2l c0 dL_law_391 ?_
    refine r_lcmp c0 dL_law_392 ?_
    rw [lg_cmp_self]
    refine r_ifeq (tgt := 398) c0 dL_law_393 (by decide) (fun q8 => ?_) (fun q8 => absurd rfl q8)
    refine r_goto (tgt := 1670) c0 dL_law_398 (by decide) ?_
    refine r_drop c0 [5, 6] ?_
    exact r_swk (hk _ _ _ (by omega) s3) rfl rfl rfl rfl
set_option maxRecDepth 100000 in
set_option maxHeartbeats 1000000 in
theorem l_input {l : Launch} {D : va_G} {ad : Nat → Nat → Nat} {aC : Nat → ClassId} {b Ls : Nat} {xs : Nat → Int32} {S : gS} (C : LX l D ad aC b Ls xs S) {n i : Nat} {σ : gSig} {τ : gTau} (hR : Rel σ) (hi : i + 4 ≤ Ls) (hL : Ls ≤ 2048) (hn : n + 3 ≤ 10000) (hk : ∀ (n' : Nat) (σ' : gSig) (τ' : gTau), n' ≤ n + 3 → Rel σ' → S n' σ' τ' 1670 (lawL ad b i) []) : S n σ τ 401 (lawL ad b i) [] := by
  have c0 := C.cx
  refine r_aload_n c0 dL_law_401 rfl rfl ?_
  refine r_aload_n c0 dL_law_402 rfl rfl ?_
  refine r_iload c0 dL_law_403 rfl ?_
  refine r_iconst (v := 1) c0 dL_law_405 rfl ?_
  refine r_iadd c0 dL_law_406 ?_
  refine r_sld C (j := 1) (by omega) (by omega) dL_law_407 ?_
  refine r_aload_n c0 dL_law_408 rfl rfl ?_
  refine r_iload c0 dL_law_409 rfl ?_
  refine r_iconst (v := 2) c0 dL_law_411 rfl ?_
  refine r_iadd c0 dL_law_412 ?_
  refine r_sld C (j := 2) (by omega) (by omega) dL_law_413 ?_
  refine r_aload_n c0 dL_law_414 rfl rfl ?_
  refine r_iload c0 dL_law_415 rfl ?_
  refine r_iconst (v := 3) c0 dL_law_417 rfl ?_
  refine r_iadd c0 dL_law_418 ?_
  refine r_sld C (j := 3) (by omega) (by omega) dL_law_419 ?_
  refine r_aload_n c0 dL_law_420 rfl rfl ?_
  refine r_callH C dL_law_421 (w_input (c_input σ τ (xs (i + 1)) (xs (i + 2)) (xs (i + 3)) (fun c lo hi hc => hn_in hR c lo hi hc)) (fun r σ9 τ9 h => (by
      repeat' (first | (rcases (h : _ ∨ _) with h | h) | (obtain ⟨_, h⟩ := (h : _ ∧ _)) | (obtain ⟨_, h⟩ := (h : ∃ _, _)))
      all_goals exact ⟨_, Eq.symm ‹some (Value.int _) = r›⟩)) (fun E σ9 τ9 h => by
      rcases h with ⟨⟨rfl, -⟩ | ⟨rfl, -⟩, -⟩ <;> simp)) rfl kcw_input kini_L (by decide) (by show (parseMethodDescriptor yL_input.desc).map (fun d => d.parameters.length) = some 5; decide +kernel) (by decide) kst_input kl_L_119 (by decide) (Nat.le_of_ble_eq_true rfl) (by omega) ?_
  intro r9 σ1 τ1 h1
  obtain ⟨k0, rfl⟩ := wrQ_int h1
  have e9 : σ1 19 = σ 19 ∧ σ1 20 = σ 20 := by
    have h9 := h1
    rcases h9 with ⟨x9, t9, h9, -, -⟩ | ⟨E9, i9, -, h9, -⟩
    all_goals (repeat' (first | (rcases (h9 : _ ∨ _) with h9 | h9) | (obtain ⟨_, h9⟩ := (h9 : _ ∧ _)) | (obtain ⟨_, h9⟩ := (h9 : ∃ _, _))))
    all_goals (rw [← ‹_ = σ1›]; exact ⟨rfl, rfl⟩)
  refine r_istore c0 dL_law_424 (by decide) rfl ?_
  refine r_aload_n c0 dL_law_426 rfl rfl ?_
  refine r_aload_n c0 dL_law_427 rfl rfl ?_
  refine r_iload c0 dL_law_428 rfl ?_
  refine r_iconst (v := 1) c0 dL_law_430 rfl ?_
  refine r_iadd c0 dL_law_431 ?_
  refine r_sld C (j := 1) (by omega) (by omega) dL_law_432 ?_
  refine r_aload_n c0 dL_law_433 rfl rfl ?_
  refine r_iload c0 dL_law_434 rfl ?_
  refine r_iconst (v := 2) c0 dL_law_436 rfl ?_
  refine r_iadd c0 dL_law_437 ?_
  refine r_sld C (j := 2) (by omega) (by omega) dL_law_438 ?_
  refine r_aload_n c0 dL_law_439 rfl rfl ?_
  refine r_iload c0 dL_law_440 rfl ?_
  refine r_iconst (v := 3) c0 dL_law_442 rfl ?_
  refine r_iadd c0 dL_law_443 ?_
  refine r_sld C (j := 3) (by omega) (by omega) dL_law_444 ?_
  refine r_callV c0 dL_law_445 (m_input σ1 τ1 (xs (i + 1)) (xs (i + 2)) (xs (i + 3)) (tr (P := fun z => ∀ (c : Nat) (lo hi : Int32), c < 16 → (∀ d, d < 16 → msK (miS (up3 z 19 0 0 0) c lo hi) d) ∧ ∃ rk : Nat → Nat, ∀ a b, a < 16 → b < 16 → bt (mR (miS (up3 z 19 0 0 0) c lo hi) a) b = true → rk b < rk a) (fun _ => rfl) e9.1 e9.2 (hn_inM hR))) rfl ⟨by decide, by decide⟩ rfl rfl kB_X6_input rfl kI_X6_input kV_X6_input kl_L_122 (by decide) (Nat.le_of_ble_eq_true rfl) (by omega) ?_
  intro r9 σ2 τ2 h2
  obtain ⟨b9, rfl⟩ : ∃ x : Int32, r9 = some (.int x) := (by
      repeat' (first | (rcases (h2 : _ ∨ _) with h2 | h2) | (obtain ⟨_, h2⟩ := (h2 : _ ∧ _)) | (obtain ⟨_, h2⟩ := (h2 : ∃ _, _)))
      all_goals exact ⟨_, Eq.symm ‹some (Value.int _) = r9›⟩)
  have hs := s_input hR  h1 h2
  obtain ⟨s1, s2, s3⟩ := hs
  refine r_istore c0 dL_law_448 (by decide) rfl ?_
  refine r_aload_n c0 dL_law_450 rfl rfl ?_
  refine r_callV c0 dL_law_451 (m_thrown σ2 τ2) rfl ⟨by decide, by decide⟩ rfl rfl kB_X6_thrown rfl kI_X6_thrown kV_X6_thrown kl_L_102 (by decide) (Nat.le_of_ble_eq_true rfl) (by omega) ?_
  rintro r9 σ' τ' ⟨rfl, rfl, rfl⟩
  refine r_iload c0 dL_law_454 rfl ?_
  refine r_icmpeq (tgt := 461) c0 dL_law_456 (by decide) (fun c9 => ?_) (fun c9 => absurd s1 c9)
  refine r_iload c0 dL_law_461 rfl ?_
  refine r_ifne (tgt := 478) c0 dL_law_463 (by decide) (fun q9 => ?_) (fun q9 => ?_)
  · refine r_goto (tgt := 1670) c0 dL_law_478 (by decide) ?_
    refine r_drop c0 [5, 6] ?_
    exact r_swk (hk _ _ _ (by omega) s3) rfl rfl rfl rfl
  · refine r_aload_n c0 dL_law_466 rfl rfl ?_
    refine r_iconst (v := 0) c0 dL_law_467 rfl ?_
    refine r_laldv (v := b9.toInt64) c0 dL_law_468 ⟨by decide, by decide⟩ rfl (vp_in_nI (show 0 < 1 by decide) (by decide)) (s2 q9) ?_
    refine r_iload c0 dL_law_469 rfl ?_
    refine r_i2l c0 dL_law_471 ?_
    refine r_lcmp c0 dL_law_472 ?_
    rw [lg_cmp_self]
    refine r_ifeq (tgt := 478) c0 dL_law_473 (by decide) (fun q8 => ?_) (fun q8 => absurd rfl q8)
    refine r_goto (tgt := 1670) c0 dL_law_478 (by decide) ?_
    refine r_drop c0 [5, 6] ?_
    exact r_swk (hk _ _ _ (by omega) s3) rfl rfl rfl rfl
set_option maxRecDepth 100000 in
set_option maxHeartbeats 1000000 in
theorem l_set {l : Launch} {D : va_G} {ad : Nat → Nat → Nat} {aC : Nat → ClassId} {b Ls : Nat} {xs : Nat → Int32} {S : gS} (C : LX l D ad aC b Ls xs S) {n i : Nat} {σ : gSig} {τ : gTau} (hR : Rel σ) (hi : i + 4 ≤ Ls) (hL : Ls ≤ 2048) (hn : n + 3 ≤ 10000) (hk : ∀ (n' : Nat) (σ' : gSig) (τ' : gTau), n' ≤ n + 3 → Rel σ' → S n' σ' τ' 1670 (lawL ad b i) []) : S n σ τ 481 (lawL ad b i) [] := by
  have c0 := C.cx
  refine r_aload_n c0 dL_law_481 rfl rfl ?_
  refine r_aload_n c0 dL_law_482 rfl rfl ?_
  refine r_iload c0 dL_law_483 rfl ?_
  refine r_iconst (v := 1) c0 dL_law_485 rfl ?_
  refine r_iadd c0 dL_law_486 ?_
  refine r_sld C (j := 1) (by omega) (by omega) dL_law_487 ?_
  refine r_aload_n c0 dL_law_488 rfl rfl ?_
  refine r_iload c0 dL_law_489 rfl ?_
  refine r_iconst (v := 2) c0 dL_law_491 rfl ?_
  refine r_iadd c0 dL_law_492 ?_
  refine r_sld C (j := 2) (by omega) (by omega) dL_law_493 ?_
  refine r_aload_n c0 dL_law_494 rfl rfl ?_
  refine r_callH C dL_law_495 (w_set (c_set σ τ (xs (i + 1)) (xs (i + 2))) (fun r σ9 τ9 h => (by
      repeat' (first | (rcases (h : _ ∨ _) with h | h) | (obtain ⟨_, h⟩ := (h : _ ∧ _)) | (obtain ⟨_, h⟩ := (h : ∃ _, _)))
      all_goals exact ⟨_, Eq.symm ‹some (Value.int _) = r›⟩)) (fun E σ9 τ9 h => by
      rcases h with ⟨⟨rfl, -⟩ | ⟨rfl, -⟩ | ⟨rfl, -⟩, -⟩ <;> simp)) rfl kcw_set kini_L (by decide) (by show (parseMethodDescriptor yL_set.desc).map (fun d => d.parameters.length) = some 4; decide +kernel) (by decide) kst_set kl_L_123 (by decide) (Nat.le_of_ble_eq_true rfl) (by omega) ?_
  intro r9 σ1 τ1 h1
  obtain ⟨k0, rfl⟩ := wrQ_int h1
  have e9 : σ1 19 = σ 19 ∧ σ1 20 = σ 20 := by
    have h9 := h1
    rcases h9 with ⟨x9, t9, h9, -, -⟩ | ⟨E9, i9, -, h9, -⟩
    all_goals (repeat' (first | (rcases (h9 : _ ∨ _) with h9 | h9) | (obtain ⟨_, h9⟩ := (h9 : _ ∧ _)) | (obtain ⟨_, h9⟩ := (h9 : ∃ _, _))))
    all_goals (rw [← ‹_ = σ1›]; exact ⟨rfl, rfl⟩)
  refine r_istore c0 dL_law_498 (by decide) rfl ?_
  refine r_aload_n c0 dL_law_500 rfl rfl ?_
  refine r_aload_n c0 dL_law_501 rfl rfl ?_
  refine r_iload c0 dL_law_502 rfl ?_
  refine r_iconst (v := 1) c0 dL_law_504 rfl ?_
  refine r_iadd c0 dL_law_505 ?_
  refine r_sld C (j := 1) (by omega) (by omega) dL_law_506 ?_
  refine r_aload_n c0 dL_law_507 rfl rfl ?_
  refine r_iload c0 dL_law_508 rfl ?_
  refine r_iconst (v := 2) c0 dL_law_510 rfl ?_
  refine r_iadd c0 dL_law_511 ?_
  refine r_sld C (j := 2) (by omega) (by omega) dL_law_512 ?_
  refine r_callV c0 dL_law_513 (m_set σ1 τ1 (xs (i + 1)) (xs (i + 2))) rfl ⟨by decide, by decide⟩ rfl rfl kB_X6_set rfl kI_X6_set kV_X6_set kl_L_126 (by decide) (Nat.le_of_ble_eq_true rfl) (by omega) ?_
  intro r9 σ2 τ2 h2
  obtain ⟨b9, rfl⟩ : ∃ x : Int32, r9 = some (.int x) := (by
      repeat' (first | (rcases (h2 : _ ∨ _) with h2 | h2) | (obtain ⟨_, h2⟩ := (h2 : _ ∧ _)) | (obtain ⟨_, h2⟩ := (h2 : ∃ _, _)))
      all_goals exact ⟨_, Eq.symm ‹some (Value.int _) = r9›⟩)
  have hs := s_set hR  h1 h2
  obtain ⟨s1, s2, s3⟩ := hs
  refine r_istore c0 dL_law_516 (by decide) rfl ?_
  refine r_aload_n c0 dL_law_518 rfl rfl ?_
  refine r_callV c0 dL_law_519 (m_thrown σ2 τ2) rfl ⟨by decide, by decide⟩ rfl rfl kB_X6_thrown rfl kI_X6_thrown kV_X6_thrown kl_L_102 (by decide) (Nat.le_of_ble_eq_true rfl) (by omega) ?_
  rintro r9 σ' τ' ⟨rfl, rfl, rfl⟩
  refine r_iload c0 dL_law_522 rfl ?_
  refine r_icmpeq (tgt := 529) c0 dL_law_524 (by decide) (fun c9 => ?_) (fun c9 => absurd s1 c9)
  refine r_iload c0 dL_law_529 rfl ?_
  refine r_ifne (tgt := 546) c0 dL_law_531 (by decide) (fun q9 => ?_) (fun q9 => ?_)
  · refine r_goto (tgt := 1670) c0 dL_law_546 (by decide) ?_
    refine r_drop c0 [5, 6] ?_
    exact r_swk (hk _ _ _ (by omega) s3) rfl rfl rfl rfl
  · refine r_aload_n c0 dL_law_534 rfl rfl ?_
    refine r_iconst (v := 0) c0 dL_law_535 rfl ?_
    refine r_laldv (v := b9.toInt64) c0 dL_law_536 ⟨by decide, by decide⟩ rfl (vp_in_nI (show 0 < 1 by decide) (by decide)) (s2 q9) ?_
    refine r_iload c0 dL_law_537 rfl ?_
    refine r_i2l c0 dL_law_539 ?_
    refine r_lcmp c0 dL_law_540 ?_
    rw [lg_cmp_self]
    refine r_ifeq (tgt := 546) c0 dL_law_541 (by decide) (fun q8 => ?_) (fun q8 => absurd rfl q8)
    refine r_goto (tgt := 1670) c0 dL_law_546 (by decide) ?_
    refine r_drop c0 [5, 6] ?_
    exact r_swk (hk _ _ _ (by omega) s3) rfl rfl rfl rfl
set_option maxRecDepth 100000 in
set_option maxHeartbeats 1000000 in
theorem l_tell {l : Launch} {D : va_G} {ad : Nat → Nat → Nat} {aC : Nat → ClassId} {b Ls : Nat} {xs : Nat → Int32} {S : gS} (C : LX l D ad aC b Ls xs S) {n i : Nat} {σ : gSig} {τ : gTau} (hR : Rel σ) (hi : i + 4 ≤ Ls) (hL : Ls ≤ 2048) (hn : n + 3 ≤ 10000) (hk : ∀ (n' : Nat) (σ' : gSig) (τ' : gTau), n' ≤ n + 3 → Rel σ' → S n' σ' τ' 1670 (lawL ad b i) []) : S n σ τ 549 (lawL ad b i) [] := by
  have c0 := C.cx
  refine r_aload_n c0 dL_law_549 rfl rfl ?_
  refine r_aload_n c0 dL_law_550 rfl rfl ?_
  refine r_iload c0 dL_law_551 rfl ?_
  refine r_iconst (v := 1) c0 dL_law_553 rfl ?_
  refine r_iadd c0 dL_law_554 ?_
  refine r_sld C (j := 1) (by omega) (by omega) dL_law_555 ?_
  refine r_aload_n c0 dL_law_556 rfl rfl ?_
  refine r_iload c0 dL_law_557 rfl ?_
  refine r_iconst (v := 2) c0 dL_law_559 rfl ?_
  refine r_iadd c0 dL_law_560 ?_
  refine r_sld C (j := 2) (by omega) (by omega) dL_law_561 ?_
  refine r_aload_n c0 dL_law_562 rfl rfl ?_
  refine r_iload c0 dL_law_563 rfl ?_
  refine r_iconst (v := 3) c0 dL_law_565 rfl ?_
  refine r_iadd c0 dL_law_566 ?_
  refine r_sld C (j := 3) (by omega) (by omega) dL_law_567 ?_
  refine r_aload_n c0 dL_law_568 rfl rfl ?_
  refine r_callH C dL_law_569 (w_tell (c_tell σ τ (xs (i + 1)) (xs (i + 2)) (xs (i + 3)) (fun c hc => (hR.2.2.1 c hc).elim fun q h => ⟨q, h.1.1, h.1.2.1⟩)) (fun r σ9 τ9 h => (by
      repeat' (first | (rcases (h : _ ∨ _) with h | h) | (obtain ⟨_, h⟩ := (h : _ ∧ _)) | (obtain ⟨_, h⟩ := (h : ∃ _, _)))
      all_goals exact ⟨_, Eq.symm ‹some (Value.int _) = r›⟩)) (fun E σ9 τ9 h => by
      rcases h with ⟨⟨rfl, -⟩ | ⟨rfl, -⟩ | ⟨rfl, -⟩, -⟩ <;> simp)) rfl kcw_tell kini_L (by decide) (by show (parseMethodDescriptor yL_tell.desc).map (fun d => d.parameters.length) = some 5; decide +kernel) (by decide) kst_tell kl_L_127 (by decide) (Nat.le_of_ble_eq_true rfl) (by omega) ?_
  intro r9 σ1 τ1 h1
  obtain ⟨k0, rfl⟩ := wrQ_int h1
  have e9 : σ1 19 = σ 19 ∧ σ1 20 = σ 20 := by
    have h9 := h1
    rcases h9 with ⟨x9, t9, h9, -, -⟩ | ⟨E9, i9, -, h9, -⟩
    all_goals (repeat' (first | (rcases (h9 : _ ∨ _) with h9 | h9) | (obtain ⟨_, h9⟩ := (h9 : _ ∧ _)) | (obtain ⟨_, h9⟩ := (h9 : ∃ _, _))))
    all_goals (rw [← ‹_ = σ1›]; exact ⟨rfl, rfl⟩)
  refine r_istore c0 dL_law_572 (by decide) rfl ?_
  refine r_aload_n c0 dL_law_574 rfl rfl ?_
  refine r_aload_n c0 dL_law_575 rfl rfl ?_
  refine r_iload c0 dL_law_576 rfl ?_
  refine r_iconst (v := 1) c0 dL_law_578 rfl ?_
  refine r_iadd c0 dL_law_579 ?_
  refine r_sld C (j := 1) (by omega) (by omega) dL_law_580 ?_
  refine r_aload_n c0 dL_law_581 rfl rfl ?_
  refine r_iload c0 dL_law_582 rfl ?_
  refine r_iconst (v := 2) c0 dL_law_584 rfl ?_
  refine r_iadd c0 dL_law_585 ?_
  refine r_sld C (j := 2) (by omega) (by omega) dL_law_586 ?_
  refine r_aload_n c0 dL_law_587 rfl rfl ?_
  refine r_iload c0 dL_law_588 rfl ?_
  refine r_iconst (v := 3) c0 dL_law_590 rfl ?_
  refine r_iadd c0 dL_law_591 ?_
  refine r_sld C (j := 3) (by omega) (by omega) dL_law_592 ?_
  refine r_callV c0 dL_law_593 (m_tell σ1 τ1 (xs (i + 1)) (xs (i + 2)) (xs (i + 3)) (fun c hc => (hR.2.2.1 c hc).elim fun q h => ⟨q, by rw [e9.2]; exact h.2.1.1, h.2.1.2.1⟩)) rfl ⟨by decide, by decide⟩ rfl rfl kB_X6_tell rfl kI_X6_tell kV_X6_tell kl_L_129 (by decide) (Nat.le_of_ble_eq_true rfl) (by omega) ?_
  intro r9 σ2 τ2 h2
  obtain ⟨b9, rfl⟩ : ∃ x : Int32, r9 = some (.int x) := (by
      repeat' (first | (rcases (h2 : _ ∨ _) with h2 | h2) | (obtain ⟨_, h2⟩ := (h2 : _ ∧ _)) | (obtain ⟨_, h2⟩ := (h2 : ∃ _, _)))
      all_goals exact ⟨_, Eq.symm ‹some (Value.int _) = r9›⟩)
  have hs := s_tell hR  h1 h2
  obtain ⟨s1, s2, s3⟩ := hs
  refine r_istore c0 dL_law_596 (by decide) rfl ?_
  refine r_aload_n c0 dL_law_598 rfl rfl ?_
  refine r_callV c0 dL_law_599 (m_thrown σ2 τ2) rfl ⟨by decide, by decide⟩ rfl rfl kB_X6_thrown rfl kI_X6_thrown kV_X6_thrown kl_L_102 (by decide) (Nat.le_of_ble_eq_true rfl) (by omega) ?_
  rintro r9 σ' τ' ⟨rfl, rfl, rfl⟩
  refine r_iload c0 dL_law_602 rfl ?_
  refine r_icmpeq (tgt := 609) c0 dL_law_604 (by decide) (fun c9 => ?_) (fun c9 => absurd s1 c9)
  refine r_iload c0 dL_law_609 rfl ?_
  refine r_ifne (tgt := 626) c0 dL_law_611 (by decide) (fun q9 => ?_) (fun q9 => ?_)
  · refine r_goto (tgt := 1670) c0 dL_law_626 (by decide) ?_
    refine r_drop c0 [5, 6] ?_
    exact r_swk (hk _ _ _ (by omega) s3) rfl rfl rfl rfl
  · refine r_aload_n c0 dL_law_614 rfl rfl ?_
    refine r_iconst (v := 0) c0 dL_law_615 rfl ?_
    refine r_laldv (v := b9.toInt64) c0 dL_law_616 ⟨by decide, by decide⟩ rfl (vp_in_nI (show 0 < 1 by decide) (by decide)) (s2 q9) ?_
    refine r_iload c0 dL_law_617 rfl ?_
    refine r_i2l c0 dL_law_619 ?_
    refine r_lcmp c0 dL_law_620 ?_
    rw [lg_cmp_self]
    refine r_ifeq (tgt := 626) c0 dL_law_621 (by decide) (fun q8 => ?_) (fun q8 => absurd rfl q8)
    refine r_goto (tgt := 1670) c0 dL_law_626 (by decide) ?_
    refine r_drop c0 [5, 6] ?_
    exact r_swk (hk _ _ _ (by omega) s3) rfl rfl rfl rfl
set_option maxRecDepth 100000 in
set_option maxHeartbeats 1000000 in
theorem l_drop {l : Launch} {D : va_G} {ad : Nat → Nat → Nat} {aC : Nat → ClassId} {b Ls : Nat} {xs : Nat → Int32} {S : gS} (C : LX l D ad aC b Ls xs S) {n i : Nat} {σ : gSig} {τ : gTau} (hR : Rel σ) (hi : i + 4 ≤ Ls) (hL : Ls ≤ 2048) (hn : n + 3 ≤ 10000) (hk : ∀ (n' : Nat) (σ' : gSig) (τ' : gTau), n' ≤ n + 3 → Rel σ' → S n' σ' τ' 1670 (lawL ad b i) []) : S n σ τ 629 (lawL ad b i) [] := by
  have c0 := C.cx
  refine r_aload_n c0 dL_law_629 rfl rfl ?_
  refine r_aload_n c0 dL_law_630 rfl rfl ?_
  refine r_iload c0 dL_law_631 rfl ?_
  refine r_iconst (v := 1) c0 dL_law_633 rfl ?_
  refine r_iadd c0 dL_law_634 ?_
  refine r_sld C (j := 1) (by omega) (by omega) dL_law_635 ?_
  refine r_aload_n c0 dL_law_636 rfl rfl ?_
  refine r_callH C dL_law_637 (w_drop (c_drop σ τ (xs (i + 1))) (fun r σ9 τ9 h => (by
      repeat' (first | (rcases (h : _ ∨ _) with h | h) | (obtain ⟨_, h⟩ := (h : _ ∧ _)) | (obtain ⟨_, h⟩ := (h : ∃ _, _)))
      all_goals exact ⟨_, Eq.symm ‹some (Value.int _) = r›⟩)) (fun E σ9 τ9 h => by
      rcases h with ⟨⟨rfl, -⟩, -⟩ <;> simp)) rfl kcw_drop kini_L (by decide) (by show (parseMethodDescriptor yL_drop.desc).map (fun d => d.parameters.length) = some 3; decide +kernel) (by decide) kst_drop kl_L_130 (by decide) (Nat.le_of_ble_eq_true rfl) (by omega) ?_
  intro r9 σ1 τ1 h1
  obtain ⟨k0, rfl⟩ := wrQ_int h1
  have e9 : σ1 19 = σ 19 ∧ σ1 20 = σ 20 := by
    have h9 := h1
    rcases h9 with ⟨x9, t9, h9, -, -⟩ | ⟨E9, i9, -, h9, -⟩
    all_goals (repeat' (first | (rcases (h9 : _ ∨ _) with h9 | h9) | (obtain ⟨_, h9⟩ := (h9 : _ ∧ _)) | (obtain ⟨_, h9⟩ := (h9 : ∃ _, _))))
    all_goals (rw [← ‹_ = σ1›]; exact ⟨rfl, rfl⟩)
  refine r_istore c0 dL_law_640 (by decide) rfl ?_
  refine r_aload_n c0 dL_law_642 rfl rfl ?_
  refine r_aload_n c0 dL_law_643 rfl rfl ?_
  refine r_iload c0 dL_law_644 rfl ?_
  refine r_iconst (v := 1) c0 dL_law_646 rfl ?_
  refine r_iadd c0 dL_law_647 ?_
  refine r_sld C (j := 1) (by omega) (by omega) dL_law_648 ?_
  refine r_callV c0 dL_law_649 (m_drop σ1 τ1 (xs (i + 1))) rfl ⟨by decide, by decide⟩ rfl rfl kB_X6_drop rfl kI_X6_drop kV_X6_drop kl_L_132 (by decide) (Nat.le_of_ble_eq_true rfl) (by omega) ?_
  intro r9 σ2 τ2 h2
  obtain ⟨b9, rfl⟩ : ∃ x : Int32, r9 = some (.int x) := (by
      repeat' (first | (rcases (h2 : _ ∨ _) with h2 | h2) | (obtain ⟨_, h2⟩ := (h2 : _ ∧ _)) | (obtain ⟨_, h2⟩ := (h2 : ∃ _, _)))
      all_goals exact ⟨_, Eq.symm ‹some (Value.int _) = r9›⟩)
  have hs := s_drop hR  h1 h2
  obtain ⟨s1, s2, s3⟩ := hs
  refine r_istore c0 dL_law_652 (by decide) rfl ?_
  refine r_aload_n c0 dL_law_654 rfl rfl ?_
  refine r_callV c0 dL_law_655 (m_thrown σ2 τ2) rfl ⟨by decide, by decide⟩ rfl rfl kB_X6_thrown rfl kI_X6_thrown kV_X6_thrown kl_L_102 (by decide) (Nat.le_of_ble_eq_true rfl) (by omega) ?_
  rintro r9 σ' τ' ⟨rfl, rfl, rfl⟩
  refine r_iload c0 dL_law_658 rfl ?_
  refine r_icmpeq (tgt := 665) c0 dL_law_660 (by decide) (fun c9 => ?_) (fun c9 => absurd s1 c9)
  refine r_iload c0 dL_law_665 rfl ?_
  refine r_ifne (tgt := 682) c0 dL_law_667 (by decide) (fun q9 => ?_) (fun q9 => ?_)
  · refine r_goto (tgt := 1670) c0 dL_law_682 (by decide) ?_
    refine r_drop c0 [5, 6] ?_
    exact r_swk (hk _ _ _ (by omega) s3) rfl rfl rfl rfl
  · refine r_aload_n c0 dL_law_670 rfl rfl ?_
    refine r_iconst (v := 0) c0 dL_law_671 rfl ?_
    refine r_laldv (v := b9.toInt64) c0 dL_law_672 ⟨by decide, by decide⟩ rfl (vp_in_nI (show 0 < 1 by decide) (by decide)) (s2 q9) ?_
    refine r_iload c0 dL_law_673 rfl ?_
    refine r_i2l c0 dL_law_675 ?_
    refine r_lcmp c0 dL_law_676 ?_
    rw [lg_cmp_self]
    refine r_ifeq (tgt := 682) c0 dL_law_677 (by decide) (fun q8 => ?_) (fun q8 => absurd rfl q8)
    refine r_goto (tgt := 1670) c0 dL_law_682 (by decide) ?_
    refine r_drop c0 [5, 6] ?_
    exact r_swk (hk _ _ _ (by omega) s3) rfl rfl rfl rfl
set_option maxRecDepth 100000 in
set_option maxHeartbeats 1000000 in
theorem l_own {l : Launch} {D : va_G} {ad : Nat → Nat → Nat} {aC : Nat → ClassId} {b Ls : Nat} {xs : Nat → Int32} {S : gS} (C : LX l D ad aC b Ls xs S) {n i : Nat} {σ : gSig} {τ : gTau} (hR : Rel σ) (hi : i + 4 ≤ Ls) (hL : Ls ≤ 2048) (hn : n + 3 ≤ 10000) (hk : ∀ (n' : Nat) (σ' : gSig) (τ' : gTau), n' ≤ n + 3 → Rel σ' → S n' σ' τ' 1670 (lawL ad b i) []) : S n σ τ 685 (lawL ad b i) [] := by
  have c0 := C.cx
  refine r_aload_n c0 dL_law_685 rfl rfl ?_
  refine r_aload_n c0 dL_law_686 rfl rfl ?_
  refine r_iload c0 dL_law_687 rfl ?_
  refine r_iconst (v := 1) c0 dL_law_689 rfl ?_
  refine r_iadd c0 dL_law_690 ?_
  refine r_sld C (j := 1) (by omega) (by omega) dL_law_691 ?_
  refine r_aload_n c0 dL_law_692 rfl rfl ?_
  refine r_iload c0 dL_law_693 rfl ?_
  refine r_iconst (v := 2) c0 dL_law_695 rfl ?_
  refine r_iadd c0 dL_law_696 ?_
  refine r_sld C (j := 2) (by omega) (by omega) dL_law_697 ?_
  refine r_aload_n c0 dL_law_698 rfl rfl ?_
  refine r_callH C dL_law_699 (w_own (c_own σ τ (xs (i + 1)) (xs (i + 2))) (fun r σ9 τ9 h => (by
      repeat' (first | (rcases (h : _ ∨ _) with h | h) | (obtain ⟨_, h⟩ := (h : _ ∧ _)) | (obtain ⟨_, h⟩ := (h : ∃ _, _)))
      all_goals exact ⟨_, Eq.symm ‹some (Value.int _) = r›⟩)) (fun E σ9 τ9 h => by
      rcases h with ⟨⟨rfl, -⟩ | ⟨rfl, -⟩, -⟩ <;> simp)) rfl kcw_own kini_L (by decide) (by show (parseMethodDescriptor yL_own.desc).map (fun d => d.parameters.length) = some 4; decide +kernel) (by decide) kst_own kl_L_133 (by decide) (Nat.le_of_ble_eq_true rfl) (by omega) ?_
  intro r9 σ1 τ1 h1
  obtain ⟨k0, rfl⟩ := wrQ_int h1
  have e9 : σ1 19 = σ 19 ∧ σ1 20 = σ 20 := by
    have h9 := h1
    rcases h9 with ⟨x9, t9, h9, -, -⟩ | ⟨E9, i9, -, h9, -⟩
    all_goals (repeat' (first | (rcases (h9 : _ ∨ _) with h9 | h9) | (obtain ⟨_, h9⟩ := (h9 : _ ∧ _)) | (obtain ⟨_, h9⟩ := (h9 : ∃ _, _))))
    all_goals (rw [← ‹_ = σ1›]; exact ⟨rfl, rfl⟩)
  refine r_istore c0 dL_law_702 (by decide) rfl ?_
  refine r_aload_n c0 dL_law_704 rfl rfl ?_
  refine r_aload_n c0 dL_law_705 rfl rfl ?_
  refine r_iload c0 dL_law_706 rfl ?_
  refine r_iconst (v := 1) c0 dL_law_708 rfl ?_
  refine r_iadd c0 dL_law_709 ?_
  refine r_sld C (j := 1) (by omega) (by omega) dL_law_710 ?_
  refine r_aload_n c0 dL_law_711 rfl rfl ?_
  refine r_iload c0 dL_law_712 rfl ?_
  refine r_iconst (v := 2) c0 dL_law_714 rfl ?_
  refine r_iadd c0 dL_law_715 ?_
  refine r_sld C (j := 2) (by omega) (by omega) dL_law_716 ?_
  refine r_callV c0 dL_law_717 (m_own σ1 τ1 (xs (i + 1)) (xs (i + 2))) rfl ⟨by decide, by decide⟩ rfl rfl kB_X6_own rfl kI_X6_own kV_X6_own kl_L_135 (by decide) (Nat.le_of_ble_eq_true rfl) (by omega) ?_
  intro r9 σ2 τ2 h2
  obtain ⟨b9, rfl⟩ : ∃ x : Int32, r9 = some (.int x) := (by
      repeat' (first | (rcases (h2 : _ ∨ _) with h2 | h2) | (obtain ⟨_, h2⟩ := (h2 : _ ∧ _)) | (obtain ⟨_, h2⟩ := (h2 : ∃ _, _)))
      all_goals exact ⟨_, Eq.symm ‹some (Value.int _) = r9›⟩)
  have hs := s_own hR  h1 h2
  obtain ⟨s1, s2, s3⟩ := hs
  refine r_istore c0 dL_law_720 (by decide) rfl ?_
  refine r_aload_n c0 dL_law_722 rfl rfl ?_
  refine r_callV c0 dL_law_723 (m_thrown σ2 τ2) rfl ⟨by decide, by decide⟩ rfl rfl kB_X6_thrown rfl kI_X6_thrown kV_X6_thrown kl_L_102 (by decide) (Nat.le_of_ble_eq_true rfl) (by omega) ?_
  rintro r9 σ' τ' ⟨rfl, rfl, rfl⟩
  refine r_iload c0 dL_law_726 rfl ?_
  refine r_icmpeq (tgt := 733) c0 dL_law_728 (by decide) (fun c9 => ?_) (fun c9 => absurd s1 c9)
  refine r_iload c0 dL_law_733 rfl ?_
  refine r_ifne (tgt := 750) c0 dL_law_735 (by decide) (fun q9 => ?_) (fun q9 => ?_)
  · refine r_goto (tgt := 1670) c0 dL_law_750 (by decide) ?_
    refine r_drop c0 [5, 6] ?_
    exact r_swk (hk _ _ _ (by omega) s3) rfl rfl rfl rfl
  · refine r_aload_n c0 dL_law_738 rfl rfl ?_
    refine r_iconst (v := 0) c0 dL_law_739 rfl ?_
    refine r_laldv (v := b9.toInt64) c0 dL_law_740 ⟨by decide, by decide⟩ rfl (vp_in_nI (show 0 < 1 by decide) (by decide)) (s2 q9) ?_
    refine r_iload c0 dL_law_741 rfl ?_
    refine r_i2l c0 dL_law_743 ?_
    refine r_lcmp c0 dL_law_744 ?_
    rw [lg_cmp_self]
    refine r_ifeq (tgt := 750) c0 dL_law_745 (by decide) (fun q8 => ?_) (fun q8 => absurd rfl q8)
    refine r_goto (tgt := 1670) c0 dL_law_750 (by decide) ?_
    refine r_drop c0 [5, 6] ?_
    exact r_swk (hk _ _ _ (by omega) s3) rfl rfl rfl rfl
set_option maxRecDepth 100000 in
set_option maxHeartbeats 1000000 in
theorem l_attempt {l : Launch} {D : va_G} {ad : Nat → Nat → Nat} {aC : Nat → ClassId} {b Ls : Nat} {xs : Nat → Int32} {S : gS} (C : LX l D ad aC b Ls xs S) {n i : Nat} {σ : gSig} {τ : gTau} (hR : Rel σ) (hi : i + 4 ≤ Ls) (hL : Ls ≤ 2048) (hn : n + 3 ≤ 10000) (hk : ∀ (n' : Nat) (σ' : gSig) (τ' : gTau), n' ≤ n + 3 → Rel σ' → S n' σ' τ' 1670 (lawL ad b i) []) : S n σ τ 753 (lawL ad b i) [] := by
  have c0 := C.cx
  obtain ⟨⟨o, hK⟩, ⟨o2, hM⟩, -, -⟩ := id hR.2.1
  refine r_aload_n c0 dL_law_753 rfl rfl ?_
  refine r_aload_n c0 dL_law_754 rfl rfl ?_
  refine r_iload c0 dL_law_755 rfl ?_
  refine r_iconst (v := 1) c0 dL_law_757 rfl ?_
  refine r_iadd c0 dL_law_758 ?_
  refine r_sld C (j := 1) (by omega) (by omega) dL_law_759 ?_
  refine r_aload_n c0 dL_law_760 rfl rfl ?_
  refine r_iload c0 dL_law_761 rfl ?_
  refine r_iconst (v := 2) c0 dL_law_763 rfl ?_
  refine r_iadd c0 dL_law_764 ?_
  refine r_sld C (j := 2) (by omega) (by omega) dL_law_765 ?_
  refine r_aload_n c0 dL_law_766 rfl rfl ?_
  refine r_iload c0 dL_law_767 rfl ?_
  refine r_iconst (v := 3) c0 dL_law_769 rfl ?_
  refine r_iadd c0 dL_law_770 ?_
  refine r_sld C (j := 3) (by omega) (by omega) dL_law_771 ?_
  refine r_aload_n c0 dL_law_772 rfl rfl ?_
  refine r_callH C dL_law_773 (w_attempt (c_attempt σ τ (xs (i + 1)) (xs (i + 2)) (xs (i + 3)) o hK (fun c hc => (hR.2.2.1 c hc).elim fun q h => ⟨q, h.1⟩) hR.2.1.2.2.1) (fun r σ9 τ9 h => (by
      obtain ⟨c, sdn, Rn, q, -, -, -, -, -, -, -, -, h⟩ := h
      exact at_int h)) (fun E σ9 τ9 h => by
      rcases h with ⟨⟨rfl, -⟩ | ⟨rfl, -⟩, -⟩ <;> simp)) rfl kcw_attempt kini_L (by decide) (by show (parseMethodDescriptor yL_attempt.desc).map (fun d => d.parameters.length) = some 5; decide +kernel) (by decide) kst_attempt kl_L_136 (by decide) (Nat.le_of_ble_eq_true rfl) (by omega) ?_
  intro r9 σ1 τ1 h1
  obtain ⟨k0, rfl⟩ := wrQ_int h1
  have e9 : σ1 19 = σ 19 ∧ σ1 20 = σ 20 := by
    have h9 := h1
    rcases h9 with ⟨x9, t9, ⟨c, sdn, Rn, q, -, -, -, -, -, -, -, -, h9⟩, -, -⟩ | ⟨E9, i9, -, ⟨-, rfl, rfl⟩, -⟩
    · exact at_20 h9
    · exact ⟨rfl, rfl⟩
  have hM1 : moK σ1 o2 := tr (P := fun z => moK z o2) (fun _ => rfl) e9.1 e9.2 hM
  refine r_istore c0 dL_law_776 (by decide) rfl ?_
  refine r_aload_n c0 dL_law_778 rfl rfl ?_
  refine r_aload_n c0 dL_law_779 rfl rfl ?_
  refine r_iload c0 dL_law_780 rfl ?_
  refine r_iconst (v := 1) c0 dL_law_782 rfl ?_
  refine r_iadd c0 dL_law_783 ?_
  refine r_sld C (j := 1) (by omega) (by omega) dL_law_784 ?_
  refine r_aload_n c0 dL_law_785 rfl rfl ?_
  refine r_iload c0 dL_law_786 rfl ?_
  refine r_iconst (v := 2) c0 dL_law_788 rfl ?_
  refine r_iadd c0 dL_law_789 ?_
  refine r_sld C (j := 2) (by omega) (by omega) dL_law_790 ?_
  refine r_aload_n c0 dL_law_791 rfl rfl ?_
  refine r_iload c0 dL_law_792 rfl ?_
  refine r_iconst (v := 3) c0 dL_law_794 rfl ?_
  refine r_iadd c0 dL_law_795 ?_
  refine r_sld C (j := 3) (by omega) (by omega) dL_law_796 ?_
  refine r_callV c0 dL_law_797 (m_attempt σ1 τ1 (xs (i + 1)) (xs (i + 2)) (xs (i + 3)) (flM σ1) (wvM σ1) o2 hM1 (mLK_of hM1) (tr (P := fun z => ∀ c, c < 16 → ∃ q, mpK z c q) (fun _ => rfl) e9.1 e9.2 (fun c hc => (hR.2.2.1 c hc).elim fun q h => ⟨q, h.2.1⟩)) (tr (P := fun z => rgK (mIn z) (z 20 5) (z 20 6)) (fun _ => rfl) e9.1 e9.2 (rel_rgM hR.2.1))) rfl ⟨by decide, by decide⟩ rfl rfl kB_X6_attempt rfl kI_X6_attempt kV_X6_attempt kl_L_138 (by decide) (Nat.le_of_ble_eq_true rfl) (by omega) ?_
  intro r9 σ2 τ2 h2
  obtain ⟨b9, rfl⟩ : ∃ x : Int32, r9 = some (.int x) := (by
      repeat' (first | (rcases (h2 : _ ∨ _) with h2 | h2) | (obtain ⟨_, h2⟩ := (h2 : _ ∧ _)) | (obtain ⟨_, h2⟩ := (h2 : ∃ _, _)))
      all_goals exact ⟨_, Eq.symm ‹some (Value.int _) = r9›⟩)
  have hs := s_attempt hR hK hM h1 h2
  obtain ⟨s1, s2, s3⟩ := hs
  refine r_istore c0 dL_law_800 (by decide) rfl ?_
  refine r_aload_n c0 dL_law_802 rfl rfl ?_
  refine r_callV c0 dL_law_803 (m_thrown σ2 τ2) rfl ⟨by decide, by decide⟩ rfl rfl kB_X6_thrown rfl kI_X6_thrown kV_X6_thrown kl_L_102 (by decide) (Nat.le_of_ble_eq_true rfl) (by omega) ?_
  rintro r9 σ' τ' ⟨rfl, rfl, rfl⟩
  refine r_iload c0 dL_law_806 rfl ?_
  refine r_icmpeq (tgt := 813) c0 dL_law_808 (by decide) (fun c9 => ?_) (fun c9 => absurd s1 c9)
  refine r_iload c0 dL_law_813 rfl ?_
  refine r_ifne (tgt := 830) c0 dL_law_815 (by decide) (fun q9 => ?_) (fun q9 => ?_)
  · refine r_goto (tgt := 1670) c0 dL_law_830 (by decide) ?_
    refine r_drop c0 [5, 6] ?_
    exact r_swk (hk _ _ _ (by omega) s3) rfl rfl rfl rfl
  · refine r_aload_n c0 dL_law_818 rfl rfl ?_
    refine r_iconst (v := 0) c0 dL_law_819 rfl ?_
    refine r_laldv (v := b9.toInt64) c0 dL_law_820 ⟨by decide, by decide⟩ rfl (vp_in_nI (show 0 < 1 by decide) (by decide)) (s2 q9) ?_
    refine r_iload c0 dL_law_821 rfl ?_
    refine r_i2l c0 dL_law_823 ?_
    refine r_lcmp c0 dL_law_824 ?_
    rw [lg_cmp_self]
    refine r_ifeq (tgt := 830) c0 dL_law_825 (by decide) (fun q8 => ?_) (fun q8 => absurd rfl q8)
    refine r_goto (tgt := 1670) c0 dL_law_830 (by decide) ?_
    refine r_drop c0 [5, 6] ?_
    exact r_swk (hk _ _ _ (by omega) s3) rfl rfl rfl rfl
set_option maxRecDepth 100000 in
set_option maxHeartbeats 1000000 in
theorem l_waive {l : Launch} {D : va_G} {ad : Nat → Nat → Nat} {aC : Nat → ClassId} {b Ls : Nat} {xs : Nat → Int32} {S : gS} (C : LX l D ad aC b Ls xs S) {n i : Nat} {σ : gSig} {τ : gTau} (hR : Rel σ) (hi : i + 4 ≤ Ls) (hL : Ls ≤ 2048) (hn : n + 3 ≤ 10000) (hk : ∀ (n' : Nat) (σ' : gSig) (τ' : gTau), n' ≤ n + 3 → Rel σ' → S n' σ' τ' 1670 (lawL ad b i) []) : S n σ τ 833 (lawL ad b i) [] := by
  have c0 := C.cx
  obtain ⟨⟨o, hK⟩, ⟨o2, hM⟩, -, -⟩ := id hR.2.1
  refine r_aload_n c0 dL_law_833 rfl rfl ?_
  refine r_aload_n c0 dL_law_834 rfl rfl ?_
  refine r_iload c0 dL_law_835 rfl ?_
  refine r_iconst (v := 1) c0 dL_law_837 rfl ?_
  refine r_iadd c0 dL_law_838 ?_
  refine r_sld C (j := 1) (by omega) (by omega) dL_law_839 ?_
  refine r_aload_n c0 dL_law_840 rfl rfl ?_
  refine r_iload c0 dL_law_841 rfl ?_
  refine r_iconst (v := 2) c0 dL_law_843 rfl ?_
  refine r_iadd c0 dL_law_844 ?_
  refine r_sld C (j := 2) (by omega) (by omega) dL_law_845 ?_
  refine r_aload_n c0 dL_law_846 rfl rfl ?_
  refine r_iload c0 dL_law_847 rfl ?_
  refine r_iconst (v := 3) c0 dL_law_849 rfl ?_
  refine r_iadd c0 dL_law_850 ?_
  refine r_sld C (j := 3) (by omega) (by omega) dL_law_851 ?_
  refine r_aload_n c0 dL_law_852 rfl rfl ?_
  refine r_callH C dL_law_853 (w_waive (c_waive σ τ (xs (i + 1)) (xs (i + 2)) (xs (i + 3)) o hK.1) (fun r σ9 τ9 h => (by
      repeat' (first | (rcases (h : _ ∨ _) with h | h) | (obtain ⟨_, h⟩ := (h : _ ∧ _)) | (obtain ⟨_, h⟩ := (h : ∃ _, _)))
      all_goals exact ⟨_, Eq.symm ‹some (Value.int _) = r›⟩)) (fun E σ9 τ9 h => by
      rcases h with ⟨⟨rfl, -⟩ | ⟨rfl, -⟩ | ⟨rfl, -⟩, -⟩ <;> simp)) rfl kcw_waive kini_L (by decide) (by show (parseMethodDescriptor yL_waive.desc).map (fun d => d.parameters.length) = some 5; decide +kernel) (by decide) kst_waive kl_L_139 (by decide) (Nat.le_of_ble_eq_true rfl) (by omega) ?_
  intro r9 σ1 τ1 h1
  obtain ⟨k0, rfl⟩ := wrQ_int h1
  have e9 : σ1 19 = σ 19 ∧ σ1 20 = σ 20 := by
    have h9 := h1
    rcases h9 with ⟨x9, t9, h9, -, -⟩ | ⟨E9, i9, -, h9, -⟩
    all_goals (repeat' (first | (rcases (h9 : _ ∨ _) with h9 | h9) | (obtain ⟨_, h9⟩ := (h9 : _ ∧ _)) | (obtain ⟨_, h9⟩ := (h9 : ∃ _, _))))
    all_goals (rw [← ‹_ = σ1›]; exact ⟨rfl, rfl⟩)
  have hM1 : moK σ1 o2 := tr (P := fun z => moK z o2) (fun _ => rfl) e9.1 e9.2 hM
  refine r_istore c0 dL_law_856 (by decide) rfl ?_
  refine r_aload_n c0 dL_law_858 rfl rfl ?_
  refine r_aload_n c0 dL_law_859 rfl rfl ?_
  refine r_iload c0 dL_law_860 rfl ?_
  refine r_iconst (v := 1) c0 dL_law_862 rfl ?_
  refine r_iadd c0 dL_law_863 ?_
  refine r_sld C (j := 1) (by omega) (by omega) dL_law_864 ?_
  refine r_aload_n c0 dL_law_865 rfl rfl ?_
  refine r_iload c0 dL_law_866 rfl ?_
  refine r_iconst (v := 2) c0 dL_law_868 rfl ?_
  refine r_iadd c0 dL_law_869 ?_
  refine r_sld C (j := 2) (by omega) (by omega) dL_law_870 ?_
  refine r_aload_n c0 dL_law_871 rfl rfl ?_
  refine r_iload c0 dL_law_872 rfl ?_
  refine r_iconst (v := 3) c0 dL_law_874 rfl ?_
  refine r_iadd c0 dL_law_875 ?_
  refine r_sld C (j := 3) (by omega) (by omega) dL_law_876 ?_
  refine r_callV c0 dL_law_877 (m_waive σ1 τ1 (xs (i + 1)) (xs (i + 2)) (xs (i + 3)) (flM σ1) (wvM σ1) (fun z => wvM (up3 (up3 σ1 19 0 0 0) 20 17 z (σ1 19 0 1 + (xs (i + 3))))) o2 (mLK_of hM1) (fun c hc => mLK_of (moK_of (σ := σ1) rfl rfl rfl rfl hM1))) rfl ⟨by decide, by decide⟩ rfl rfl kB_X6_waive rfl kI_X6_waive kV_X6_waive kl_L_141 (by decide) (Nat.le_of_ble_eq_true rfl) (by omega) ?_
  intro r9 σ2 τ2 h2
  obtain ⟨b9, rfl⟩ : ∃ x : Int32, r9 = some (.int x) := (by
      repeat' (first | (rcases (h2 : _ ∨ _) with h2 | h2) | (obtain ⟨_, h2⟩ := (h2 : _ ∧ _)) | (obtain ⟨_, h2⟩ := (h2 : ∃ _, _)))
      all_goals exact ⟨_, Eq.symm ‹some (Value.int _) = r9›⟩)
  have hs := s_waive hR hK hM h1 h2
  obtain ⟨s1, s2, s3⟩ := hs
  refine r_istore c0 dL_law_880 (by decide) rfl ?_
  refine r_aload_n c0 dL_law_882 rfl rfl ?_
  refine r_callV c0 dL_law_883 (m_thrown σ2 τ2) rfl ⟨by decide, by decide⟩ rfl rfl kB_X6_thrown rfl kI_X6_thrown kV_X6_thrown kl_L_102 (by decide) (Nat.le_of_ble_eq_true rfl) (by omega) ?_
  rintro r9 σ' τ' ⟨rfl, rfl, rfl⟩
  refine r_iload c0 dL_law_886 rfl ?_
  refine r_icmpeq (tgt := 893) c0 dL_law_888 (by decide) (fun c9 => ?_) (fun c9 => absurd s1 c9)
  refine r_iload c0 dL_law_893 rfl ?_
  refine r_ifne (tgt := 910) c0 dL_law_895 (by decide) (fun q9 => ?_) (fun q9 => ?_)
  · refine r_goto (tgt := 1670) c0 dL_law_910 (by decide) ?_
    refine r_drop c0 [5, 6] ?_
    exact r_swk (hk _ _ _ (by omega) s3) rfl rfl rfl rfl
  · refine r_aload_n c0 dL_law_898 rfl rfl ?_
    refine r_iconst (v := 0) c0 dL_law_899 rfl ?_
    refine r_laldv (v := b9.toInt64) c0 dL_law_900 ⟨by decide, by decide⟩ rfl (vp_in_nI (show 0 < 1 by decide) (by decide)) (s2 q9) ?_
    refine r_iload c0 dL_law_901 rfl ?_
    refine r_i2l c0 dL_law_903 ?_
    refine r_lcmp c0 dL_law_904 ?_
    rw [lg_cmp_self]
    refine r_ifeq (tgt := 910) c0 dL_law_905 (by decide) (fun q8 => ?_) (fun q8 => absurd rfl q8)
    refine r_goto (tgt := 1670) c0 dL_law_910 (by decide) ?_
    refine r_drop c0 [5, 6] ?_
    exact r_swk (hk _ _ _ (by omega) s3) rfl rfl rfl rfl
set_option maxRecDepth 100000 in
set_option maxHeartbeats 1000000 in
theorem l_pass {l : Launch} {D : va_G} {ad : Nat → Nat → Nat} {aC : Nat → ClassId} {b Ls : Nat} {xs : Nat → Int32} {S : gS} (C : LX l D ad aC b Ls xs S) {n i : Nat} {σ : gSig} {τ : gTau} (hR : Rel σ) (hi : i + 4 ≤ Ls) (hL : Ls ≤ 2048) (hn : n + 3 ≤ 10000) (hk : ∀ (n' : Nat) (σ' : gSig) (τ' : gTau), n' ≤ n + 3 → Rel σ' → S n' σ' τ' 1670 (lawL ad b i) []) : S n σ τ 913 (lawL ad b i) [] := by
  have c0 := C.cx
  obtain ⟨⟨o, hK⟩, ⟨o2, hM⟩, -, -⟩ := id hR.2.1
  refine r_aload_n c0 dL_law_913 rfl rfl ?_
  refine r_aload_n c0 dL_law_914 rfl rfl ?_
  refine r_iload c0 dL_law_915 rfl ?_
  refine r_iconst (v := 1) c0 dL_law_917 rfl ?_
  refine r_iadd c0 dL_law_918 ?_
  refine r_sld C (j := 1) (by omega) (by omega) dL_law_919 ?_
  refine r_aload_n c0 dL_law_920 rfl rfl ?_
  refine r_callH C dL_law_921 (w_pass (c_pass σ τ (xs (i + 1)) o hK.1) (fun r σ9 τ9 h => (by
      repeat' (first | (rcases (h : _ ∨ _) with h | h) | (obtain ⟨_, h⟩ := (h : _ ∧ _)) | (obtain ⟨_, h⟩ := (h : ∃ _, _)))
      all_goals exact ⟨_, Eq.symm ‹some (Value.int _) = r›⟩)) (fun E σ9 τ9 h => by
      rcases h with ⟨⟨rfl, -⟩ | ⟨rfl, -⟩, -⟩ <;> simp)) rfl kcw_pass kini_L (by decide) (by show (parseMethodDescriptor yL_pass.desc).map (fun d => d.parameters.length) = some 3; decide +kernel) (by decide) kst_pass kl_L_142 (by decide) (Nat.le_of_ble_eq_true rfl) (by omega) ?_
  intro r9 σ1 τ1 h1
  obtain ⟨k0, rfl⟩ := wrQ_int h1
  have e9 : σ1 19 = σ 19 ∧ σ1 20 = σ 20 := by
    have h9 := h1
    rcases h9 with ⟨x9, t9, h9, -, -⟩ | ⟨E9, i9, -, h9, -⟩
    all_goals (repeat' (first | (rcases (h9 : _ ∨ _) with h9 | h9) | (obtain ⟨_, h9⟩ := (h9 : _ ∧ _)) | (obtain ⟨_, h9⟩ := (h9 : ∃ _, _))))
    all_goals (rw [← ‹_ = σ1›]; exact ⟨rfl, rfl⟩)
  have hM1 : moK σ1 o2 := tr (P := fun z => moK z o2) (fun _ => rfl) e9.1 e9.2 hM
  refine r_istore c0 dL_law_924 (by decide) rfl ?_
  refine r_aload_n c0 dL_law_926 rfl rfl ?_
  refine r_aload_n c0 dL_law_927 rfl rfl ?_
  refine r_iload c0 dL_law_928 rfl ?_
  refine r_iconst (v := 1) c0 dL_law_930 rfl ?_
  refine r_iadd c0 dL_law_931 ?_
  refine r_sld C (j := 1) (by omega) (by omega) dL_law_932 ?_
  refine r_callV c0 dL_law_933 (m_pass σ1 τ1 (xs (i + 1)) (flM σ1) (wvM (up3 (up3 σ1 19 0 0 0) 19 0 1 (σ1 19 0 1 + (xs (i + 1))))) o2 (mLK_of (moK_of (σ := σ1) rfl rfl rfl rfl hM1))) rfl ⟨by decide, by decide⟩ rfl rfl kB_X6_pass rfl kI_X6_pass kV_X6_pass kl_L_144 (by decide) (Nat.le_of_ble_eq_true rfl) (by omega) ?_
  intro r9 σ2 τ2 h2
  obtain ⟨b9, rfl⟩ : ∃ x : Int32, r9 = some (.int x) := (by
      repeat' (first | (rcases (h2 : _ ∨ _) with h2 | h2) | (obtain ⟨_, h2⟩ := (h2 : _ ∧ _)) | (obtain ⟨_, h2⟩ := (h2 : ∃ _, _)))
      all_goals exact ⟨_, Eq.symm ‹some (Value.int _) = r9›⟩)
  have hs := s_pass hR hK hM h1 h2
  obtain ⟨s1, s2, s3⟩ := hs
  refine r_istore c0 dL_law_936 (by decide) rfl ?_
  refine r_aload_n c0 dL_law_938 rfl rfl ?_
  refine r_callV c0 dL_law_939 (m_thrown σ2 τ2) rfl ⟨by decide, by decide⟩ rfl rfl kB_X6_thrown rfl kI_X6_thrown kV_X6_thrown kl_L_102 (by decide) (Nat.le_of_ble_eq_true rfl) (by omega) ?_
  rintro r9 σ' τ' ⟨rfl, rfl, rfl⟩
  refine r_iload c0 dL_law_942 rfl ?_
  refine r_icmpeq (tgt := 949) c0 dL_law_944 (by decide) (fun c9 => ?_) (fun c9 => absurd s1 c9)
  refine r_iload c0 dL_law_949 rfl ?_
  refine r_ifne (tgt := 966) c0 dL_law_951 (by decide) (fun q9 => ?_) (fun q9 => ?_)
  · refine r_goto (tgt := 1670) c0 dL_law_966 (by decide) ?_
    refine r_drop c0 [5, 6] ?_
    exact r_swk (hk _ _ _ (by omega) s3) rfl rfl rfl rfl
  · refine r_aload_n c0 dL_law_954 rfl rfl ?_
    refine r_iconst (v := 0) c0 dL_law_955 rfl ?_
    refine r_laldv (v := b9.toInt64) c0 dL_law_956 ⟨by decide, by decide⟩ rfl (vp_in_nI (show 0 < 1 by decide) (by decide)) (s2 q9) ?_
    refine r_iload c0 dL_law_957 rfl ?_
    refine r_i2l c0 dL_law_959 ?_
    refine r_lcmp c0 dL_law_960 ?_
    rw [lg_cmp_self]
    refine r_ifeq (tgt := 966) c0 dL_law_961 (by decide) (fun q8 => ?_) (fun q8 => absurd rfl q8)
    refine r_goto (tgt := 1670) c0 dL_law_966 (by decide) ?_
    refine r_drop c0 [5, 6] ?_
    exact r_swk (hk _ _ _ (by omega) s3) rfl rfl rfl rfl
set_option maxRecDepth 100000 in
set_option maxHeartbeats 1000000 in
theorem l_drafted {l : Launch} {D : va_G} {ad : Nat → Nat → Nat} {aC : Nat → ClassId} {b Ls : Nat} {xs : Nat → Int32} {S : gS} (C : LX l D ad aC b Ls xs S) {n i : Nat} {σ : gSig} {τ : gTau} (hR : Rel σ) (hi : i + 4 ≤ Ls) (hL : Ls ≤ 2048) (hn : n + 3 ≤ 10000) (hk : ∀ (n' : Nat) (σ' : gSig) (τ' : gTau), n' ≤ n + 3 → Rel σ' → S n' σ' τ' 1670 (lawL ad b i) []) : S n σ τ 969 (lawL ad b i) [] := by
  have c0 := C.cx
  obtain ⟨k, hd⟩ := hR.1
  refine r_aload_n c0 dL_law_969 rfl rfl ?_
  refine r_callV c0 dL_law_970 (c_drafted σ τ ) rfl ⟨by decide, by decide⟩ rfl rfl kB_X5_drafted rfl kI_X5_drafted kV_X5_drafted kl_L_145 (by decide) (Nat.le_of_ble_eq_true rfl) (by omega) ?_
  intro r9 σ1 τ1 h1
  obtain ⟨x9, rfl⟩ : ∃ x : Int32, r9 = some (.int x) := ⟨_, h1.1.symm⟩
  have e9 : σ1 19 = σ 19 ∧ σ1 20 = σ 20 := by
    rw [← h1.2.1]; exact ⟨rfl, rfl⟩
  refine r_aload_n c0 dL_law_973 rfl rfl ?_
  refine r_callV c0 dL_law_974 (m_drafted σ1 τ1 ) rfl ⟨by decide, by decide⟩ rfl rfl kB_X6_drafted rfl kI_X6_drafted kV_X6_drafted kl_L_148 (by decide) (Nat.le_of_ble_eq_true rfl) (by omega) ?_
  intro r9 σ2 τ2 h2
  obtain ⟨b9, rfl⟩ : ∃ x : Int32, r9 = some (.int x) := (by
      repeat' (first | (rcases (h2 : _ ∨ _) with h2 | h2) | (obtain ⟨_, h2⟩ := (h2 : _ ∧ _)) | (obtain ⟨_, h2⟩ := (h2 : ∃ _, _)))
      all_goals exact ⟨_, Eq.symm ‹some (Value.int _) = r9›⟩)
  have hs := s_drafted hR hd h1 h2
  refine r_icmpeq (tgt := 1670) c0 dL_law_977 (by decide) (fun c9 => ?_) (fun c9 => absurd hs.1 c9)
  exact hk _ _ _ (by omega) hs.2
set_option maxRecDepth 100000 in
set_option maxHeartbeats 1000000 in
theorem l_today {l : Launch} {D : va_G} {ad : Nat → Nat → Nat} {aC : Nat → ClassId} {b Ls : Nat} {xs : Nat → Int32} {S : gS} (C : LX l D ad aC b Ls xs S) {n i : Nat} {σ : gSig} {τ : gTau} (hR : Rel σ) (hi : i + 4 ≤ Ls) (hL : Ls ≤ 2048) (hn : n + 3 ≤ 10000) (hk : ∀ (n' : Nat) (σ' : gSig) (τ' : gTau), n' ≤ n + 3 → Rel σ' → S n' σ' τ' 1670 (lawL ad b i) []) : S n σ τ 982 (lawL ad b i) [] := by
  have c0 := C.cx
  refine r_aload_n c0 dL_law_982 rfl rfl ?_
  refine r_callV c0 dL_law_983 (c_today σ τ ) rfl ⟨by decide, by decide⟩ rfl rfl kB_X5_today rfl kI_X5_today kV_X5_today kl_L_149 (by decide) (Nat.le_of_ble_eq_true rfl) (by omega) ?_
  intro r9 σ1 τ1 h1
  obtain ⟨x9, rfl⟩ : ∃ x : Int32, r9 = some (.int x) := ⟨_, h1.1.symm⟩
  have e9 : σ1 19 = σ 19 ∧ σ1 20 = σ 20 := by
    rw [← h1.2.1]; exact ⟨rfl, rfl⟩
  refine r_aload_n c0 dL_law_986 rfl rfl ?_
  refine r_callV c0 dL_law_987 (m_today σ1 τ1 ) rfl ⟨by decide, by decide⟩ rfl rfl kB_X6_today rfl kI_X6_today kV_X6_today kl_L_152 (by decide) (Nat.le_of_ble_eq_true rfl) (by omega) ?_
  intro r9 σ2 τ2 h2
  obtain ⟨b9, rfl⟩ : ∃ x : Int32, r9 = some (.int x) := (by
      repeat' (first | (rcases (h2 : _ ∨ _) with h2 | h2) | (obtain ⟨_, h2⟩ := (h2 : _ ∧ _)) | (obtain ⟨_, h2⟩ := (h2 : ∃ _, _)))
      all_goals exact ⟨_, Eq.symm ‹some (Value.int _) = r9›⟩)
  have hs := s_today hR  h1 h2
  refine r_icmpeq (tgt := 1670) c0 dL_law_990 (by decide) (fun c9 => ?_) (fun c9 => absurd hs.1 c9)
  exact hk _ _ _ (by omega) hs.2
set_option maxRecDepth 100000 in
set_option maxHeartbeats 1000000 in
theorem l_reads {l : Launch} {D : va_G} {ad : Nat → Nat → Nat} {aC : Nat → ClassId} {b Ls : Nat} {xs : Nat → Int32} {S : gS} (C : LX l D ad aC b Ls xs S) {n i : Nat} {σ : gSig} {τ : gTau} (hR : Rel σ) (hi : i + 4 ≤ Ls) (hL : Ls ≤ 2048) (hn : n + 3 ≤ 10000) (hk : ∀ (n' : Nat) (σ' : gSig) (τ' : gTau), n' ≤ n + 3 → Rel σ' → S n' σ' τ' 1670 (lawL ad b i) []) : S n σ τ 995 (lawL ad b i) [] := by
  have c0 := C.cx
  obtain ⟨⟨o, hK⟩, ⟨o2, hM⟩, -, -⟩ := id hR.2.1
  refine r_aload_n c0 dL_law_995 rfl rfl ?_
  refine r_aload_n c0 dL_law_996 rfl rfl ?_
  refine r_iload c0 dL_law_997 rfl ?_
  refine r_iconst (v := 1) c0 dL_law_999 rfl ?_
  refine r_iadd c0 dL_law_1000 ?_
  refine r_sld C (j := 1) (by omega) (by omega) dL_law_1001 ?_
  refine r_aload_n c0 dL_law_1002 rfl rfl ?_
  refine r_callH C dL_law_1003 (w_reads (c_reads σ τ (xs (i + 1))) (fun r σ9 τ9 h => (by
      repeat' (first | (rcases (h : _ ∨ _) with h | h) | (obtain ⟨_, h⟩ := (h : _ ∧ _)) | (obtain ⟨_, h⟩ := (h : ∃ _, _)))
      all_goals exact ⟨_, Eq.symm ‹some (Value.int _) = r›⟩)) (fun E σ9 τ9 h => by
      rcases h with ⟨⟨rfl, -⟩, -⟩ <;> simp)) rfl kcw_reads kini_L (by decide) (by show (parseMethodDescriptor yL_reads.desc).map (fun d => d.parameters.length) = some 3; decide +kernel) (by decide) kst_reads kl_L_153 (by decide) (Nat.le_of_ble_eq_true rfl) (by omega) ?_
  intro r9 σ1 τ1 h1
  obtain ⟨k0, rfl⟩ := wrQ_int h1
  have e9 : σ1 19 = σ 19 ∧ σ1 20 = σ 20 := by
    have h9 := h1
    rcases h9 with ⟨x9, t9, h9, -, -⟩ | ⟨E9, i9, -, h9, -⟩
    all_goals (repeat' (first | (rcases (h9 : _ ∨ _) with h9 | h9) | (obtain ⟨_, h9⟩ := (h9 : _ ∧ _)) | (obtain ⟨_, h9⟩ := (h9 : ∃ _, _))))
    all_goals (rw [← ‹_ = σ1›]; exact ⟨rfl, rfl⟩)
  refine r_istore c0 dL_law_1006 (by decide) rfl ?_
  refine r_aload_n c0 dL_law_1008 rfl rfl ?_
  refine r_aload_n c0 dL_law_1009 rfl rfl ?_
  refine r_iload c0 dL_law_1010 rfl ?_
  refine r_iconst (v := 1) c0 dL_law_1012 rfl ?_
  refine r_iadd c0 dL_law_1013 ?_
  refine r_sld C (j := 1) (by omega) (by omega) dL_law_1014 ?_
  refine r_callV c0 dL_law_1015 (m_reads σ1 τ1 (xs (i + 1)) (tr (P := fun z => ∀ c, c < 16 → msK z c) (fun _ => rfl) e9.1 e9.2 hM.2.2.2.2.1)) rfl ⟨by decide, by decide⟩ rfl rfl kB_X6_reads rfl kI_X6_reads kV_X6_reads kl_L_155 (by decide) (Nat.le_of_ble_eq_true rfl) (by omega) ?_
  intro r9 σ2 τ2 h2
  obtain ⟨b9, rfl⟩ : ∃ x : Int32, r9 = some (.int x) := (by
      repeat' (first | (rcases (h2 : _ ∨ _) with h2 | h2) | (obtain ⟨_, h2⟩ := (h2 : _ ∧ _)) | (obtain ⟨_, h2⟩ := (h2 : ∃ _, _)))
      all_goals exact ⟨_, Eq.symm ‹some (Value.int _) = r9›⟩)
  have hs := s_reads hR  h1 h2
  obtain ⟨s1, s2, s3⟩ := hs
  refine r_istore c0 dL_law_1018 (by decide) rfl ?_
  refine r_aload_n c0 dL_law_1020 rfl rfl ?_
  refine r_callV c0 dL_law_1021 (m_thrown σ2 τ2) rfl ⟨by decide, by decide⟩ rfl rfl kB_X6_thrown rfl kI_X6_thrown kV_X6_thrown kl_L_102 (by decide) (Nat.le_of_ble_eq_true rfl) (by omega) ?_
  rintro r9 σ' τ' ⟨rfl, rfl, rfl⟩
  refine r_iload c0 dL_law_1024 rfl ?_
  refine r_icmpeq (tgt := 1031) c0 dL_law_1026 (by decide) (fun c9 => ?_) (fun c9 => absurd s1 c9)
  refine r_iload c0 dL_law_1031 rfl ?_
  refine r_ifne (tgt := 1048) c0 dL_law_1033 (by decide) (fun q9 => ?_) (fun q9 => ?_)
  · refine r_goto (tgt := 1670) c0 dL_law_1048 (by decide) ?_
    refine r_drop c0 [5, 6] ?_
    exact r_swk (hk _ _ _ (by omega) s3) rfl rfl rfl rfl
  · refine r_aload_n c0 dL_law_1036 rfl rfl ?_
    refine r_iconst (v := 0) c0 dL_law_1037 rfl ?_
    refine r_laldv (v := b9.toInt64) c0 dL_law_1038 ⟨by decide, by decide⟩ rfl (vp_in_nI (show 0 < 1 by decide) (by decide)) (s2 q9) ?_
    refine r_iload c0 dL_law_1039 rfl ?_
    refine r_i2l c0 dL_law_1041 ?_
    refine r_lcmp c0 dL_law_1042 ?_
    rw [lg_cmp_self]
    refine r_ifeq (tgt := 1048) c0 dL_law_1043 (by decide) (fun q8 => ?_) (fun q8 => absurd rfl q8)
    refine r_goto (tgt := 1670) c0 dL_law_1048 (by decide) ?_
    refine r_drop c0 [5, 6] ?_
    exact r_swk (hk _ _ _ (by omega) s3) rfl rfl rfl rfl
set_option maxRecDepth 100000 in
set_option maxHeartbeats 1000000 in
theorem l_rests {l : Launch} {D : va_G} {ad : Nat → Nat → Nat} {aC : Nat → ClassId} {b Ls : Nat} {xs : Nat → Int32} {S : gS} (C : LX l D ad aC b Ls xs S) {n i : Nat} {σ : gSig} {τ : gTau} (hR : Rel σ) (hi : i + 4 ≤ Ls) (hL : Ls ≤ 2048) (hn : n + 3 ≤ 10000) (hk : ∀ (n' : Nat) (σ' : gSig) (τ' : gTau), n' ≤ n + 3 → Rel σ' → S n' σ' τ' 1670 (lawL ad b i) []) : S n σ τ 1051 (lawL ad b i) [] := by
  have c0 := C.cx
  obtain ⟨⟨o, hK⟩, ⟨o2, hM⟩, -, -⟩ := id hR.2.1
  refine r_aload_n c0 dL_law_1051 rfl rfl ?_
  refine r_aload_n c0 dL_law_1052 rfl rfl ?_
  refine r_iload c0 dL_law_1053 rfl ?_
  refine r_iconst (v := 1) c0 dL_law_1055 rfl ?_
  refine r_iadd c0 dL_law_1056 ?_
  refine r_sld C (j := 1) (by omega) (by omega) dL_law_1057 ?_
  refine r_aload_n c0 dL_law_1058 rfl rfl ?_
  refine r_callH C dL_law_1059 (w_rests (c_rests σ τ (xs (i + 1))) (fun r σ9 τ9 h => (by
      repeat' (first | (rcases (h : _ ∨ _) with h | h) | (obtain ⟨_, h⟩ := (h : _ ∧ _)) | (obtain ⟨_, h⟩ := (h : ∃ _, _)))
      all_goals exact ⟨_, Eq.symm ‹some (Value.int _) = r›⟩)) (fun E σ9 τ9 h => by
      rcases h with ⟨⟨rfl, -⟩, -⟩ <;> simp)) rfl kcw_rests kini_L (by decide) (by show (parseMethodDescriptor yL_rests.desc).map (fun d => d.parameters.length) = some 3; decide +kernel) (by decide) kst_rests kl_L_156 (by decide) (Nat.le_of_ble_eq_true rfl) (by omega) ?_
  intro r9 σ1 τ1 h1
  obtain ⟨k0, rfl⟩ := wrQ_int h1
  have e9 : σ1 19 = σ 19 ∧ σ1 20 = σ 20 := by
    have h9 := h1
    rcases h9 with ⟨x9, t9, h9, -, -⟩ | ⟨E9, i9, -, h9, -⟩
    all_goals (repeat' (first | (rcases (h9 : _ ∨ _) with h9 | h9) | (obtain ⟨_, h9⟩ := (h9 : _ ∧ _)) | (obtain ⟨_, h9⟩ := (h9 : ∃ _, _))))
    all_goals (rw [← ‹_ = σ1›]; exact ⟨rfl, rfl⟩)
  refine r_istore c0 dL_law_1062 (by decide) rfl ?_
  refine r_aload_n c0 dL_law_1064 rfl rfl ?_
  refine r_aload_n c0 dL_law_1065 rfl rfl ?_
  refine r_iload c0 dL_law_1066 rfl ?_
  refine r_iconst (v := 1) c0 dL_law_1068 rfl ?_
  refine r_iadd c0 dL_law_1069 ?_
  refine r_sld C (j := 1) (by omega) (by omega) dL_law_1070 ?_
  refine r_callV c0 dL_law_1071 (m_rests σ1 τ1 (xs (i + 1)) (tr (P := fun z => ∀ c, c < 16 → msK z c) (fun _ => rfl) e9.1 e9.2 hM.2.2.2.2.1)) rfl ⟨by decide, by decide⟩ rfl rfl kB_X6_rests rfl kI_X6_rests kV_X6_rests kl_L_158 (by decide) (Nat.le_of_ble_eq_true rfl) (by omega) ?_
  intro r9 σ2 τ2 h2
  obtain ⟨b9, rfl⟩ : ∃ x : Int32, r9 = some (.int x) := (by
      repeat' (first | (rcases (h2 : _ ∨ _) with h2 | h2) | (obtain ⟨_, h2⟩ := (h2 : _ ∧ _)) | (obtain ⟨_, h2⟩ := (h2 : ∃ _, _)))
      all_goals exact ⟨_, Eq.symm ‹some (Value.int _) = r9›⟩)
  have hs := s_rests hR  h1 h2
  obtain ⟨s1, s2, s3⟩ := hs
  refine r_istore c0 dL_law_1074 (by decide) rfl ?_
  refine r_aload_n c0 dL_law_1076 rfl rfl ?_
  refine r_callV c0 dL_law_1077 (m_thrown σ2 τ2) rfl ⟨by decide, by decide⟩ rfl rfl kB_X6_thrown rfl kI_X6_thrown kV_X6_thrown kl_L_102 (by decide) (Nat.le_of_ble_eq_true rfl) (by omega) ?_
  rintro r9 σ' τ' ⟨rfl, rfl, rfl⟩
  refine r_iload c0 dL_law_1080 rfl ?_
  refine r_icmpeq (tgt := 1087) c0 dL_law_1082 (by decide) (fun c9 => ?_) (fun c9 => absurd s1 c9)
  refine r_iload c0 dL_law_1087 rfl ?_
  refine r_ifne (tgt := 1104) c0 dL_law_1089 (by decide) (fun q9 => ?_) (fun q9 => ?_)
  · refine r_goto (tgt := 1670) c0 dL_law_1104 (by decide) ?_
    refine r_drop c0 [5, 6] ?_
    exact r_swk (hk _ _ _ (by omega) s3) rfl rfl rfl rfl
  · refine r_aload_n c0 dL_law_1092 rfl rfl ?_
    refine r_iconst (v := 0) c0 dL_law_1093 rfl ?_
    refine r_laldv (v := b9.toInt64) c0 dL_law_1094 ⟨by decide, by decide⟩ rfl (vp_in_nI (show 0 < 1 by decide) (by decide)) (s2 q9) ?_
    refine r_iload c0 dL_law_1095 rfl ?_
    refine r_i2l c0 dL_law_1097 ?_
    refine r_lcmp c0 dL_law_1098 ?_
    rw [lg_cmp_self]
    refine r_ifeq (tgt := 1104) c0 dL_law_1099 (by decide) (fun q8 => ?_) (fun q8 => absurd rfl q8)
    refine r_goto (tgt := 1670) c0 dL_law_1104 (by decide) ?_
    refine r_drop c0 [5, 6] ?_
    exact r_swk (hk _ _ _ (by omega) s3) rfl rfl rfl rfl
set_option maxRecDepth 100000 in
set_option maxHeartbeats 1000000 in
theorem l_show {l : Launch} {D : va_G} {ad : Nat → Nat → Nat} {aC : Nat → ClassId} {b Ls : Nat} {xs : Nat → Int32} {S : gS} (C : LX l D ad aC b Ls xs S) {n i : Nat} {σ : gSig} {τ : gTau} (hR : Rel σ) (hi : i + 4 ≤ Ls) (hL : Ls ≤ 2048) (hn : n + 3 ≤ 10000) (hk : ∀ (n' : Nat) (σ' : gSig) (τ' : gTau), n' ≤ n + 3 → Rel σ' → S n' σ' τ' 1670 (lawL ad b i) []) : S n σ τ 1107 (lawL ad b i) [] := by
  have c0 := C.cx
  obtain ⟨⟨o, hK⟩, ⟨o2, hM⟩, -, -⟩ := id hR.2.1
  refine r_aload_n c0 dL_law_1107 rfl rfl ?_
  refine r_aload_n c0 dL_law_1108 rfl rfl ?_
  refine r_iload c0 dL_law_1109 rfl ?_
  refine r_iconst (v := 1) c0 dL_law_1111 rfl ?_
  refine r_iadd c0 dL_law_1112 ?_
  refine r_sld C (j := 1) (by omega) (by omega) dL_law_1113 ?_
  refine r_aload_n c0 dL_law_1114 rfl rfl ?_
  refine r_callH C dL_law_1115 (w_show (c_show σ τ (xs (i + 1)) o hK) (fun r σ9 τ9 h => (by
      repeat' (first | (rcases (h : _ ∨ _) with h | h) | (obtain ⟨_, h⟩ := (h : _ ∧ _)) | (obtain ⟨_, h⟩ := (h : ∃ _, _)))
      all_goals exact ⟨_, Eq.symm ‹some (Value.int _) = r›⟩)) (fun E σ9 τ9 h => by
      rcases h with ⟨⟨rfl, -⟩ | ⟨rfl, -⟩ | ⟨rfl, -⟩, -⟩ <;> simp)) rfl kcw_show kini_L (by decide) (by show (parseMethodDescriptor yL_show.desc).map (fun d => d.parameters.length) = some 3; decide +kernel) (by decide) kst_show kl_L_159 (by decide) (Nat.le_of_ble_eq_true rfl) (by omega) ?_
  intro r9 σ1 τ1 h1
  obtain ⟨k0, rfl⟩ := wrQ_int h1
  have e9 : σ1 19 = σ 19 ∧ σ1 20 = σ 20 := by
    have h9 := h1
    rcases h9 with ⟨x9, t9, h9, -, -⟩ | ⟨E9, i9, -, h9, -⟩
    all_goals (repeat' (first | (rcases (h9 : _ ∨ _) with h9 | h9) | (obtain ⟨_, h9⟩ := (h9 : _ ∧ _)) | (obtain ⟨_, h9⟩ := (h9 : ∃ _, _))))
    all_goals (rw [← ‹_ = σ1›]; exact ⟨rfl, rfl⟩)
  have hM1 : moK σ1 o2 := tr (P := fun z => moK z o2) (fun _ => rfl) e9.1 e9.2 hM
  refine r_istore c0 dL_law_1118 (by decide) rfl ?_
  refine r_aload_n c0 dL_law_1120 rfl rfl ?_
  refine r_aload_n c0 dL_law_1121 rfl rfl ?_
  refine r_iload c0 dL_law_1122 rfl ?_
  refine r_iconst (v := 1) c0 dL_law_1124 rfl ?_
  refine r_iadd c0 dL_law_1125 ?_
  refine r_sld C (j := 1) (by omega) (by omega) dL_law_1126 ?_
  refine r_callV c0 dL_law_1127 (m_show σ1 τ1 (xs (i + 1)) (flM σ1) (wvM σ1) o2 (mLK_of hM1) hM1) rfl ⟨by decide, by decide⟩ rfl rfl kB_X6_show rfl kI_X6_show kV_X6_show kl_L_161 (by decide) (Nat.le_of_ble_eq_true rfl) (by omega) ?_
  intro r9 σ2 τ2 h2
  obtain ⟨b9, rfl⟩ : ∃ x : Int32, r9 = some (.int x) := (by
      repeat' (first | (rcases (h2 : _ ∨ _) with h2 | h2) | (obtain ⟨_, h2⟩ := (h2 : _ ∧ _)) | (obtain ⟨_, h2⟩ := (h2 : ∃ _, _)))
      all_goals exact ⟨_, Eq.symm ‹some (Value.int _) = r9›⟩)
  have hs := s_show hR hK hM h1 h2
  obtain ⟨s1, s2, s3⟩ := hs
  refine r_istore c0 dL_law_1130 (by decide) rfl ?_
  refine r_aload_n c0 dL_law_1132 rfl rfl ?_
  refine r_callV c0 dL_law_1133 (m_thrown σ2 τ2) rfl ⟨by decide, by decide⟩ rfl rfl kB_X6_thrown rfl kI_X6_thrown kV_X6_thrown kl_L_102 (by decide) (Nat.le_of_ble_eq_true rfl) (by omega) ?_
  rintro r9 σ' τ' ⟨rfl, rfl, rfl⟩
  refine r_iload c0 dL_law_1136 rfl ?_
  refine r_icmpeq (tgt := 1143) c0 dL_law_1138 (by decide) (fun c9 => ?_) (fun c9 => absurd s1 c9)
  refine r_iload c0 dL_law_1143 rfl ?_
  refine r_ifne (tgt := 1160) c0 dL_law_1145 (by decide) (fun q9 => ?_) (fun q9 => ?_)
  · refine r_goto (tgt := 1670) c0 dL_law_1160 (by decide) ?_
    refine r_drop c0 [5, 6] ?_
    exact r_swk (hk _ _ _ (by omega) s3) rfl rfl rfl rfl
  · refine r_aload_n c0 dL_law_1148 rfl rfl ?_
    refine r_iconst (v := 0) c0 dL_law_1149 rfl ?_
    refine r_laldv (v := b9.toInt64) c0 dL_law_1150 ⟨by decide, by decide⟩ rfl (vp_in_nI (show 0 < 1 by decide) (by decide)) (s2 q9) ?_
    refine r_iload c0 dL_law_1151 rfl ?_
    refine r_i2l c0 dL_law_1153 ?_
    refine r_lcmp c0 dL_law_1154 ?_
    rw [lg_cmp_self]
    refine r_ifeq (tgt := 1160) c0 dL_law_1155 (by decide) (fun q8 => ?_) (fun q8 => absurd rfl q8)
    refine r_goto (tgt := 1670) c0 dL_law_1160 (by decide) ?_
    refine r_drop c0 [5, 6] ?_
    exact r_swk (hk _ _ _ (by omega) s3) rfl rfl rfl rfl
set_option maxRecDepth 100000 in
set_option maxHeartbeats 1000000 in
theorem l_verdict {l : Launch} {D : va_G} {ad : Nat → Nat → Nat} {aC : Nat → ClassId} {b Ls : Nat} {xs : Nat → Int32} {S : gS} (C : LX l D ad aC b Ls xs S) {n i : Nat} {σ : gSig} {τ : gTau} (hR : Rel σ) (hi : i + 4 ≤ Ls) (hL : Ls ≤ 2048) (hn : n + 3 ≤ 10000) (hk : ∀ (n' : Nat) (σ' : gSig) (τ' : gTau), n' ≤ n + 3 → Rel σ' → S n' σ' τ' 1670 (lawL ad b i) []) : S n σ τ 1163 (lawL ad b i) [] := by
  have c0 := C.cx
  refine r_aload_n c0 dL_law_1163 rfl rfl ?_
  refine r_aload_n c0 dL_law_1164 rfl rfl ?_
  refine r_iload c0 dL_law_1165 rfl ?_
  refine r_iconst (v := 1) c0 dL_law_1167 rfl ?_
  refine r_iadd c0 dL_law_1168 ?_
  refine r_sld C (j := 1) (by omega) (by omega) dL_law_1169 ?_
  refine r_aload_n c0 dL_law_1170 rfl rfl ?_
  refine r_callH C dL_law_1171 (w_verdict (c_verdict σ τ (xs (i + 1))) (fun r σ9 τ9 h => (by
      repeat' (first | (rcases (h : _ ∨ _) with h | h) | (obtain ⟨_, h⟩ := (h : _ ∧ _)) | (obtain ⟨_, h⟩ := (h : ∃ _, _)))
      all_goals exact ⟨_, Eq.symm ‹some (Value.int _) = r›⟩)) (fun E σ9 τ9 h => by
      rcases h with ⟨⟨rfl, -⟩, -⟩ <;> simp)) rfl kcw_verdict kini_L (by decide) (by show (parseMethodDescriptor yL_verdict.desc).map (fun d => d.parameters.length) = some 3; decide +kernel) (by decide) kst_verdict kl_L_162 (by decide) (Nat.le_of_ble_eq_true rfl) (by omega) ?_
  intro r9 σ1 τ1 h1
  obtain ⟨k0, rfl⟩ := wrQ_int h1
  have e9 : σ1 19 = σ 19 ∧ σ1 20 = σ 20 := by
    have h9 := h1
    rcases h9 with ⟨x9, t9, h9, -, -⟩ | ⟨E9, i9, -, h9, -⟩
    all_goals (repeat' (first | (rcases (h9 : _ ∨ _) with h9 | h9) | (obtain ⟨_, h9⟩ := (h9 : _ ∧ _)) | (obtain ⟨_, h9⟩ := (h9 : ∃ _, _))))
    all_goals (rw [← ‹_ = σ1›]; exact ⟨rfl, rfl⟩)
  refine r_istore c0 dL_law_1174 (by decide) rfl ?_
  refine r_aload_n c0 dL_law_1176 rfl rfl ?_
  refine r_aload_n c0 dL_law_1177 rfl rfl ?_
  refine r_iload c0 dL_law_1178 rfl ?_
  refine r_iconst (v := 1) c0 dL_law_1180 rfl ?_
  refine r_iadd c0 dL_law_1181 ?_
  refine r_sld C (j := 1) (by omega) (by omega) dL_law_1182 ?_
  refine r_callV c0 dL_law_1183 (m_verdict σ1 τ1 (xs (i + 1))) rfl ⟨by decide, by decide⟩ rfl rfl kB_X6_verdict rfl kI_X6_verdict kV_X6_verdict kl_L_164 (by decide) (Nat.le_of_ble_eq_true rfl) (by omega) ?_
  intro r9 σ2 τ2 h2
  obtain ⟨b9, rfl⟩ : ∃ x : Int32, r9 = some (.int x) := (by
      repeat' (first | (rcases (h2 : _ ∨ _) with h2 | h2) | (obtain ⟨_, h2⟩ := (h2 : _ ∧ _)) | (obtain ⟨_, h2⟩ := (h2 : ∃ _, _)))
      all_goals exact ⟨_, Eq.symm ‹some (Value.int _) = r9›⟩)
  have hs := s_verdict hR  h1 h2
  obtain ⟨s1, s2, s3⟩ := hs
  refine r_istore c0 dL_law_1186 (by decide) rfl ?_
  refine r_aload_n c0 dL_law_1188 rfl rfl ?_
  refine r_callV c0 dL_law_1189 (m_thrown σ2 τ2) rfl ⟨by decide, by decide⟩ rfl rfl kB_X6_thrown rfl kI_X6_thrown kV_X6_thrown kl_L_102 (by decide) (Nat.le_of_ble_eq_true rfl) (by omega) ?_
  rintro r9 σ' τ' ⟨rfl, rfl, rfl⟩
  refine r_iload c0 dL_law_1192 rfl ?_
  refine r_icmpeq (tgt := 1199) c0 dL_law_1194 (by decide) (fun c9 => ?_) (fun c9 => absurd s1 c9)
  refine r_iload c0 dL_law_1199 rfl ?_
  refine r_ifne (tgt := 1216) c0 dL_law_1201 (by decide) (fun q9 => ?_) (fun q9 => ?_)
  · refine r_goto (tgt := 1670) c0 dL_law_1216 (by decide) ?_
    refine r_drop c0 [5, 6] ?_
    exact r_swk (hk _ _ _ (by omega) s3) rfl rfl rfl rfl
  · refine r_aload_n c0 dL_law_1204 rfl rfl ?_
    refine r_iconst (v := 0) c0 dL_law_1205 rfl ?_
    refine r_laldv (v := b9.toInt64) c0 dL_law_1206 ⟨by decide, by decide⟩ rfl (vp_in_nI (show 0 < 1 by decide) (by decide)) (s2 q9) ?_
    refine r_iload c0 dL_law_1207 rfl ?_
    refine r_i2l c0 dL_law_1209 ?_
    refine r_lcmp c0 dL_law_1210 ?_
    rw [lg_cmp_self]
    refine r_ifeq (tgt := 1216) c0 dL_law_1211 (by decide) (fun q8 => ?_) (fun q8 => absurd rfl q8)
    refine r_goto (tgt := 1670) c0 dL_law_1216 (by decide) ?_
    refine r_drop c0 [5, 6] ?_
    exact r_swk (hk _ _ _ (by omega) s3) rfl rfl rfl rfl
set_option maxRecDepth 100000 in
set_option maxHeartbeats 1000000 in
theorem l_failing {l : Launch} {D : va_G} {ad : Nat → Nat → Nat} {aC : Nat → ClassId} {b Ls : Nat} {xs : Nat → Int32} {S : gS} (C : LX l D ad aC b Ls xs S) {n i : Nat} {σ : gSig} {τ : gTau} (hR : Rel σ) (hi : i + 4 ≤ Ls) (hL : Ls ≤ 2048) (hn : n + 3 ≤ 10000) (hk : ∀ (n' : Nat) (σ' : gSig) (τ' : gTau), n' ≤ n + 3 → Rel σ' → S n' σ' τ' 1670 (lawL ad b i) []) : S n σ τ 1219 (lawL ad b i) [] := by
  have c0 := C.cx
  refine r_aload_n c0 dL_law_1219 rfl rfl ?_
  refine r_aload_n c0 dL_law_1220 rfl rfl ?_
  refine r_iload c0 dL_law_1221 rfl ?_
  refine r_iconst (v := 1) c0 dL_law_1223 rfl ?_
  refine r_iadd c0 dL_law_1224 ?_
  refine r_sld C (j := 1) (by omega) (by omega) dL_law_1225 ?_
  refine r_aload_n c0 dL_law_1226 rfl rfl ?_
  refine r_callH C dL_law_1227 (w_failing (c_failing σ τ (xs (i + 1))) (fun r σ9 τ9 h => (by
      repeat' (first | (rcases (h : _ ∨ _) with h | h) | (obtain ⟨_, h⟩ := (h : _ ∧ _)) | (obtain ⟨_, h⟩ := (h : ∃ _, _)))
      all_goals exact ⟨_, Eq.symm ‹some (Value.int _) = r›⟩)) (fun E σ9 τ9 h => by
      rcases h with ⟨⟨rfl, -⟩, -⟩ <;> simp)) rfl kcw_failing kini_L (by decide) (by show (parseMethodDescriptor yL_failing.desc).map (fun d => d.parameters.length) = some 3; decide +kernel) (by decide) kst_failing kl_L_165 (by decide) (Nat.le_of_ble_eq_true rfl) (by omega) ?_
  intro r9 σ1 τ1 h1
  obtain ⟨k0, rfl⟩ := wrQ_int h1
  have e9 : σ1 19 = σ 19 ∧ σ1 20 = σ 20 := by
    have h9 := h1
    rcases h9 with ⟨x9, t9, h9, -, -⟩ | ⟨E9, i9, -, h9, -⟩
    all_goals (repeat' (first | (rcases (h9 : _ ∨ _) with h9 | h9) | (obtain ⟨_, h9⟩ := (h9 : _ ∧ _)) | (obtain ⟨_, h9⟩ := (h9 : ∃ _, _))))
    all_goals (rw [← ‹_ = σ1›]; exact ⟨rfl, rfl⟩)
  refine r_istore c0 dL_law_1230 (by decide) rfl ?_
  refine r_aload_n c0 dL_law_1232 rfl rfl ?_
  refine r_aload_n c0 dL_law_1233 rfl rfl ?_
  refine r_iload c0 dL_law_1234 rfl ?_
  refine r_iconst (v := 1) c0 dL_law_1236 rfl ?_
  refine r_iadd c0 dL_law_1237 ?_
  refine r_sld C (j := 1) (by omega) (by omega) dL_law_1238 ?_
  refine r_callV c0 dL_law_1239 (m_failing σ1 τ1 (xs (i + 1))) rfl ⟨by decide, by decide⟩ rfl rfl kB_X6_failing rfl kI_X6_failing kV_X6_failing kl_L_167 (by decide) (Nat.le_of_ble_eq_true rfl) (by omega) ?_
  intro r9 σ2 τ2 h2
  obtain ⟨b9, rfl⟩ : ∃ x : Int32, r9 = some (.int x) := (by
      repeat' (first | (rcases (h2 : _ ∨ _) with h2 | h2) | (obtain ⟨_, h2⟩ := (h2 : _ ∧ _)) | (obtain ⟨_, h2⟩ := (h2 : ∃ _, _)))
      all_goals exact ⟨_, Eq.symm ‹some (Value.int _) = r9›⟩)
  have hs := s_failing hR  h1 h2
  obtain ⟨s1, s2, s3⟩ := hs
  refine r_istore c0 dL_law_1242 (by decide) rfl ?_
  refine r_aload_n c0 dL_law_1244 rfl rfl ?_
  refine r_callV c0 dL_law_1245 (m_thrown σ2 τ2) rfl ⟨by decide, by decide⟩ rfl rfl kB_X6_thrown rfl kI_X6_thrown kV_X6_thrown kl_L_102 (by decide) (Nat.le_of_ble_eq_true rfl) (by omega) ?_
  rintro r9 σ' τ' ⟨rfl, rfl, rfl⟩
  refine r_iload c0 dL_law_1248 rfl ?_
  refine r_icmpeq (tgt := 1255) c0 dL_law_1250 (by decide) (fun c9 => ?_) (fun c9 => absurd s1 c9)
  refine r_iload c0 dL_law_1255 rfl ?_
  refine r_ifne (tgt := 1272) c0 dL_law_1257 (by decide) (fun q9 => ?_) (fun q9 => ?_)
  · refine r_goto (tgt := 1670) c0 dL_law_1272 (by decide) ?_
    refine r_drop c0 [5, 6] ?_
    exact r_swk (hk _ _ _ (by omega) s3) rfl rfl rfl rfl
  · refine r_aload_n c0 dL_law_1260 rfl rfl ?_
    refine r_iconst (v := 0) c0 dL_law_1261 rfl ?_
    refine r_laldv (v := b9.toInt64) c0 dL_law_1262 ⟨by decide, by decide⟩ rfl (vp_in_nI (show 0 < 1 by decide) (by decide)) (s2 q9) ?_
    refine r_iload c0 dL_law_1263 rfl ?_
    refine r_i2l c0 dL_law_1265 ?_
    refine r_lcmp c0 dL_law_1266 ?_
    rw [lg_cmp_self]
    refine r_ifeq (tgt := 1272) c0 dL_law_1267 (by decide) (fun q8 => ?_) (fun q8 => absurd rfl q8)
    refine r_goto (tgt := 1670) c0 dL_law_1272 (by decide) ?_
    refine r_drop c0 [5, 6] ?_
    exact r_swk (hk _ _ _ (by omega) s3) rfl rfl rfl rfl
set_option maxRecDepth 100000 in
set_option maxHeartbeats 1000000 in
theorem l_example {l : Launch} {D : va_G} {ad : Nat → Nat → Nat} {aC : Nat → ClassId} {b Ls : Nat} {xs : Nat → Int32} {S : gS} (C : LX l D ad aC b Ls xs S) {n i : Nat} {σ : gSig} {τ : gTau} (hR : Rel σ) (hi : i + 4 ≤ Ls) (hL : Ls ≤ 2048) (hn : n + 3 ≤ 10000) (hk : ∀ (n' : Nat) (σ' : gSig) (τ' : gTau), n' ≤ n + 3 → Rel σ' → S n' σ' τ' 1670 (lawL ad b i) []) : S n σ τ 1275 (lawL ad b i) [] := by
  have c0 := C.cx
  refine r_aload_n c0 dL_law_1275 rfl rfl ?_
  refine r_aload_n c0 dL_law_1276 rfl rfl ?_
  refine r_iload c0 dL_law_1277 rfl ?_
  refine r_iconst (v := 1) c0 dL_law_1279 rfl ?_
  refine r_iadd c0 dL_law_1280 ?_
  refine r_sld C (j := 1) (by omega) (by omega) dL_law_1281 ?_
  refine r_aload_n c0 dL_law_1282 rfl rfl ?_
  refine r_iload c0 dL_law_1283 rfl ?_
  refine r_iconst (v := 2) c0 dL_law_1285 rfl ?_
  refine r_iadd c0 dL_law_1286 ?_
  refine r_sld C (j := 2) (by omega) (by omega) dL_law_1287 ?_
  refine r_aload_n c0 dL_law_1288 rfl rfl ?_
  refine r_callH C dL_law_1289 (w_example (c_example σ τ (xs (i + 1)) (xs (i + 2))) (fun r σ9 τ9 h => (by
      repeat' (first | (rcases (h : _ ∨ _) with h | h) | (obtain ⟨_, h⟩ := (h : _ ∧ _)) | (obtain ⟨_, h⟩ := (h : ∃ _, _)))
      all_goals exact ⟨_, Eq.symm ‹some (Value.int _) = r›⟩)) (fun E σ9 τ9 h => by
      rcases h with ⟨⟨rfl, -⟩ | ⟨rfl, -⟩, -⟩ <;> simp)) rfl kcw_example kini_L (by decide) (by show (parseMethodDescriptor yL_example.desc).map (fun d => d.parameters.length) = some 4; decide +kernel) (by decide) kst_example kl_L_168 (by decide) (Nat.le_of_ble_eq_true rfl) (by omega) ?_
  intro r9 σ1 τ1 h1
  obtain ⟨k0, rfl⟩ := wrQ_int h1
  have e9 : σ1 19 = σ 19 ∧ σ1 20 = σ 20 := by
    have h9 := h1
    rcases h9 with ⟨x9, t9, h9, -, -⟩ | ⟨E9, i9, -, h9, -⟩
    all_goals (repeat' (first | (rcases (h9 : _ ∨ _) with h9 | h9) | (obtain ⟨_, h9⟩ := (h9 : _ ∧ _)) | (obtain ⟨_, h9⟩ := (h9 : ∃ _, _))))
    all_goals (rw [← ‹_ = σ1›]; exact ⟨rfl, rfl⟩)
  refine r_istore c0 dL_law_1292 (by decide) rfl ?_
  refine r_aload_n c0 dL_law_1294 rfl rfl ?_
  refine r_aload_n c0 dL_law_1295 rfl rfl ?_
  refine r_iload c0 dL_law_1296 rfl ?_
  refine r_iconst (v := 1) c0 dL_law_1298 rfl ?_
  refine r_iadd c0 dL_law_1299 ?_
  refine r_sld C (j := 1) (by omega) (by omega) dL_law_1300 ?_
  refine r_aload_n c0 dL_law_1301 rfl rfl ?_
  refine r_iload c0 dL_law_1302 rfl ?_
  refine r_iconst (v := 2) c0 dL_law_1304 rfl ?_
  refine r_iadd c0 dL_law_1305 ?_
  refine r_sld C (j := 2) (by omega) (by omega) dL_law_1306 ?_
  refine r_callV c0 dL_law_1307 (m_example σ1 τ1 (xs (i + 1)) (xs (i + 2))) rfl ⟨by decide, by decide⟩ rfl rfl kB_X6_example rfl kI_X6_example kV_X6_example kl_L_170 (by decide) (Nat.le_of_ble_eq_true rfl) (by omega) ?_
  intro r9 σ2 τ2 h2
  obtain ⟨b9, rfl⟩ : ∃ x : Int32, r9 = some (.int x) := (by
      repeat' (first | (rcases (h2 : _ ∨ _) with h2 | h2) | (obtain ⟨_, h2⟩ := (h2 : _ ∧ _)) | (obtain ⟨_, h2⟩ := (h2 : ∃ _, _)))
      all_goals exact ⟨_, Eq.symm ‹some (Value.int _) = r9›⟩)
  have hs := s_example hR  h1 h2
  obtain ⟨s1, s2, s3⟩ := hs
  refine r_istore c0 dL_law_1310 (by decide) rfl ?_
  refine r_aload_n c0 dL_law_1312 rfl rfl ?_
  refine r_callV c0 dL_law_1313 (m_thrown σ2 τ2) rfl ⟨by decide, by decide⟩ rfl rfl kB_X6_thrown rfl kI_X6_thrown kV_X6_thrown kl_L_102 (by decide) (Nat.le_of_ble_eq_true rfl) (by omega) ?_
  rintro r9 σ' τ' ⟨rfl, rfl, rfl⟩
  refine r_iload c0 dL_law_1316 rfl ?_
  refine r_icmpeq (tgt := 1323) c0 dL_law_1318 (by decide) (fun c9 => ?_) (fun c9 => absurd s1 c9)
  refine r_iload c0 dL_law_1323 rfl ?_
  refine r_ifne (tgt := 1340) c0 dL_law_1325 (by decide) (fun q9 => ?_) (fun q9 => ?_)
  · refine r_goto (tgt := 1670) c0 dL_law_1340 (by decide) ?_
    refine r_drop c0 [5, 6] ?_
    exact r_swk (hk _ _ _ (by omega) s3) rfl rfl rfl rfl
  · refine r_aload_n c0 dL_law_1328 rfl rfl ?_
    refine r_iconst (v := 0) c0 dL_law_1329 rfl ?_
    refine r_laldv (v := b9.toInt64) c0 dL_law_1330 ⟨by decide, by decide⟩ rfl (vp_in_nI (show 0 < 1 by decide) (by decide)) (s2 q9) ?_
    refine r_iload c0 dL_law_1331 rfl ?_
    refine r_i2l c0 dL_law_1333 ?_
    refine r_lcmp c0 dL_law_1334 ?_
    rw [lg_cmp_self]
    refine r_ifeq (tgt := 1340) c0 dL_law_1335 (by decide) (fun q8 => ?_) (fun q8 => absurd rfl q8)
    refine r_goto (tgt := 1670) c0 dL_law_1340 (by decide) ?_
    refine r_drop c0 [5, 6] ?_
    exact r_swk (hk _ _ _ (by omega) s3) rfl rfl rfl rfl
set_option maxRecDepth 100000 in
set_option maxHeartbeats 1000000 in
theorem l_smaller {l : Launch} {D : va_G} {ad : Nat → Nat → Nat} {aC : Nat → ClassId} {b Ls : Nat} {xs : Nat → Int32} {S : gS} (C : LX l D ad aC b Ls xs S) {n i : Nat} {σ : gSig} {τ : gTau} (hR : Rel σ) (hi : i + 4 ≤ Ls) (hL : Ls ≤ 2048) (hn : n + 3 ≤ 10000) (hk : ∀ (n' : Nat) (σ' : gSig) (τ' : gTau), n' ≤ n + 3 → Rel σ' → S n' σ' τ' 1670 (lawL ad b i) []) : S n σ τ 1343 (lawL ad b i) [] := by
  have c0 := C.cx
  refine r_aload_n c0 dL_law_1343 rfl rfl ?_
  refine r_aload_n c0 dL_law_1344 rfl rfl ?_
  refine r_iload c0 dL_law_1345 rfl ?_
  refine r_iconst (v := 1) c0 dL_law_1347 rfl ?_
  refine r_iadd c0 dL_law_1348 ?_
  refine r_sld C (j := 1) (by omega) (by omega) dL_law_1349 ?_
  refine r_aload_n c0 dL_law_1350 rfl rfl ?_
  refine r_callH C dL_law_1351 (w_smaller (c_smaller σ τ (xs (i + 1))) (fun r σ9 τ9 h => (by
      repeat' (first | (rcases (h : _ ∨ _) with h | h) | (obtain ⟨_, h⟩ := (h : _ ∧ _)) | (obtain ⟨_, h⟩ := (h : ∃ _, _)))
      all_goals exact ⟨_, Eq.symm ‹some (Value.int _) = r›⟩)) (fun E σ9 τ9 h => by
      rcases h with ⟨⟨rfl, -⟩, -⟩ <;> simp)) rfl kcw_smaller kini_L (by decide) (by show (parseMethodDescriptor yL_smaller.desc).map (fun d => d.parameters.length) = some 3; decide +kernel) (by decide) kst_smaller kl_L_171 (by decide) (Nat.le_of_ble_eq_true rfl) (by omega) ?_
  intro r9 σ1 τ1 h1
  obtain ⟨k0, rfl⟩ := wrQ_int h1
  have e9 : σ1 19 = σ 19 ∧ σ1 20 = σ 20 := by
    have h9 := h1
    rcases h9 with ⟨x9, t9, h9, -, -⟩ | ⟨E9, i9, -, h9, -⟩
    all_goals (repeat' (first | (rcases (h9 : _ ∨ _) with h9 | h9) | (obtain ⟨_, h9⟩ := (h9 : _ ∧ _)) | (obtain ⟨_, h9⟩ := (h9 : ∃ _, _))))
    all_goals (rw [← ‹_ = σ1›]; exact ⟨rfl, rfl⟩)
  refine r_istore c0 dL_law_1354 (by decide) rfl ?_
  refine r_aload_n c0 dL_law_1356 rfl rfl ?_
  refine r_aload_n c0 dL_law_1357 rfl rfl ?_
  refine r_iload c0 dL_law_1358 rfl ?_
  refine r_iconst (v := 1) c0 dL_law_1360 rfl ?_
  refine r_iadd c0 dL_law_1361 ?_
  refine r_sld C (j := 1) (by omega) (by omega) dL_law_1362 ?_
  refine r_callV c0 dL_law_1363 (m_smaller σ1 τ1 (xs (i + 1))) rfl ⟨by decide, by decide⟩ rfl rfl kB_X6_smaller rfl kI_X6_smaller kV_X6_smaller kl_L_173 (by decide) (Nat.le_of_ble_eq_true rfl) (by omega) ?_
  intro r9 σ2 τ2 h2
  obtain ⟨b9, rfl⟩ : ∃ x : Int32, r9 = some (.int x) := (by
      repeat' (first | (rcases (h2 : _ ∨ _) with h2 | h2) | (obtain ⟨_, h2⟩ := (h2 : _ ∧ _)) | (obtain ⟨_, h2⟩ := (h2 : ∃ _, _)))
      all_goals exact ⟨_, Eq.symm ‹some (Value.int _) = r9›⟩)
  have hs := s_smaller hR  h1 h2
  obtain ⟨s1, s2, s3⟩ := hs
  refine r_istore c0 dL_law_1366 (by decide) rfl ?_
  refine r_aload_n c0 dL_law_1368 rfl rfl ?_
  refine r_callV c0 dL_law_1369 (m_thrown σ2 τ2) rfl ⟨by decide, by decide⟩ rfl rfl kB_X6_thrown rfl kI_X6_thrown kV_X6_thrown kl_L_102 (by decide) (Nat.le_of_ble_eq_true rfl) (by omega) ?_
  rintro r9 σ' τ' ⟨rfl, rfl, rfl⟩
  refine r_iload c0 dL_law_1372 rfl ?_
  refine r_icmpeq (tgt := 1379) c0 dL_law_1374 (by decide) (fun c9 => ?_) (fun c9 => absurd s1 c9)
  refine r_iload c0 dL_law_1379 rfl ?_
  refine r_ifne (tgt := 1396) c0 dL_law_1381 (by decide) (fun q9 => ?_) (fun q9 => ?_)
  · refine r_goto (tgt := 1670) c0 dL_law_1396 (by decide) ?_
    refine r_drop c0 [5, 6] ?_
    exact r_swk (hk _ _ _ (by omega) s3) rfl rfl rfl rfl
  · refine r_aload_n c0 dL_law_1384 rfl rfl ?_
    refine r_iconst (v := 0) c0 dL_law_1385 rfl ?_
    refine r_laldv (v := b9.toInt64) c0 dL_law_1386 ⟨by decide, by decide⟩ rfl (vp_in_nI (show 0 < 1 by decide) (by decide)) (s2 q9) ?_
    refine r_iload c0 dL_law_1387 rfl ?_
    refine r_i2l c0 dL_law_1389 ?_
    refine r_lcmp c0 dL_law_1390 ?_
    rw [lg_cmp_self]
    refine r_ifeq (tgt := 1396) c0 dL_law_1391 (by decide) (fun q8 => ?_) (fun q8 => absurd rfl q8)
    refine r_goto (tgt := 1670) c0 dL_law_1396 (by decide) ?_
    refine r_drop c0 [5, 6] ?_
    exact r_swk (hk _ _ _ (by omega) s3) rfl rfl rfl rfl
set_option maxRecDepth 100000 in
set_option maxHeartbeats 1000000 in
theorem l_isLocked {l : Launch} {D : va_G} {ad : Nat → Nat → Nat} {aC : Nat → ClassId} {b Ls : Nat} {xs : Nat → Int32} {S : gS} (C : LX l D ad aC b Ls xs S) {n i : Nat} {σ : gSig} {τ : gTau} (hR : Rel σ) (hi : i + 4 ≤ Ls) (hL : Ls ≤ 2048) (hn : n + 3 ≤ 10000) (hk : ∀ (n' : Nat) (σ' : gSig) (τ' : gTau), n' ≤ n + 3 → Rel σ' → S n' σ' τ' 1670 (lawL ad b i) []) : S n σ τ 1399 (lawL ad b i) [] := by
  have c0 := C.cx
  obtain ⟨⟨o, hK⟩, ⟨o2, hM⟩, -, -⟩ := id hR.2.1
  refine r_aload_n c0 dL_law_1399 rfl rfl ?_
  refine r_aload_n c0 dL_law_1400 rfl rfl ?_
  refine r_iload c0 dL_law_1401 rfl ?_
  refine r_iconst (v := 1) c0 dL_law_1403 rfl ?_
  refine r_iadd c0 dL_law_1404 ?_
  refine r_sld C (j := 1) (by omega) (by omega) dL_law_1405 ?_
  refine r_aload_n c0 dL_law_1406 rfl rfl ?_
  refine r_callH C dL_law_1407 (w_isLocked (c_isLocked σ τ (xs (i + 1)) o hK.1) (fun r σ9 τ9 h => (by
      repeat' (first | (rcases (h : _ ∨ _) with h | h) | (obtain ⟨_, h⟩ := (h : _ ∧ _)) | (obtain ⟨_, h⟩ := (h : ∃ _, _)))
      all_goals exact ⟨_, Eq.symm ‹some (Value.int _) = r›⟩)) (fun E σ9 τ9 h => by
      rcases h with ⟨⟨rfl, -⟩, -⟩ <;> simp)) rfl kcw_isLocked kini_L (by decide) (by show (parseMethodDescriptor yL_isLocked.desc).map (fun d => d.parameters.length) = some 3; decide +kernel) (by decide) kst_isLocked kl_L_174 (by decide) (Nat.le_of_ble_eq_true rfl) (by omega) ?_
  intro r9 σ1 τ1 h1
  obtain ⟨k0, rfl⟩ := wrB_int h1
  have e9 : σ1 19 = σ 19 ∧ σ1 20 = σ 20 := by
    have h9 := h1
    rcases h9 with ⟨x9, t9, h9, -, -⟩ | ⟨E9, i9, -, h9, -⟩
    all_goals (repeat' (first | (rcases (h9 : _ ∨ _) with h9 | h9) | (obtain ⟨_, h9⟩ := (h9 : _ ∧ _)) | (obtain ⟨_, h9⟩ := (h9 : ∃ _, _))))
    all_goals (rw [← ‹_ = σ1›]; exact ⟨rfl, rfl⟩)
  have hM1 : moK σ1 o2 := tr (P := fun z => moK z o2) (fun _ => rfl) e9.1 e9.2 hM
  refine r_istore c0 dL_law_1410 (by decide) rfl ?_
  refine r_aload_n c0 dL_law_1412 rfl rfl ?_
  refine r_aload_n c0 dL_law_1413 rfl rfl ?_
  refine r_iload c0 dL_law_1414 rfl ?_
  refine r_iconst (v := 1) c0 dL_law_1416 rfl ?_
  refine r_iadd c0 dL_law_1417 ?_
  refine r_sld C (j := 1) (by omega) (by omega) dL_law_1418 ?_
  refine r_callV c0 dL_law_1419 (m_isLocked σ1 τ1 (xs (i + 1)) (flM σ1) (wvM σ1) o2 (mLK_of hM1)) rfl ⟨by decide, by decide⟩ rfl rfl kB_X6_isLocked rfl kI_X6_isLocked kV_X6_isLocked kl_L_176 (by decide) (Nat.le_of_ble_eq_true rfl) (by omega) ?_
  intro r9 σ2 τ2 h2
  obtain ⟨b9, rfl⟩ : ∃ x : Int32, r9 = some (.int x) := (by
      repeat' (first | (rcases (h2 : _ ∨ _) with h2 | h2) | (obtain ⟨_, h2⟩ := (h2 : _ ∧ _)) | (obtain ⟨_, h2⟩ := (h2 : ∃ _, _)))
      all_goals exact ⟨_, Eq.symm ‹some (Value.int _) = r9›⟩)
  have hs := s_isLocked hR hK hM h1 h2
  obtain ⟨s1, s2, s3⟩ := hs
  refine r_istore c0 dL_law_1422 (by decide) rfl ?_
  refine r_aload_n c0 dL_law_1424 rfl rfl ?_
  refine r_callV c0 dL_law_1425 (m_thrown σ2 τ2) rfl ⟨by decide, by decide⟩ rfl rfl kB_X6_thrown rfl kI_X6_thrown kV_X6_thrown kl_L_102 (by decide) (Nat.le_of_ble_eq_true rfl) (by omega) ?_
  rintro r9 σ' τ' ⟨rfl, rfl, rfl⟩
  refine r_iload c0 dL_law_1428 rfl ?_
  refine r_icmpeq (tgt := 1435) c0 dL_law_1430 (by decide) (fun c9 => ?_) (fun c9 => absurd s1 c9)
  refine r_iload c0 dL_law_1435 rfl ?_
  refine r_ifne (tgt := 1459) c0 dL_law_1437 (by decide) (fun q9 => ?_) (fun q9 => ?_)
  · refine r_goto (tgt := 1670) c0 dL_law_1459 (by decide) ?_
    refine r_drop c0 [5, 6] ?_
    exact r_swk (hk _ _ _ (by omega) s3) rfl rfl rfl rfl
  · refine r_aload_n c0 dL_law_1440 rfl rfl ?_
    refine r_iconst (v := 0) c0 dL_law_1441 rfl ?_
    refine r_laldv (v := if b9 = 0 then 0 else 1) c0 dL_law_1442 ⟨by decide, by decide⟩ rfl (vp_in_nI (show 0 < 1 by decide) (by decide)) (s2 q9) ?_
    refine r_iload c0 dL_law_1443 rfl ?_
    refine r_ifeq (tgt := 1452) c0 dL_law_1445 (by decide) (fun q7 => ?_) (fun q7 => ?_)
    · rw [if_pos q7]
      refine r_lconst (v := 0) c0 dL_law_1452 rfl ?_
      refine r_lcmp c0 dL_law_1453 ?_
      rw [lg_cmp_self]
      refine r_ifeq (tgt := 1459) c0 dL_law_1454 (by decide) (fun q8 => ?_) (fun q8 => absurd rfl q8)
      refine r_goto (tgt := 1670) c0 dL_law_1459 (by decide) ?_
      refine r_drop c0 [5, 6] ?_
      exact r_swk (hk _ _ _ (by omega) s3) rfl rfl rfl rfl
    · rw [if_neg q7]
      refine r_lconst (v := 1) c0 dL_law_1448 rfl ?_
      refine r_goto (tgt := 1453) c0 dL_law_1449 (by decide) ?_
      refine r_lcmp c0 dL_law_1453 ?_
      rw [lg_cmp_self]
      refine r_ifeq (tgt := 1459) c0 dL_law_1454 (by decide) (fun q8 => ?_) (fun q8 => absurd rfl q8)
      refine r_goto (tgt := 1670) c0 dL_law_1459 (by decide) ?_
      refine r_drop c0 [5, 6] ?_
      exact r_swk (hk _ _ _ (by omega) s3) rfl rfl rfl rfl
set_option maxRecDepth 100000 in
set_option maxHeartbeats 1000000 in
theorem l_isLockedByWays {l : Launch} {D : va_G} {ad : Nat → Nat → Nat} {aC : Nat → ClassId} {b Ls : Nat} {xs : Nat → Int32} {S : gS} (C : LX l D ad aC b Ls xs S) {n i : Nat} {σ : gSig} {τ : gTau} (hR : Rel σ) (hi : i + 4 ≤ Ls) (hL : Ls ≤ 2048) (hn : n + 3 ≤ 10000) (hk : ∀ (n' : Nat) (σ' : gSig) (τ' : gTau), n' ≤ n + 3 → Rel σ' → S n' σ' τ' 1670 (lawL ad b i) []) : S n σ τ 1462 (lawL ad b i) [] := by
  have c0 := C.cx
  obtain ⟨⟨o, hK⟩, ⟨o2, hM⟩, -, -⟩ := id hR.2.1
  refine r_aload_n c0 dL_law_1462 rfl rfl ?_
  refine r_aload_n c0 dL_law_1463 rfl rfl ?_
  refine r_iload c0 dL_law_1464 rfl ?_
  refine r_iconst (v := 1) c0 dL_law_1466 rfl ?_
  refine r_iadd c0 dL_law_1467 ?_
  refine r_sld C (j := 1) (by omega) (by omega) dL_law_1468 ?_
  refine r_aload_n c0 dL_law_1469 rfl rfl ?_
  refine r_callH C dL_law_1470 (w_isLockedByWays (c_isLockedByWays σ τ (xs (i + 1))) (fun r σ9 τ9 h => (by
      repeat' (first | (rcases (h : _ ∨ _) with h | h) | (obtain ⟨_, h⟩ := (h : _ ∧ _)) | (obtain ⟨_, h⟩ := (h : ∃ _, _)))
      all_goals exact ⟨_, Eq.symm ‹some (Value.int _) = r›⟩)) (fun E σ9 τ9 h => by
      rcases h with ⟨⟨rfl, -⟩, -⟩ <;> simp)) rfl kcw_isLockedByWays kini_L (by decide) (by show (parseMethodDescriptor yL_isLockedByWays.desc).map (fun d => d.parameters.length) = some 3; decide +kernel) (by decide) kst_isLockedByWays kl_L_177 (by decide) (Nat.le_of_ble_eq_true rfl) (by omega) ?_
  intro r9 σ1 τ1 h1
  obtain ⟨k0, rfl⟩ := wrB_int h1
  have e9 : σ1 19 = σ 19 ∧ σ1 20 = σ 20 := by
    have h9 := h1
    rcases h9 with ⟨x9, t9, h9, -, -⟩ | ⟨E9, i9, -, h9, -⟩
    all_goals (repeat' (first | (rcases (h9 : _ ∨ _) with h9 | h9) | (obtain ⟨_, h9⟩ := (h9 : _ ∧ _)) | (obtain ⟨_, h9⟩ := (h9 : ∃ _, _))))
    all_goals (rw [← ‹_ = σ1›]; exact ⟨rfl, rfl⟩)
  have hM1 : moK σ1 o2 := tr (P := fun z => moK z o2) (fun _ => rfl) e9.1 e9.2 hM
  refine r_istore c0 dL_law_1473 (by decide) rfl ?_
  refine r_aload_n c0 dL_law_1475 rfl rfl ?_
  refine r_aload_n c0 dL_law_1476 rfl rfl ?_
  refine r_iload c0 dL_law_1477 rfl ?_
  refine r_iconst (v := 1) c0 dL_law_1479 rfl ?_
  refine r_iadd c0 dL_law_1480 ?_
  refine r_sld C (j := 1) (by omega) (by omega) dL_law_1481 ?_
  refine r_callV c0 dL_law_1482 (m_isLockedByWays σ1 τ1 (xs (i + 1)) (flM σ1) (wvM σ1) o2 (mLK_of hM1)) rfl ⟨by decide, by decide⟩ rfl rfl kB_X6_isLockedByWays rfl kI_X6_isLockedByWays kV_X6_isLockedByWays kl_L_179 (by decide) (Nat.le_of_ble_eq_true rfl) (by omega) ?_
  intro r9 σ2 τ2 h2
  obtain ⟨b9, rfl⟩ : ∃ x : Int32, r9 = some (.int x) := (by
      repeat' (first | (rcases (h2 : _ ∨ _) with h2 | h2) | (obtain ⟨_, h2⟩ := (h2 : _ ∧ _)) | (obtain ⟨_, h2⟩ := (h2 : ∃ _, _)))
      all_goals exact ⟨_, Eq.symm ‹some (Value.int _) = r9›⟩)
  have hs := s_isLockedByWays hR hK hM h1 h2
  obtain ⟨s1, s2, s3⟩ := hs
  refine r_istore c0 dL_law_1485 (by decide) rfl ?_
  refine r_aload_n c0 dL_law_1487 rfl rfl ?_
  refine r_callV c0 dL_law_1488 (m_thrown σ2 τ2) rfl ⟨by decide, by decide⟩ rfl rfl kB_X6_thrown rfl kI_X6_thrown kV_X6_thrown kl_L_102 (by decide) (Nat.le_of_ble_eq_true rfl) (by omega) ?_
  rintro r9 σ' τ' ⟨rfl, rfl, rfl⟩
  refine r_iload c0 dL_law_1491 rfl ?_
  refine r_icmpeq (tgt := 1498) c0 dL_law_1493 (by decide) (fun c9 => ?_) (fun c9 => absurd s1 c9)
  refine r_iload c0 dL_law_1498 rfl ?_
  refine r_ifne (tgt := 1522) c0 dL_law_1500 (by decide) (fun q9 => ?_) (fun q9 => ?_)
  · refine r_goto (tgt := 1670) c0 dL_law_1522 (by decide) ?_
    refine r_drop c0 [5, 6] ?_
    exact r_swk (hk _ _ _ (by omega) s3) rfl rfl rfl rfl
  · refine r_aload_n c0 dL_law_1503 rfl rfl ?_
    refine r_iconst (v := 0) c0 dL_law_1504 rfl ?_
    refine r_laldv (v := if b9 = 0 then 0 else 1) c0 dL_law_1505 ⟨by decide, by decide⟩ rfl (vp_in_nI (show 0 < 1 by decide) (by decide)) (s2 q9) ?_
    refine r_iload c0 dL_law_1506 rfl ?_
    refine r_ifeq (tgt := 1515) c0 dL_law_1508 (by decide) (fun q7 => ?_) (fun q7 => ?_)
    · rw [if_pos q7]
      refine r_lconst (v := 0) c0 dL_law_1515 rfl ?_
      refine r_lcmp c0 dL_law_1516 ?_
      rw [lg_cmp_self]
      refine r_ifeq (tgt := 1522) c0 dL_law_1517 (by decide) (fun q8 => ?_) (fun q8 => absurd rfl q8)
      refine r_goto (tgt := 1670) c0 dL_law_1522 (by decide) ?_
      refine r_drop c0 [5, 6] ?_
      exact r_swk (hk _ _ _ (by omega) s3) rfl rfl rfl rfl
    · rw [if_neg q7]
      refine r_lconst (v := 1) c0 dL_law_1511 rfl ?_
      refine r_goto (tgt := 1516) c0 dL_law_1512 (by decide) ?_
      refine r_lcmp c0 dL_law_1516 ?_
      rw [lg_cmp_self]
      refine r_ifeq (tgt := 1522) c0 dL_law_1517 (by decide) (fun q8 => ?_) (fun q8 => absurd rfl q8)
      refine r_goto (tgt := 1670) c0 dL_law_1522 (by decide) ?_
      refine r_drop c0 [5, 6] ?_
      exact r_swk (hk _ _ _ (by omega) s3) rfl rfl rfl rfl
set_option maxRecDepth 100000 in
set_option maxHeartbeats 1000000 in
theorem l_isMarked {l : Launch} {D : va_G} {ad : Nat → Nat → Nat} {aC : Nat → ClassId} {b Ls : Nat} {xs : Nat → Int32} {S : gS} (C : LX l D ad aC b Ls xs S) {n i : Nat} {σ : gSig} {τ : gTau} (hR : Rel σ) (hi : i + 4 ≤ Ls) (hL : Ls ≤ 2048) (hn : n + 3 ≤ 10000) (hk : ∀ (n' : Nat) (σ' : gSig) (τ' : gTau), n' ≤ n + 3 → Rel σ' → S n' σ' τ' 1670 (lawL ad b i) []) : S n σ τ 1525 (lawL ad b i) [] := by
  have c0 := C.cx
  obtain ⟨⟨o, hK⟩, ⟨o2, hM⟩, -, -⟩ := id hR.2.1
  refine r_aload_n c0 dL_law_1525 rfl rfl ?_
  refine r_aload_n c0 dL_law_1526 rfl rfl ?_
  refine r_iload c0 dL_law_1527 rfl ?_
  refine r_iconst (v := 1) c0 dL_law_1529 rfl ?_
  refine r_iadd c0 dL_law_1530 ?_
  refine r_sld C (j := 1) (by omega) (by omega) dL_law_1531 ?_
  refine r_aload_n c0 dL_law_1532 rfl rfl ?_
  refine r_callH C dL_law_1533 (w_isMarked (c_isMarked σ τ (xs (i + 1))) (fun r σ9 τ9 h => (by
      repeat' (first | (rcases (h : _ ∨ _) with h | h) | (obtain ⟨_, h⟩ := (h : _ ∧ _)) | (obtain ⟨_, h⟩ := (h : ∃ _, _)))
      all_goals exact ⟨_, Eq.symm ‹some (Value.int _) = r›⟩)) (fun E σ9 τ9 h => by
      rcases h with ⟨⟨rfl, -⟩, -⟩ <;> simp)) rfl kcw_isMarked kini_L (by decide) (by show (parseMethodDescriptor yL_isMarked.desc).map (fun d => d.parameters.length) = some 3; decide +kernel) (by decide) kst_isMarked kl_L_180 (by decide) (Nat.le_of_ble_eq_true rfl) (by omega) ?_
  intro r9 σ1 τ1 h1
  obtain ⟨k0, rfl⟩ := wrB_int h1
  have e9 : σ1 19 = σ 19 ∧ σ1 20 = σ 20 := by
    have h9 := h1
    rcases h9 with ⟨x9, t9, h9, -, -⟩ | ⟨E9, i9, -, h9, -⟩
    all_goals (repeat' (first | (rcases (h9 : _ ∨ _) with h9 | h9) | (obtain ⟨_, h9⟩ := (h9 : _ ∧ _)) | (obtain ⟨_, h9⟩ := (h9 : ∃ _, _))))
    all_goals (rw [← ‹_ = σ1›]; exact ⟨rfl, rfl⟩)
  refine r_istore c0 dL_law_1536 (by decide) rfl ?_
  refine r_aload_n c0 dL_law_1538 rfl rfl ?_
  refine r_aload_n c0 dL_law_1539 rfl rfl ?_
  refine r_iload c0 dL_law_1540 rfl ?_
  refine r_iconst (v := 1) c0 dL_law_1542 rfl ?_
  refine r_iadd c0 dL_law_1543 ?_
  refine r_sld C (j := 1) (by omega) (by omega) dL_law_1544 ?_
  refine r_callV c0 dL_law_1545 (m_isMarked σ1 τ1 (xs (i + 1)) (tr (P := fun z => ∀ c, c < 16 → msK z c) (fun _ => rfl) e9.1 e9.2 hM.2.2.2.2.1)) rfl ⟨by decide, by decide⟩ rfl rfl kB_X6_isMarked rfl kI_X6_isMarked kV_X6_isMarked kl_L_182 (by decide) (Nat.le_of_ble_eq_true rfl) (by omega) ?_
  intro r9 σ2 τ2 h2
  obtain ⟨b9, rfl⟩ : ∃ x : Int32, r9 = some (.int x) := (by
      repeat' (first | (rcases (h2 : _ ∨ _) with h2 | h2) | (obtain ⟨_, h2⟩ := (h2 : _ ∧ _)) | (obtain ⟨_, h2⟩ := (h2 : ∃ _, _)))
      all_goals exact ⟨_, Eq.symm ‹some (Value.int _) = r9›⟩)
  have hs := s_isMarked hR  h1 h2
  obtain ⟨s1, s2, s3⟩ := hs
  refine r_istore c0 dL_law_1548 (by decide) rfl ?_
  refine r_aload_n c0 dL_law_1550 rfl rfl ?_
  refine r_callV c0 dL_law_1551 (m_thrown σ2 τ2) rfl ⟨by decide, by decide⟩ rfl rfl kB_X6_thrown rfl kI_X6_thrown kV_X6_thrown kl_L_102 (by decide) (Nat.le_of_ble_eq_true rfl) (by omega) ?_
  rintro r9 σ' τ' ⟨rfl, rfl, rfl⟩
  refine r_iload c0 dL_law_1554 rfl ?_
  refine r_icmpeq (tgt := 1561) c0 dL_law_1556 (by decide) (fun c9 => ?_) (fun c9 => absurd s1 c9)
  refine r_iload c0 dL_law_1561 rfl ?_
  refine r_ifne (tgt := 1585) c0 dL_law_1563 (by decide) (fun q9 => ?_) (fun q9 => ?_)
  · refine r_goto (tgt := 1670) c0 dL_law_1585 (by decide) ?_
    refine r_drop c0 [5, 6] ?_
    exact r_swk (hk _ _ _ (by omega) s3) rfl rfl rfl rfl
  · refine r_aload_n c0 dL_law_1566 rfl rfl ?_
    refine r_iconst (v := 0) c0 dL_law_1567 rfl ?_
    refine r_laldv (v := if b9 = 0 then 0 else 1) c0 dL_law_1568 ⟨by decide, by decide⟩ rfl (vp_in_nI (show 0 < 1 by decide) (by decide)) (s2 q9) ?_
    refine r_iload c0 dL_law_1569 rfl ?_
    refine r_ifeq (tgt := 1578) c0 dL_law_1571 (by decide) (fun q7 => ?_) (fun q7 => ?_)
    · rw [if_pos q7]
      refine r_lconst (v := 0) c0 dL_law_1578 rfl ?_
      refine r_lcmp c0 dL_law_1579 ?_
      rw [lg_cmp_self]
      refine r_ifeq (tgt := 1585) c0 dL_law_1580 (by decide) (fun q8 => ?_) (fun q8 => absurd rfl q8)
      refine r_goto (tgt := 1670) c0 dL_law_1585 (by decide) ?_
      refine r_drop c0 [5, 6] ?_
      exact r_swk (hk _ _ _ (by omega) s3) rfl rfl rfl rfl
    · rw [if_neg q7]
      refine r_lconst (v := 1) c0 dL_law_1574 rfl ?_
      refine r_goto (tgt := 1579) c0 dL_law_1575 (by decide) ?_
      refine r_lcmp c0 dL_law_1579 ?_
      rw [lg_cmp_self]
      refine r_ifeq (tgt := 1585) c0 dL_law_1580 (by decide) (fun q8 => ?_) (fun q8 => absurd rfl q8)
      refine r_goto (tgt := 1670) c0 dL_law_1585 (by decide) ?_
      refine r_drop c0 [5, 6] ?_
      exact r_swk (hk _ _ _ (by omega) s3) rfl rfl rfl rfl
set_option maxRecDepth 100000 in
set_option maxHeartbeats 1000000 in
theorem l_locked {l : Launch} {D : va_G} {ad : Nat → Nat → Nat} {aC : Nat → ClassId} {b Ls : Nat} {xs : Nat → Int32} {S : gS} (C : LX l D ad aC b Ls xs S) {n i : Nat} {σ : gSig} {τ : gTau} (hR : Rel σ) (hi : i + 4 ≤ Ls) (hL : Ls ≤ 2048) (hn : n + 3 ≤ 10000) (hk : ∀ (n' : Nat) (σ' : gSig) (τ' : gTau), n' ≤ n + 3 → Rel σ' → S n' σ' τ' 1670 (lawL ad b i) []) : S n σ τ 1588 (lawL ad b i) [] := by
  have c0 := C.cx
  obtain ⟨⟨o, hK⟩, ⟨o2, hM⟩, -, -⟩ := id hR.2.1
  refine r_aload_n c0 dL_law_1588 rfl rfl ?_
  refine r_callV c0 dL_law_1589 (c_locked σ τ o hK.1) rfl ⟨by decide, by decide⟩ rfl rfl kB_X5_locked rfl kI_X5_locked kV_X5_locked kl_L_183 (by decide) (Nat.le_of_ble_eq_true rfl) (by omega) ?_
  intro r9 σ1 τ1 h1
  obtain ⟨x9, rfl⟩ : ∃ x : Int32, r9 = some (.int x) := ⟨_, h1.1.symm⟩
  have e9 : σ1 19 = σ 19 ∧ σ1 20 = σ 20 := by
    rw [← h1.2.1]; exact ⟨rfl, rfl⟩
  have hM1 : moK σ1 o2 := tr (P := fun z => moK z o2) (fun _ => rfl) e9.1 e9.2 hM
  refine r_aload_n c0 dL_law_1592 rfl rfl ?_
  refine r_callV c0 dL_law_1593 (m_locked σ1 τ1 (flM σ1) (wvM σ1) o2 (mLK_of hM1)) rfl ⟨by decide, by decide⟩ rfl rfl kB_X6_locked rfl kI_X6_locked kV_X6_locked kl_L_186 (by decide) (Nat.le_of_ble_eq_true rfl) (by omega) ?_
  intro r9 σ2 τ2 h2
  obtain ⟨b9, rfl⟩ : ∃ x : Int32, r9 = some (.int x) := (by
      repeat' (first | (rcases (h2 : _ ∨ _) with h2 | h2) | (obtain ⟨_, h2⟩ := (h2 : _ ∧ _)) | (obtain ⟨_, h2⟩ := (h2 : ∃ _, _)))
      all_goals exact ⟨_, Eq.symm ‹some (Value.int _) = r9›⟩)
  have hs := s_locked hR hK hM h1 h2
  refine r_icmpeq (tgt := 1670) c0 dL_law_1596 (by decide) (fun c9 => ?_) (fun c9 => absurd hs.1 c9)
  exact hk _ _ _ (by omega) hs.2
set_option maxRecDepth 100000 in
set_option maxHeartbeats 1000000 in
theorem l_unlocked {l : Launch} {D : va_G} {ad : Nat → Nat → Nat} {aC : Nat → ClassId} {b Ls : Nat} {xs : Nat → Int32} {S : gS} (C : LX l D ad aC b Ls xs S) {n i : Nat} {σ : gSig} {τ : gTau} (hR : Rel σ) (hi : i + 4 ≤ Ls) (hL : Ls ≤ 2048) (hn : n + 3 ≤ 10000) (hk : ∀ (n' : Nat) (σ' : gSig) (τ' : gTau), n' ≤ n + 3 → Rel σ' → S n' σ' τ' 1670 (lawL ad b i) []) : S n σ τ 1601 (lawL ad b i) [] := by
  have c0 := C.cx
  refine r_aload_n c0 dL_law_1601 rfl rfl ?_
  refine r_callV c0 dL_law_1602 (c_unlocked σ τ ) rfl ⟨by decide, by decide⟩ rfl rfl kB_X5_unlocked rfl kI_X5_unlocked kV_X5_unlocked kl_L_187 (by decide) (Nat.le_of_ble_eq_true rfl) (by omega) ?_
  intro r9 σ1 τ1 h1
  obtain ⟨x9, rfl⟩ : ∃ x : Int32, r9 = some (.int x) := ⟨_, h1.1.symm⟩
  have e9 : σ1 19 = σ 19 ∧ σ1 20 = σ 20 := by
    rw [← h1.2.1]; exact ⟨rfl, rfl⟩
  refine r_aload_n c0 dL_law_1605 rfl rfl ?_
  refine r_callV c0 dL_law_1606 (m_unlocked σ1 τ1 ) rfl ⟨by decide, by decide⟩ rfl rfl kB_X6_unlocked rfl kI_X6_unlocked kV_X6_unlocked kl_L_190 (by decide) (Nat.le_of_ble_eq_true rfl) (by omega) ?_
  intro r9 σ2 τ2 h2
  obtain ⟨b9, rfl⟩ : ∃ x : Int32, r9 = some (.int x) := (by
      repeat' (first | (rcases (h2 : _ ∨ _) with h2 | h2) | (obtain ⟨_, h2⟩ := (h2 : _ ∧ _)) | (obtain ⟨_, h2⟩ := (h2 : ∃ _, _)))
      all_goals exact ⟨_, Eq.symm ‹some (Value.int _) = r9›⟩)
  have hs := s_unlocked hR  h1 h2
  refine r_icmpeq (tgt := 1670) c0 dL_law_1609 (by decide) (fun c9 => ?_) (fun c9 => absurd hs.1 c9)
  exact hk _ _ _ (by omega) hs.2
set_option maxRecDepth 100000 in
set_option maxHeartbeats 1000000 in
theorem l_unlockedAt {l : Launch} {D : va_G} {ad : Nat → Nat → Nat} {aC : Nat → ClassId} {b Ls : Nat} {xs : Nat → Int32} {S : gS} (C : LX l D ad aC b Ls xs S) {n i : Nat} {σ : gSig} {τ : gTau} (hR : Rel σ) (hi : i + 4 ≤ Ls) (hL : Ls ≤ 2048) (hn : n + 3 ≤ 10000) (hk : ∀ (n' : Nat) (σ' : gSig) (τ' : gTau), n' ≤ n + 3 → Rel σ' → S n' σ' τ' 1670 (lawL ad b i) []) : S n σ τ 1614 (lawL ad b i) [] := by
  have c0 := C.cx
  obtain ⟨w, hw16, w1, w2, w3⟩ := id hR.2.2.2.2.2
  refine r_aload_n c0 dL_law_1614 rfl rfl ?_
  refine r_aload_n c0 dL_law_1615 rfl rfl ?_
  refine r_iload c0 dL_law_1616 rfl ?_
  refine r_iconst (v := 1) c0 dL_law_1618 rfl ?_
  refine r_iadd c0 dL_law_1619 ?_
  refine r_sld C (j := 1) (by omega) (by omega) dL_law_1620 ?_
  refine r_aload_n c0 dL_law_1621 rfl rfl ?_
  refine r_callH C dL_law_1622 (w_unlockedAt (c_unlockedAt σ τ (xs (i + 1)) w w1 hw16) (fun r σ9 τ9 h => (by
      repeat' (first | (rcases (h : _ ∨ _) with h | h) | (obtain ⟨_, h⟩ := (h : _ ∧ _)) | (obtain ⟨_, h⟩ := (h : ∃ _, _)))
      all_goals exact ⟨_, Eq.symm ‹some (Value.int _) = r›⟩)) (fun E σ9 τ9 h => by
      rcases h with ⟨⟨rfl, -⟩, -⟩ <;> simp)) rfl kcw_unlockedAt kini_L (by decide) (by show (parseMethodDescriptor yL_unlockedAt.desc).map (fun d => d.parameters.length) = some 3; decide +kernel) (by decide) kst_unlockedAt kl_L_191 (by decide) (Nat.le_of_ble_eq_true rfl) (by omega) ?_
  intro r9 σ1 τ1 h1
  obtain ⟨k0, rfl⟩ := wrQ_int h1
  have e9 : σ1 19 = σ 19 ∧ σ1 20 = σ 20 := by
    have h9 := h1
    rcases h9 with ⟨x9, t9, h9, -, -⟩ | ⟨E9, i9, -, h9, -⟩
    all_goals (repeat' (first | (rcases (h9 : _ ∨ _) with h9 | h9) | (obtain ⟨_, h9⟩ := (h9 : _ ∧ _)) | (obtain ⟨_, h9⟩ := (h9 : ∃ _, _))))
    all_goals (rw [← ‹_ = σ1›]; exact ⟨rfl, rfl⟩)
  refine r_istore c0 dL_law_1625 (by decide) rfl ?_
  refine r_aload_n c0 dL_law_1627 rfl rfl ?_
  refine r_aload_n c0 dL_law_1628 rfl rfl ?_
  refine r_iload c0 dL_law_1629 rfl ?_
  refine r_iconst (v := 1) c0 dL_law_1631 rfl ?_
  refine r_iadd c0 dL_law_1632 ?_
  refine r_sld C (j := 1) (by omega) (by omega) dL_law_1633 ?_
  refine r_callV c0 dL_law_1634 (m_unlockedAt σ1 τ1 (xs (i + 1)) w (by rw [e9.1]; exact w2) hw16) rfl ⟨by decide, by decide⟩ rfl rfl kB_X6_unlockedAt rfl kI_X6_unlockedAt kV_X6_unlockedAt kl_L_193 (by decide) (Nat.le_of_ble_eq_true rfl) (by omega) ?_
  intro r9 σ2 τ2 h2
  obtain ⟨b9, rfl⟩ : ∃ x : Int32, r9 = some (.int x) := (by
      repeat' (first | (rcases (h2 : _ ∨ _) with h2 | h2) | (obtain ⟨_, h2⟩ := (h2 : _ ∧ _)) | (obtain ⟨_, h2⟩ := (h2 : ∃ _, _)))
      all_goals exact ⟨_, Eq.symm ‹some (Value.int _) = r9›⟩)
  have hs := s_unlockedAt hR w1 hw16 w2 hw16 h1 h2
  obtain ⟨s1, s2, s3⟩ := hs
  refine r_istore c0 dL_law_1637 (by decide) rfl ?_
  refine r_aload_n c0 dL_law_1639 rfl rfl ?_
  refine r_callV c0 dL_law_1640 (m_thrown σ2 τ2) rfl ⟨by decide, by decide⟩ rfl rfl kB_X6_thrown rfl kI_X6_thrown kV_X6_thrown kl_L_102 (by decide) (Nat.le_of_ble_eq_true rfl) (by omega) ?_
  rintro r9 σ' τ' ⟨rfl, rfl, rfl⟩
  refine r_iload c0 dL_law_1643 rfl ?_
  refine r_icmpeq (tgt := 1650) c0 dL_law_1645 (by decide) (fun c9 => ?_) (fun c9 => absurd s1 c9)
  refine r_iload c0 dL_law_1650 rfl ?_
  refine r_ifne (tgt := 1667) c0 dL_law_1652 (by decide) (fun q9 => ?_) (fun q9 => ?_)
  · refine r_goto (tgt := 1670) c0 dL_law_1667 (by decide) ?_
    refine r_drop c0 [5, 6] ?_
    exact r_swk (hk _ _ _ (by omega) s3) rfl rfl rfl rfl
  · refine r_aload_n c0 dL_law_1655 rfl rfl ?_
    refine r_iconst (v := 0) c0 dL_law_1656 rfl ?_
    refine r_laldv (v := b9.toInt64) c0 dL_law_1657 ⟨by decide, by decide⟩ rfl (vp_in_nI (show 0 < 1 by decide) (by decide)) (s2 q9) ?_
    refine r_iload c0 dL_law_1658 rfl ?_
    refine r_i2l c0 dL_law_1660 ?_
    refine r_lcmp c0 dL_law_1661 ?_
    rw [lg_cmp_self]
    refine r_ifeq (tgt := 1667) c0 dL_law_1662 (by decide) (fun q8 => ?_) (fun q8 => absurd rfl q8)
    refine r_goto (tgt := 1670) c0 dL_law_1667 (by decide) ?_
    refine r_drop c0 [5, 6] ?_
    exact r_swk (hk _ _ _ (by omega) s3) rfl rfl rfl rfl
