/-! ===== the law: a formula drafted and entered: printed by p68.py ===== -/
abbrev lawB (ad : Nat → Nat → Nat) (b T : Nat) (v w : Int32) (k c : Nat) (is : Int32) (x y z u : Option Value) : gLoc := [some (.ref b), some (.ref (ad 0 0)), some (.ref (ad 19 0)), some (.ref (ad 19 1)), some (.ref (ad 19 2)), some (.ref (ad 19 3)), some (.int (nI T)), some (.int v), some (.int w), some (.int (nI k)), some (.int (nI c)), some (.int is), x, y, z, u]
abbrev LX (l : Launch) (D : va_G) (ad : Nat → Nat → Nat) (aC : Nat → ClassId) (b Ls : Nat) (xs : Nat → Int32) (S : gS) : Prop := Lx l D ad aC cL_law RL 16 (some .boolean) 11 50000 b Ls xs (fun r _ _ => r = some (.int 1)) S
theorem c_lowY {l : Launch} {D : va_G} {ad : Nat → Nat → Nat} {aC : Nat → ClassId} (σ : gSig) (τ : gTau) (x y : Int32) (k : Nat) (hy : y = nI k) (h1 : 1 ≤ k) (hk : k < 2 ^ 31) : CZ l D ad aC yL_low cL_low 2 (some .int) 0 [.int x, .int y] σ τ (fun r σ' τ' => (∃ j, j < k ∧ some (.int (nI j)) = r) ∧ σ = σ' ∧ τ = τ') := by
  subst hy
  exact c_low σ τ x k h1 hk
theorem nI_1c (k : Nat) : (1 : Int32) + nI k = nI (k + 1) := by rw [Int32.add_comm]; exact nI_1 k
theorem dbl_P : ∀ P, P < 6 → 1 ≤ P → (2 : Int32) * nI P - 1 = nI (2 * P - 1) := by decide
theorem b1_pow : ∀ c, c < 16 → b1 c = nI (2 ^ c) := by decide
theorem mask_lt {x : Int32} {c : Nat} (hx : m16 x) (hc : c < 16) (h : ∀ d, bt x d = true → d < c) : x < b1 c := by
  obtain ⟨k, hk, rfl⟩ := m16_nI hx
  rw [b1_pow c hc]
  have h2 : k < 2 ^ c := Nat.lt_pow_two_of_testBit _ (fun i hi => by
    cases hb : k.testBit i with
    | false => rfl
    | true =>
      have := h i (by rw [bt_nI (by omega)]; exact hb)
      omega)
  have h3 : 2 ^ c < 2 ^ 31 := Nat.pow_lt_pow_right (by decide) (by omega)
  exact (nI_ltI (by omega) h3).mpr h2
theorem op_fix : ∀ j, j < 11 → isO (nI (j + (if 2 < j then 1 else 0))) ∧ ¬ nI (j + (if 2 < j then 1 else 0)) = 3 ∧ nI (j + (if 2 < j then 1 else 0)) < 12 ∧ (¬ nI (j + (if 2 < j then 1 else 0)) < 0 ∧ nI (j + (if 2 < j then 1 else 0)) ≤ 13) ∧ ¬ nI (j + (if 2 < j then 1 else 0)) = 13 := by unfold isO; decide
set_option maxRecDepth 100000 in
set_option maxHeartbeats 4000000 in
theorem l_draft {l : Launch} {D : va_G} {ad : Nat → Nat → Nat} {aC : Nat → ClassId} {b Ls : Nat} {xs : Nat → Int32} {S : gS} (CL : LX l D ad aC b Ls xs S) {n T k c : Nat} {σ : gSig} {τ : gTau} {v w : Int32} (hI : Inv σ T) (hc : c < 16) (hT : T < 50) (hn : n + 200 ≤ 49000) (hk : ∀ (n' : Nat) (σ' : gSig) (τ' : gTau), n' ≤ n + 200 → Inv σ' (T + 1) → S n' σ' τ' 872 (lawB ad b T v w k c 1 none none none none) []) : S n σ τ 89 (lawB ad b T v w k c 1 none none none none) [] := by
  have C := CL.cx
  have K := CL.kx
  obtain ⟨⟨o, hK⟩, hlo, hnd, hlr, hlt, hlv, hld⟩ := id hI
  refine r_iconst (v := 1) C dL_law_89 rfl ?_
  refine r_iload C dL_law_90 rfl ?_
  refine r_iconst (v := 4) C dL_law_92 rfl ?_
  refine r_ishr C dL_law_93 ?_
  refine r_iconst (v := 5) C dL_law_94 rfl ?_
  refine r_callS C dL_law_95 (c_lowY σ τ _ 5 5 rfl (by decide) (by decide)) rfl kB_L_low rfl kS_L_low kl_L_43 (by decide) (Nat.le_of_ble_eq_true rfl) (by omega) ?_
  rintro r9 σ9 τ9 ⟨⟨j0, hj0, rfl⟩, rfl, rfl⟩
  refine r_iadd C dL_law_98 ?_
  rw [nI_1c]
  obtain ⟨P, hP⟩ : ∃ P, P = j0 + 1 := ⟨_, rfl⟩
  rw [← hP]
  refine r_istore C dL_law_99 (by decide) rfl ?_
  refine r_aload_n C dL_law_101 rfl rfl ?_
  refine r_callV C dL_law_102 (c_wipe σ τ) rfl ⟨by decide, by decide⟩ rfl rfl kB_X5_wipe rfl kI_X5_wipe kV_X5_wipe kl_L_47 (by decide) (Nat.le_of_ble_eq_true rfl) (by omega) ?_
  rintro r9 σ' τ' ⟨rfl, rfl, rfl⟩
  refine r_pop C dL_law_105 rfl ?_
  refine r_iconst (v := 0) C dL_law_106 rfl ?_
  refine r_istore C dL_law_107 (by decide) rfl ?_
  have lp : ∀ m i, i ≤ P → P - i < m → ∀ (n3 : Nat) (σ3 : gSig) (τ3 : gTau), n3 ≤ n + 3 * i → Inv σ3 T → drK σ3 c (2 * i - 1) → dep (σ3 2 16) (2 * i - 1) = (if i = 0 then 0 else 1) → S n3 σ3 τ3 109 (lawB ad b T v w k c 1 (some (.int (nI P))) (some (.int (nI i))) none none) [] := by
    intro m
    induction m with
    | zero => intro i _ hm; omega
    | succ m ih =>
      intro i hi hm n3 σ3 τ3 hn3 hI3 hd3 hdep
      refine r_iload C dL_law_109 rfl ?_
      refine r_iload C dL_law_111 rfl ?_
      refine r_icmpge (tgt := 223) C dL_law_113 (by decide) (fun c113 => ?_) (fun c113 => ?_)
      · have n113 := Int32.not_lt.mpr c113
        have hiP : i = P := by
          have := (nI_leI (by omega) (by omega)).mp c113
          omega
        subst hiP
        have hdep1 : dep (σ3 2 16) (2 * i - 1) = 1 := by rw [hdep, if_neg (by omega)]
        refine r_iload C dL_law_223 rfl ?_
        refine r_ifeq (tgt := 274) C dL_law_225 (by decide) (fun c225 => ?_) (fun c225 => ?_)
        · exact absurd c225 (by decide)
        · refine r_aload_n C dL_law_228 rfl rfl ?_
          refine r_callV C dL_law_229 (c_drafted σ3 τ3) rfl ⟨by decide, by decide⟩ rfl rfl kB_X5_drafted rfl kI_X5_drafted kV_X5_drafted kl_L_59 (by decide) (Nat.le_of_ble_eq_true rfl) (by omega) ?_
          rintro r9 σ' τ' ⟨rfl, rfl, rfl⟩
          refine r_iconst (v := 2) C dL_law_232 rfl ?_
          refine r_iload C dL_law_233 rfl ?_
          refine r_imul C dL_law_235 ?_
          refine r_iconst (v := 1) C dL_law_236 rfl ?_
          refine r_isub C dL_law_237 ?_
          rw [dbl_P i (by omega) (by omega), hd3.1]
          refine r_icmpne (tgt := 274) C dL_law_238 (by decide) (fun c238 => ?_) (fun c238 => ?_)
          · exact absurd rfl c238
          · refine r_aload_n C dL_law_241 rfl rfl ?_
            refine r_iload C dL_law_242 rfl ?_
            obtain ⟨⟨o3, hK3⟩, hlo3, hnd3, hlr3, hlt3, hlv3, hld3⟩ := id hI3
            refine r_callT K dL_law_244 (v_enter σ3 τ3 c (2 * i - 1) hc o3 hK3 hlo3 hlv3.1 hd3 (by omega) hdep1) rfl ⟨by decide, by decide⟩ rfl rfl kB_X5_enter rfl kI_X5_enter kV_X5_enter kl_L_62 (by decide) (Nat.le_of_ble_eq_true rfl) (by omega) ?_
            rintro r9 σ9 τ9 ⟨ord, ro, o2, x9, hx9, q1, q2, q3, q4, q5, rfl, rfl, rfl⟩
            refine r_iflt (tgt := 274) C dL_law_247 (by decide) (fun c247 => ?_) (fun c247 => ?_)
            · exact absurd c247 (bc_pos hx9)
            · refine r_aload_n C dL_law_250 rfl rfl ?_
              refine r_callV C dL_law_251 (c_drafted (enS σ3 c (2 * i - 1) ord ro) τ3) rfl ⟨by decide, by decide⟩ rfl rfl kB_X5_drafted rfl kI_X5_drafted kV_X5_drafted kl_L_59 (by decide) (Nat.le_of_ble_eq_true rfl) (by omega) ?_
              rintro r9 σ' τ' ⟨rfl, rfl, rfl⟩
              refine r_ifne (tgt := 274) C dL_law_254 (by decide) (fun c254 => ?_) (fun c254 => ?_)
              · exact absurd rfl c254
              · refine r_aload_n C dL_law_257 rfl rfl ?_
                refine r_iload C dL_law_258 rfl ?_
                refine r_callT K dL_law_260 (v_reads (enS σ3 c (2 * i - 1) ord ro) τ3 c hc) rfl ⟨by decide, by decide⟩ rfl rfl kB_X5_reads rfl kI_X5_reads kV_X5_reads kl_L_30 (by decide) (Nat.le_of_ble_eq_true rfl) (by omega) ?_
                rintro r9 σ' τ' ⟨rfl, rfl, rfl⟩
                refine r_iconst (v := 1) C dL_law_263 rfl ?_
                refine r_iload C dL_law_264 rfl ?_
                refine r_ishl C dL_law_266 ?_
                have hrd : (enS σ3 c (2 * i - 1) ord ro) 7 3 c < b1 c := by
                  have e : (enS σ3 c (2 * i - 1) ord ro) 7 3 c = rsM (σ3 2 16) (σ3 3 16) (2 * i - 1) := by
                    show (up3 σ3 7 3 c (rsM (σ3 2 16) (σ3 3 16) (2 * i - 1))) 7 3 c = _
                    rw [up3_i2, if_pos rfl]
                  rw [e]
                  exact mask_lt (dr_rd hd3).1 hc (dr_rd hd3).2
                refine r_icmpge (tgt := 274) C dL_law_267 (by decide) (fun c267 => ?_) (fun c267 => ?_)
                · have n267 := Int32.not_lt.mpr c267
                  exact absurd hrd (Int32.not_lt.mpr c267)
                · have n267 := Int32.not_le.mp c267
                  refine r_iconst (v := 1) C dL_law_270 rfl ?_
                  refine r_goto (tgt := 275) C dL_law_271 (by decide) ?_
                  refine r_istore C dL_law_275 (by decide) rfl ?_
                  refine r_aload_n C dL_law_277 rfl rfl ?_
                  refine r_iload C dL_law_278 rfl ?_
                  refine r_iconst (v := 1) C dL_law_280 rfl ?_
                  refine r_iastv C dL_law_281 ⟨by decide, by decide⟩ (fun _ => rfl) (vp_in_nI hc (by decide)) (nI_clamp (by omega)) ?_
                  refine r_goto (tgt := 872) C dL_law_282 (by decide) ?_
                  refine r_drop C [12, 13, 14, 15] ?_
                  exact r_swk (hk _ _ _ (by omega) (inv_enter hI3 hd3 hc (by omega) hdep1 q1 q2 q3 q4 q5)) rfl rfl rfl rfl
      · have n113 := Int32.not_le.mp c113
        have hil : i < P := (nI_ltI (by omega) (by omega)).mp n113
        refine r_iload C dL_law_116 rfl ?_
        refine r_bipush (v := 7) C dL_law_118 rfl ?_
        refine r_iload C dL_law_120 rfl ?_
        refine r_iadd C dL_law_122 ?_
        refine r_ishr C dL_law_123 ?_
        refine r_bipush (v := 16) C dL_law_124 rfl ?_
        refine r_callS C dL_law_126 (c_lowY σ3 τ3 _ 16 16 rfl (by decide) (by decide)) rfl kB_L_low rfl kS_L_low kl_L_43 (by decide) (Nat.le_of_ble_eq_true rfl) (by omega) ?_
        rintro r9 σ9 τ9 ⟨⟨j1, hj1, rfl⟩, rfl, rfl⟩
        refine r_istore C dL_law_129 (by decide) rfl ?_
        have j163 : ∀ (n2 : Nat) (σ2 : gSig) (τ2 : gTau), n2 ≤ n3 + 2 → Inv σ2 T → drK σ2 c (2 * i - 1 + 1) → dep (σ2 2 16) (2 * i - 1 + 1) = (if i = 0 then 0 else 1) + 1 → S n2 σ2 τ2 163 (lawB ad b T v w k c 1 (some (.int (nI P))) (some (.int (nI i))) (some (.int (nI j1))) none) [] := by
          intro n2 σ2 τ2 hn2 hI2 hd2 hdep2
          refine r_iload C dL_law_163 rfl ?_
          refine r_bipush (v := 11) C dL_law_165 rfl ?_
          refine r_iload C dL_law_167 rfl ?_
          refine r_iadd C dL_law_169 ?_
          refine r_ishr C dL_law_170 ?_
          refine r_bipush (v := 11) C dL_law_171 rfl ?_
          refine r_callS C dL_law_173 (c_lowY σ2 τ2 _ 11 11 rfl (by decide) (by decide)) rfl kB_L_low rfl kS_L_low kl_L_43 (by decide) (Nat.le_of_ble_eq_true rfl) (by omega) ?_
          rintro r9 σ9 τ9 ⟨⟨j2, hj2, rfl⟩, rfl, rfl⟩
          refine r_istore C dL_law_176 (by decide) rfl ?_
          have j217 : ∀ (n4 : Nat) (σ4 : gSig) (τ4 : gTau), n4 ≤ n3 + 3 → Inv σ4 T → drK σ4 c (2 * (i + 1) - 1) → dep (σ4 2 16) (2 * (i + 1) - 1) = 1 → S n4 σ4 τ4 217 (lawB ad b T v w k c 1 (some (.int (nI P))) (some (.int (nI i))) (some (.int (nI j1))) (some (.int (nI j2)))) [] := by
            intro n4 σ4 τ4 hn4 hI4 hd4 hdep4
            refine r_iinc C dL_law_217 rfl rfl (by decide) rfl ?_
            refine r_goto (tgt := 109) C dL_law_220 (by decide) ?_
            refine r_drop C [14, 15] ?_
            exact r_swk (ih (i + 1) (by omega) (by omega) n4 σ4 τ4 (by omega) hI4 hd4 (by rw [if_neg (by omega)]; exact hdep4)) rfl rfl (by rw [← nI_p1]; rfl) rfl
          refine r_iload C dL_law_178 rfl ?_
          refine r_ifle (tgt := 217) C dL_law_180 (by decide) (fun c180 => ?_) (fun c180 => ?_)
          · have hi0 : i = 0 := by
              have := (nI_leI (b := 0) (by omega) (by decide)).mp c180
              omega
            subst hi0
            exact j217 _ _ _ (by omega) hI2 hd2 hdep2
          · have hi1 : ¬ i = 0 := fun q => c180 (by rw [q]; decide)
            rw [if_neg hi1] at hdep2
            obtain ⟨p1, p2, p3, p4, p5⟩ := op_fix j2 hj2
            obtain ⟨opn, hopn⟩ : ∃ z, z = j2 + (if 2 < j2 then 1 else 0) := ⟨_, rfl⟩
            rw [← hopn] at p1 p2 p3 p4 p5
            refine r_iload C dL_law_183 rfl ?_
            refine r_ifeq (tgt := 214) C dL_law_185 (by decide) (fun c185 => ?_) (fun c185 => ?_)
            · exact absurd c185 (by decide)
            · refine r_aload_n C dL_law_188 rfl rfl ?_
              refine r_iload C dL_law_189 rfl ?_
              refine r_iload C dL_law_191 rfl ?_
              refine r_iconst (v := 2) C dL_law_193 rfl ?_
              have j202 : ∀ x : Int32, nI j2 + x = nI opn → S n2 σ2 τ2 202 (lawB ad b T v w k c 1 (some (.int (nI P))) (some (.int (nI i))) (some (.int (nI j1))) (some (.int (nI j2)))) [.int x, .int (nI j2), .ref (ad 0 0)] := by
                intro x hx
                refine r_iadd C dL_law_202 ?_
                rw [hx]
                refine r_callT K dL_law_203 (v_apply σ2 τ2 (nI opn) p1 (by rw [hd2.2.1, hdep2]; decide) (2 * i - 1 + 1) hd2.1 (by omega)) rfl ⟨by decide, by decide⟩ rfl rfl kB_X5_apply rfl kI_X5_apply kV_X5_apply kl_L_56 (by decide) (Nat.le_of_ble_eq_true rfl) (by omega) ?_
                rintro r9 σ' τ' ⟨rfl, rfl, rfl⟩
                obtain ⟨hd9, hdep9⟩ := dr_put (kd := nI opn) (nm := 0) hd2 (by omega) p4 p2 (fun _ => by omega) (fun q => absurd q p5)
                rw [if_pos p3, hdep2] at hdep9
                have hr1 : (putS σ2 16 (2 * i - 1 + 1) (nI opn) 0) 1 16 4 = 1 := by
                  rw [hd9.2.1, hdep9]
                  rfl
                rw [hr1]
                refine r_iconst (v := 1) C dL_law_206 rfl ?_
                refine r_icmpne (tgt := 214) C dL_law_207 (by decide) (fun c207 => ?_) (fun c207 => ?_)
                · exact absurd rfl c207
                · refine r_iconst (v := 1) C dL_law_210 rfl ?_
                  refine r_goto (tgt := 215) C dL_law_211 (by decide) ?_
                  refine r_istore C dL_law_215 (by decide) rfl ?_
                  have e9 : 2 * (i + 1) - 1 = 2 * i - 1 + 1 + 1 := by omega
                  exact j217 _ _ _ (by omega) (inv_put hI2) (by rw [e9]; exact hd9) (by rw [e9]; exact hdep9)
              refine r_icmple (tgt := 201) C dL_law_194 (by decide) (fun c194 => ?_) (fun c194 => ?_)
              · have n194 := Int32.not_lt.mpr c194
                refine r_iconst (v := 0) C dL_law_201 rfl ?_
                have h2 : ¬ 2 < j2 := fun q => absurd ((nI_leI (b := 2) (by omega) (by decide)).mp c194) (by omega)
                exact j202 0 (by rw [hopn, if_neg h2, Int32.add_zero]; rfl)
              · have n194 := Int32.not_le.mp c194
                refine r_iconst (v := 1) C dL_law_197 rfl ?_
                refine r_goto (tgt := 202) C dL_law_198 (by decide) ?_
                have h2 : 2 < j2 := (nI_ltI (a := 2) (by decide) (by omega)).mp n194
                exact j202 1 (by rw [hopn, if_pos h2]; exact nI_1 j2)
        refine r_iload C dL_law_131 rfl ?_
        refine r_iload C dL_law_133 rfl ?_
        refine r_icmpge (tgt := 148) C dL_law_135 (by decide) (fun c135 => ?_) (fun c135 => ?_)
        · have n135 := Int32.not_lt.mpr c135
          refine r_aload_n C dL_law_148 rfl rfl ?_
          refine r_iload C dL_law_149 rfl ?_
          refine r_sipush (v := 1000) C dL_law_151 rfl ?_
          refine r_imul C dL_law_154 ?_
          refine r_sipush (v := 6000) C dL_law_155 rfl ?_
          refine r_isub C dL_law_158 ?_
          refine r_callT K dL_law_159 (v_number σ3 τ3 (nI j1 * 1000 - 6000) (2 * i - 1) hd3.1 (by omega)) rfl ⟨by decide, by decide⟩ rfl rfl kB_X5_number rfl kI_X5_number kV_X5_number kl_L_53 (by decide) (Nat.le_of_ble_eq_true rfl) (by omega) ?_
          rintro r9 σ' τ' ⟨rfl, rfl, rfl⟩
          refine r_pop C dL_law_162 rfl ?_
          obtain ⟨hd9, hdep9⟩ := dr_put (kd := 12) (nm := (nI j1 * 1000 - 6000)) hd3 (by omega) (by decide) (by decide) (fun q => absurd q (by decide)) (fun q => absurd q (by decide))
          exact j163 _ _ _ (by omega) (inv_put hI3) hd9 (by rw [hdep9, if_neg (by decide), hdep])
        · have n135 := Int32.not_le.mp c135
          have hj1c : j1 < c := (nI_ltI (by omega) (by omega)).mp n135
          refine r_aload_n C dL_law_138 rfl rfl ?_
          refine r_iload C dL_law_139 rfl ?_
          refine r_callT K dL_law_141 (v_cell σ3 τ3 j1 hj1 (2 * i - 1) hd3.1 (by omega)) rfl ⟨by decide, by decide⟩ rfl rfl kB_X5_cell rfl kI_X5_cell kV_X5_cell kl_L_51 (by decide) (Nat.le_of_ble_eq_true rfl) (by omega) ?_
          rintro r9 σ' τ' ⟨rfl, rfl, rfl⟩
          refine r_pop C dL_law_144 rfl ?_
          refine r_goto (tgt := 163) C dL_law_145 (by decide) ?_
          obtain ⟨hd9, hdep9⟩ := dr_put (kd := 13) (nm := nI j1) hd3 (by omega) (by decide) (by decide) (fun q => absurd q (by decide)) (fun _ => ⟨j1, hj1c, rfl⟩)
          exact j163 _ _ _ (by omega) (inv_put hI3) hd9 (by rw [hdep9, if_neg (by decide), hdep])
  exact r_swk (lp (P + 1) 0 (by omega) (by omega) n (clS σ) τ (by omega) (inv_cl hI) (dr_0 σ c) rfl) rfl rfl rfl rfl
