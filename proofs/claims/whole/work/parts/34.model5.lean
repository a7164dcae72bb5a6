/-! ===== the law's model: enter: printed by g34.py ===== -/
def dK (σ : gSig) (j : Nat) : Int32 := kdM (σ 20 0 j) (σ 20 1 j)
def dN (σ : gSig) (j : Nat) : Int32 := σ 20 1 j
/-- the model's draft stands as it should -/
def dfK (σ : gSig) (k : Nat) : Prop := ∀ j, j < k → (σ 20 0 j = 0 ∨ σ 20 0 j = 1 ∨ σ 20 0 j = 2) ∧ (σ 20 0 j = 2 → ¬ σ 20 1 j < 0 ∧ σ 20 1 j < 12) ∧ (σ 20 0 j = 1 → isC (σ 20 1 j))
theorem dK_13 {σ : gSig} {k j : Nat} (h : dfK σ k) (hj : j < k) : dK σ j = 13 ↔ σ 20 0 j = 1 := by
  obtain ⟨h1, h2, h3⟩ := h j hj
  unfold dK kdM
  rcases h1 with e | e | e
  · rw [e, if_neg (by decide), if_neg (by decide)]; decide
  · rw [e, if_neg (by decide), if_pos rfl]; exact ⟨fun _ => rfl, fun _ => rfl⟩
  · rw [e]
    constructor
    · intro q
      rw [if_pos rfl] at q
      have := (h2 e).2
      rw [q] at this
      exact absurd this (by decide)
    · intro q; exact absurd q (by decide)
def cpR (g s : Nat → Int32) (b n : Nat) : Nat → Int32 := fun i => if b ≤ i ∧ i < b + n then s (i - b) else g i
theorem cpR_0 (g s : Nat → Int32) (b : Nat) : cpR g s b 0 = g := by funext i; exact if_neg (by omega)
theorem cpR_s (g s : Nat → Int32) (b n : Nat) : upd (cpR g s b n) (b + n) (s n) = cpR g s b (n + 1) := by
  funext i
  unfold upd cpR
  by_cases h : i = b + n
  · subst h
    rw [if_pos rfl, if_pos (by omega), Nat.add_sub_cancel_left]
  · rw [if_neg h]
    by_cases h2 : b ≤ i ∧ i < b + n
    · rw [if_pos h2, if_pos (by omega)]
    · rw [if_neg h2, if_neg (by omega)]
def encS (σ : gSig) (c n : Nat) : gSig := upR (upR σ 20 3 (cpR (σ 20 3) (σ 20 0) (12 * c) n)) 20 4 (cpR (σ 20 4) (σ 20 1) (12 * c) n)
theorem encS_0 (σ : gSig) (c : Nat) : encS σ c 0 = σ := by
  unfold encS
  rw [cpR_0, cpR_0, upR_id]
  exact upR_id σ 20 4
theorem encS_ne (σ : gSig) (c n f r : Nat) (h : f ≠ 20 ∨ (r ≠ 3 ∧ r ≠ 4)) : encS σ c n f r = σ f r := by
  unfold encS
  rw [upR_ne _ _ _ _ (fun q => by
    have q1 := congrArg Prod.fst q
    have q2 := congrArg Prod.snd q
    dsimp only at q1 q2
    omega), upR_ne _ _ _ _ (fun q => by
    have q1 := congrArg Prod.fst q
    have q2 := congrArg Prod.snd q
    dsimp only at q1 q2
    omega)]
theorem encS_s (σ : gSig) (c n : Nat) : up3 (up3 (encS σ c n) 20 3 (12 * c + n) (σ 20 0 n)) 20 4 (12 * c + n) (σ 20 1 n) = encS σ c (n + 1) := by
  unfold encS
  rw [up3_swap _ _ _ _ _ _ _ _ (by decide), up3_upR, cpR_s, cpR_s]
/-- what entering leaves, before the changes -/
def enS (σ : gSig) (c k : Nat) : gSig := up3 (up3 (up3 (encS σ c k) 20 2 c (nI k)) 19 0 2 0) 19 0 3 0
def enB (σ : gSig) (c k : Nat) : Prop := σ 19 0 3 = 1 ∧ bt (clR (mR σ) (rsM (dK σ) (dN σ) k) 16) c = false
set_option maxRecDepth 100000 in
set_option maxHeartbeats 400000 in
theorem m_enter {l : Launch} {D : va_G} {ad : Nat → Nat → Nat} {aC : Nat → ClassId} (σ : gSig) (τ : gTau) (cl : Int32) (k : Nat) (hk : σ 19 0 2 = nI k) (hk2 : k ≤ 12) (hdf : dfK σ k) (hm : ∀ c, c < 16 → msK σ c) (hnew : ∀ c, c < 16 → enB σ c k → (∀ d, d < 16 → msK (enS (up3 σ 19 0 0 0) c k) d) ∧ ∃ rk : Nat → Nat, ∀ a b, a < 16 → b < 16 → bt (mR (enS (up3 σ 19 0 0 0) c k) a) b = true → rk b < rk a) : CZ l D ad aC yX6_enter cX6_enter 4 (some .int) 3 [.ref (ad 19 0), .int cl] σ τ (fun r σ' τ' => (¬ isC cl ∧ thQ σ τ 1 r σ' τ') ∨ ∃ c, c < 16 ∧ cl = nI c ∧ ((¬ enB σ c k ∧ thQ σ τ 2 r σ' τ') ∨ (enB σ c k ∧ mcQ (enS (up3 σ 19 0 0 0) c k) τ c r σ' τ'))) := by
  refine CZ.of (own := RX6) (by decide +kernel) rfl (Nat.le_of_ble_eq_true rfl) (fun S C => ?_)
  refine r_iload_n C dX6_enter_0 rfl rfl ?_
  refine r_callS C dX6_enter_1 (m_isCell σ τ cl) rfl kB_X6_isCell rfl kS_X6_isCell kl_X6_104 (by decide) (Nat.le_of_ble_eq_true rfl) (by decide) ?_
  rintro r9 σ' τ' ⟨rfl, rfl, rfl⟩
  refine r_ifne (tgt := 13) C dX6_enter_4 (by decide) (fun c4 => ?_) (fun c4 => ?_)
  · have hC := isCB_t.mp (b2i_n.mp c4)
    obtain ⟨c, hc, rfl⟩ := isC_nI hC
    refine r_iconst (v := 0) C dX6_enter_13 rfl ?_
    refine r_istore_n C dX6_enter_14 rfl (by decide) rfl ?_
    refine r_iconst (v := 0) C dX6_enter_15 rfl ?_
    refine r_istore_n C dX6_enter_16 rfl (by decide) rfl ?_
    have lp1 : ∀ m i, i ≤ k → k - i < m → S 0 σ τ 17 [some (.ref (ad 19 0)), some (.int (nI c)), some (.int (rsM (dK σ) (dN σ) i)), some (.int (nI i))] [] := by
      intro m
      induction m with
      | zero => intro i _ hm; omega
      | succ m ihlp1 =>
        intro i hilp1 hmlp1
        refine r_iload_n C dX6_enter_17 rfl rfl ?_
        refine r_aload_n C dX6_enter_18 rfl rfl ?_
        refine r_get (f := 2) (v := .int (nI k)) C dX6_enter_19 ⟨by decide, by decide⟩ rfl rfl kU6 (by decide) kf_X6_94 rfl (by rw [← hk]; rfl) ?_
        refine r_icmpge (tgt := 56) C dX6_enter_22 (by decide) (fun c22 => ?_) (fun c22 => ?_)
        · have n22 := Int32.not_lt.mpr c22
          have hlp1e : i = k := by
            have := (nI_leI (a := k) (by omega) (by omega)).mp c22
            omega
          subst hlp1e
          refine r_aload_n C dX6_enter_56 rfl rfl ?_
          refine r_aload_n C dX6_enter_57 rfl rfl ?_
          refine r_get (f := 3) C dX6_enter_58 ⟨by decide, by decide⟩ rfl rfl kU6 (by decide) kf_X6_97 rfl rfl ?_
          refine r_iconst (v := 1) C dX6_enter_61 rfl ?_
          refine r_icmpne (tgt := 78) C dX6_enter_62 (by decide) (fun c62 => ?_) (fun c62 => ?_)
          · have hno : ¬ enB σ c i := fun q => c62 q.1
            refine r_iconst (v := 2) C dX6_enter_78 rfl ?_
            refine r_goto (tgt := 83) C dX6_enter_79 (by decide) ?_
            refine r_put (f := 0) C dX6_enter_83 ⟨by decide, by decide⟩ rfl rfl kU6 tyX6 tyX6_ok nmX6 (by decide) kf_X6_86 rfl rfl (by decide +kernel) (Nat.le_of_ble_eq_true rfl) (by simp [cel, up3]) ?_
            refine r_aload_n C dX6_enter_86 rfl rfl ?_
            refine r_get (f := 0) (v := .int 2) C dX6_enter_87 ⟨by decide, by decide⟩ rfl rfl kU6 (by decide) kf_X6_86 rfl (by simp [up3_at]) ?_
            refine r_ifle (tgt := 95) C dX6_enter_90 (by decide) (fun c90 => ?_) (fun c90 => ?_)
            · exact absurd c90 (by decide)
            · refine r_iconst (v := 0) C dX6_enter_93 rfl ?_
              exact r_iret C dX6_enter_94 rfl (by decide) (Or.inr ⟨c, hc, rfl, Or.inl ⟨hno, rfl, rfl, rfl⟩⟩)
          · skip
            refine r_aload_n C dX6_enter_65 rfl rfl ?_
            refine r_iload_n C dX6_enter_66 rfl rfl ?_
            refine r_callV C dX6_enter_67 (m_under σ τ (rsM (dK σ) (dN σ) i) hm) rfl ⟨by decide, by decide⟩ rfl rfl kB_X6_under rfl kI_X6_under kV_X6_under kl_X6_115 (by decide) (Nat.le_of_ble_eq_true rfl) (by decide) ?_
            rintro r9 σ' τ' ⟨rfl, rfl, rfl⟩
            refine r_iload_n C dX6_enter_70 rfl rfl ?_
            refine r_ishr C dX6_enter_71 ?_
            refine r_iconst (v := 1) C dX6_enter_72 rfl ?_
            refine r_iand C dX6_enter_73 ?_
            refine r_iconst (v := 1) C dX6_enter_74 rfl ?_
            refine r_icmpne (tgt := 82) C dX6_enter_75 (by decide) (fun c75 => ?_) (fun c75 => ?_)
            · have hyes : enB σ c i := ⟨c62, by
                cases hb : bt (clR (mR σ) (rsM (dK σ) (dN σ) i) 16) c with
                | false => rfl
                | true => exact absurd ((bt_sh1 (by omega) _).mpr hb) c75⟩
              refine r_iconst (v := 0) C dX6_enter_82 rfl ?_
              refine r_put (f := 0) C dX6_enter_83 ⟨by decide, by decide⟩ rfl rfl kU6 tyX6 tyX6_ok nmX6 (by decide) kf_X6_86 rfl rfl (by decide +kernel) (Nat.le_of_ble_eq_true rfl) (by simp [cel, up3]) ?_
              refine r_aload_n C dX6_enter_86 rfl rfl ?_
              refine r_get (f := 0) (v := .int 0) C dX6_enter_87 ⟨by decide, by decide⟩ rfl rfl kU6 (by decide) kf_X6_86 rfl (by simp [up3_at]) ?_
              refine r_ifle (tgt := 95) C dX6_enter_90 (by decide) (fun c90 => ?_) (fun c90 => ?_)
              · obtain ⟨hmk, rk, hrk⟩ := hnew c hc hyes
                have hk0 : (up3 σ 19 0 0 0) 19 0 2 = nI i := by simpa [up3_at] using hk
                refine r_iconst (v := 0) C dX6_enter_95 rfl ?_
                refine r_istore_n C dX6_enter_96 rfl (by decide) rfl ?_
                have lp2 : ∀ m j, j ≤ i → i - j < m → S 0 (encS (up3 σ 19 0 0 0) c j) τ 97 [some (.ref (ad 19 0)), some (.int (nI c)), some (.int (rsM (dK σ) (dN σ) i)), some (.int (nI j))] [] := by
                  intro m
                  induction m with
                  | zero => intro j _ hm; omega
                  | succ m ihlp2 =>
                    intro j hilp2 hmlp2
                    refine r_iload_n C dX6_enter_97 rfl rfl ?_
                    refine r_aload_n C dX6_enter_98 rfl rfl ?_
                    refine r_get (f := 2) (v := .int (nI i)) C dX6_enter_99 ⟨by decide, by decide⟩ rfl rfl kU6 (by decide) kf_X6_94 rfl (by rw [encS_ne _ _ _ _ _ (by decide), hk0]; rfl) ?_
                    refine r_icmpge (tgt := 145) C dX6_enter_102 (by decide) (fun c102 => ?_) (fun c102 => ?_)
                    · have n102 := Int32.not_lt.mpr c102
                      have hlp2e : j = i := by
                        have := (nI_leI (a := i) (by omega) (by omega)).mp c102
                        omega
                      subst hlp2e
                      refine r_aload_n C dX6_enter_145 rfl rfl ?_
                      refine r_get (f := 6) C dX6_enter_146 ⟨by decide, by decide⟩ rfl rfl kU6 (by decide) kf_X6_16 rfl rfl ?_
                      refine r_iload_n C dX6_enter_149 rfl rfl ?_
                      refine r_aload_n C dX6_enter_150 rfl rfl ?_
                      refine r_get (f := 2) (v := .int (nI j)) C dX6_enter_151 ⟨by decide, by decide⟩ rfl rfl kU6 (by decide) kf_X6_94 rfl (by rw [encS_ne _ _ _ _ _ (by decide), hk0]; rfl) ?_
                      refine r_iastv C dX6_enter_154 ⟨by decide, by decide⟩ (fun _ => rfl) (vp_in_nI hc (by decide)) (nI_clamp (by omega)) ?_
                      refine r_aload_n C dX6_enter_155 rfl rfl ?_
                      refine r_iconst (v := 0) C dX6_enter_156 rfl ?_
                      refine r_put (f := 2) C dX6_enter_157 ⟨by decide, by decide⟩ rfl rfl kU6 tyX6 tyX6_ok nmX6 (by decide) kf_X6_94 rfl rfl (by decide +kernel) (Nat.le_of_ble_eq_true rfl) (by simp [cel, up3]) ?_
                      refine r_aload_n C dX6_enter_160 rfl rfl ?_
                      refine r_iconst (v := 0) C dX6_enter_161 rfl ?_
                      refine r_put (f := 3) C dX6_enter_162 ⟨by decide, by decide⟩ rfl rfl kU6 tyX6 tyX6_ok nmX6 (by decide) kf_X6_97 rfl rfl (by decide +kernel) (Nat.le_of_ble_eq_true rfl) (by simp [cel, up3]) ?_
                      refine r_aload_n C dX6_enter_165 rfl rfl ?_
                      refine r_iload_n C dX6_enter_166 rfl rfl ?_
                      have hst9 : up3 (up3 (up3 (encS (up3 σ 19 0 0 0) c j) 20 2 c (nI j)) 19 0 2 0) 19 0 3 0 = enS (up3 σ 19 0 0 0) c j := rfl
                      rw [hst9]
                      refine r_callV C dX6_enter_167 (m_changes (enS (up3 σ 19 0 0 0) c j) τ c hc rk hmk hrk) rfl ⟨by decide, by decide⟩ rfl rfl kB_X6_changes rfl kI_X6_changes kV_X6_changes kl_X6_121 (by decide) (Nat.le_of_ble_eq_true rfl) (by decide) ?_
                      intro r9 σ' τ' hq
                      have hq2 := hq
                      obtain ⟨ord, o, rfl, rfl, rfl, -⟩ := hq
                      exact r_iret C dX6_enter_170 rfl (by decide) (Or.inr ⟨c, hc, rfl, Or.inr ⟨hyes, hq2⟩⟩)
                    · have n102 := Int32.not_le.mp c102
                      have hlp2l : j < i := (nI_ltI (b := i) (by omega) (by omega)).mp n102
                      refine r_aload_n C dX6_enter_105 rfl rfl ?_
                      refine r_get (f := 7) C dX6_enter_106 ⟨by decide, by decide⟩ rfl rfl kU6 (by decide) kf_X6_19 rfl rfl ?_
                      refine r_bipush (v := 12) C dX6_enter_109 rfl ?_
                      refine r_iload_n C dX6_enter_111 rfl rfl ?_
                      refine r_imul C dX6_enter_112 ?_
                      refine r_iload_n C dX6_enter_113 rfl rfl ?_
                      refine r_iadd C dX6_enter_114 ?_
                      rw [ix12]
                      refine r_aload_n C dX6_enter_115 rfl rfl ?_
                      refine r_get (f := 4) C dX6_enter_116 ⟨by decide, by decide⟩ rfl rfl kU6 (by decide) kf_X6_7 rfl rfl ?_
                      refine r_iload_n C dX6_enter_119 rfl rfl ?_
                      refine r_ialdv (v := (up3 σ 19 0 0 0) 20 0 j) C dX6_enter_120 ⟨by decide, by decide⟩ rfl (vp_in_nI (show j < 12 by omega) (by decide)) (by rw [nI_clamp (by omega)]; first | rw [encS_ne _ _ _ _ _ (by decide)] | (rw [up3_ne _ _ _ _ _ (by simp)]; rw [encS_ne _ _ _ _ _ (by decide)])) ?_
                      refine r_iastv C dX6_enter_121 ⟨by decide, by decide⟩ (fun _ => rfl) (vp_in_nI (show 12 * c + j < 192 by omega) (by decide)) (nI_clamp (by omega)) ?_
                      refine r_aload_n C dX6_enter_122 rfl rfl ?_
                      refine r_get (f := 8) C dX6_enter_123 ⟨by decide, by decide⟩ rfl rfl kU6 (by decide) kf_X6_22 rfl rfl ?_
                      refine r_bipush (v := 12) C dX6_enter_126 rfl ?_
                      refine r_iload_n C dX6_enter_128 rfl rfl ?_
                      refine r_imul C dX6_enter_129 ?_
                      refine r_iload_n C dX6_enter_130 rfl rfl ?_
                      refine r_iadd C dX6_enter_131 ?_
                      rw [ix12]
                      refine r_aload_n C dX6_enter_132 rfl rfl ?_
                      refine r_get (f := 5) C dX6_enter_133 ⟨by decide, by decide⟩ rfl rfl kU6 (by decide) kf_X6_13 rfl rfl ?_
                      refine r_iload_n C dX6_enter_136 rfl rfl ?_
                      refine r_ialdv (v := (up3 σ 19 0 0 0) 20 1 j) C dX6_enter_137 ⟨by decide, by decide⟩ rfl (vp_in_nI (show j < 12 by omega) (by decide)) (by rw [nI_clamp (by omega)]; first | rw [encS_ne _ _ _ _ _ (by decide)] | (rw [up3_ne _ _ _ _ _ (by simp)]; rw [encS_ne _ _ _ _ _ (by decide)])) ?_
                      refine r_iastv C dX6_enter_138 ⟨by decide, by decide⟩ (fun _ => rfl) (vp_in_nI (show 12 * c + j < 192 by omega) (by decide)) (nI_clamp (by omega)) ?_
                      rw [encS_s]
                      refine r_iinc C dX6_enter_139 rfl rfl (by decide) rfl ?_
                      refine r_goto (tgt := 97) C dX6_enter_142 (by decide) ?_
                      exact r_swk (ihlp2 (j + 1) (by omega) (by omega)) rfl rfl (by rw [← nI_p1]; rfl) rfl
                have h0 := lp2 (i + 1) 0 (by omega) (by omega)
                rw [encS_0] at h0
                exact h0
              · exact absurd (by decide) c90
            · have hno : ¬ enB σ c i := fun q => by
                have := (bt_sh1 (by omega) _).mp c75
                rw [q.2] at this
                cases this
              refine r_iconst (v := 2) C dX6_enter_78 rfl ?_
              refine r_goto (tgt := 83) C dX6_enter_79 (by decide) ?_
              refine r_put (f := 0) C dX6_enter_83 ⟨by decide, by decide⟩ rfl rfl kU6 tyX6 tyX6_ok nmX6 (by decide) kf_X6_86 rfl rfl (by decide +kernel) (Nat.le_of_ble_eq_true rfl) (by simp [cel, up3]) ?_
              refine r_aload_n C dX6_enter_86 rfl rfl ?_
              refine r_get (f := 0) (v := .int 2) C dX6_enter_87 ⟨by decide, by decide⟩ rfl rfl kU6 (by decide) kf_X6_86 rfl (by simp [up3_at]) ?_
              refine r_ifle (tgt := 95) C dX6_enter_90 (by decide) (fun c90 => ?_) (fun c90 => ?_)
              · exact absurd c90 (by decide)
              · refine r_iconst (v := 0) C dX6_enter_93 rfl ?_
                exact r_iret C dX6_enter_94 rfl (by decide) (Or.inr ⟨c, hc, rfl, Or.inl ⟨hno, rfl, rfl, rfl⟩⟩)
        · have n22 := Int32.not_le.mp c22
          have hlp1l : i < k := (nI_ltI (b := k) (by omega) (by omega)).mp n22
          refine r_iload_n C dX6_enter_25 rfl rfl ?_
          refine r_aload_n C dX6_enter_26 rfl rfl ?_
          refine r_get (f := 4) C dX6_enter_27 ⟨by decide, by decide⟩ rfl rfl kU6 (by decide) kf_X6_7 rfl rfl ?_
          refine r_iload_n C dX6_enter_30 rfl rfl ?_
          refine r_ialdv (v := σ 20 0 i) C dX6_enter_31 ⟨by decide, by decide⟩ rfl (vp_in_nI (show i < 12 by omega) (by decide)) (by rw [nI_clamp (by omega)]) ?_
          refine r_iconst (v := 1) C dX6_enter_32 rfl ?_
          refine r_icmpne (tgt := 47) C dX6_enter_33 (by decide) (fun c33 => ?_) (fun c33 => ?_)
          · have hst := (rsM_0 (nm := dN σ) (fun q => c33 ((dK_13 hdf hlp1l).mp q))).symm
            refine r_iconst (v := 0) C dX6_enter_47 rfl ?_
            refine r_ior C dX6_enter_48 ?_
            refine r_istore_n C dX6_enter_49 rfl (by decide) rfl ?_
            refine r_iinc C dX6_enter_50 rfl rfl (by decide) rfl ?_
            refine r_goto (tgt := 17) C dX6_enter_53 (by decide) ?_
            exact r_swk (ihlp1 (i + 1) (by omega) (by omega)) rfl rfl (by rw [← hst, ← nI_p1]; rfl) rfl
          · have hst := (rsM_1 (nm := dN σ) ((dK_13 hdf hlp1l).mpr c33)).symm
            refine r_iconst (v := 1) C dX6_enter_36 rfl ?_
            refine r_aload_n C dX6_enter_37 rfl rfl ?_
            refine r_get (f := 5) C dX6_enter_38 ⟨by decide, by decide⟩ rfl rfl kU6 (by decide) kf_X6_13 rfl rfl ?_
            refine r_iload_n C dX6_enter_41 rfl rfl ?_
            refine r_ialdv (v := σ 20 1 i) C dX6_enter_42 ⟨by decide, by decide⟩ rfl (vp_in_nI (show i < 12 by omega) (by decide)) (by rw [nI_clamp (by omega)]) ?_
            refine r_ishl C dX6_enter_43 ?_
            refine r_goto (tgt := 48) C dX6_enter_44 (by decide) ?_
            refine r_ior C dX6_enter_48 ?_
            refine r_istore_n C dX6_enter_49 rfl (by decide) rfl ?_
            refine r_iinc C dX6_enter_50 rfl rfl (by decide) rfl ?_
            refine r_goto (tgt := 17) C dX6_enter_53 (by decide) ?_
            exact r_swk (ihlp1 (i + 1) (by omega) (by omega)) rfl rfl (by rw [← hst, ← nI_p1]; rfl) rfl
    exact lp1 (k + 1) 0 (by omega) (by omega)
  · have hC := isCB_f.mp (b2i_0.mp c4)
    refine r_aload_n C dX6_enter_7 rfl rfl ?_
    refine r_iconst (v := 1) C dX6_enter_8 rfl ?_
    refine r_callV C dX6_enter_9 (m_fails σ τ 1) rfl ⟨by decide, by decide⟩ rfl rfl kB_X6_fails rfl kI_X6_fails kV_X6_fails kl_X6_118 (by decide) (Nat.le_of_ble_eq_true rfl) (by decide) ?_
    rintro r9 σ' τ' ⟨rfl, rfl, rfl⟩
    exact r_iret C dX6_enter_12 rfl (by decide) (Or.inl ⟨hC, rfl, rfl, rfl⟩)
