/-! ===== the law's model, first part: printed by g30.py ===== -/
theorem nI_mul (a b : Nat) : nI a * nI b = nI (a * b) := (Int32.ofNat_mul a b).symm
theorem ix12 (c k : Nat) : (12 : Int32) * nI c + nI k = nI (12 * c + k) := by
  rw [show (12 : Int32) = nI 12 from rfl, nI_mul, nI_add]
/-- a part of the model's formulas in the class's words -/
def kdM (s p : Int32) : Int32 := if s = 2 then p else if s = 1 then 13 else 12
def mK (σ : gSig) (c k : Nat) : Int32 := kdM (σ 20 3 (12 * c + k)) (σ 20 4 (12 * c + k))
def mN (σ : gSig) (c k : Nat) : Int32 := σ 20 4 (12 * c + k)
def mL (σ : gSig) (c : Nat) : Nat := (σ 20 2 c).toNatClampNeg
/-- a formula of the model stands as it should -/
def msK (σ : gSig) (c : Nat) : Prop := σ 20 2 c = nI (mL σ c) ∧ mL σ c ≤ 12 ∧ ∀ k, k < mL σ c → (σ 20 3 (12 * c + k) = 0 ∨ σ 20 3 (12 * c + k) = 1 ∨ σ 20 3 (12 * c + k) = 2) ∧ (σ 20 3 (12 * c + k) = 2 → ¬ σ 20 4 (12 * c + k) < 0 ∧ σ 20 4 (12 * c + k) < 12) ∧ (σ 20 3 (12 * c + k) = 1 → isC (σ 20 4 (12 * c + k)))
def mR (σ : gSig) (c : Nat) : Int32 := rsM (mK σ c) (mN σ c) (mL σ c)
theorem mK_13 {σ : gSig} {c k : Nat} (h : msK σ c) (hk : k < mL σ c) : mK σ c k = 13 ↔ σ 20 3 (12 * c + k) = 1 := by
  obtain ⟨h1, h2, h3⟩ := h.2.2 k hk
  unfold mK kdM
  rcases h1 with e | e | e
  · rw [e, if_neg (by decide), if_neg (by decide)]; decide
  · rw [e, if_neg (by decide), if_pos rfl]; exact ⟨fun _ => rfl, fun _ => rfl⟩
  · rw [e]
    constructor
    · intro q
      rw [if_pos rfl] at q
      have := (h2 e).2
      rw [q] at this
      exact absurd this (by decide)
    · intro q; exact absurd q (by decide)
theorem rsM_1 {kd nm : Nat → Int32} {i : Nat} (h : kd i = 13) : rsM kd nm (i + 1) = rsM kd nm i ||| ((1 : Int32) <<< (nm i &&& 31)) := if_pos h
theorem rsM_0 {kd nm : Nat → Int32} {i : Nat} (h : ¬ kd i = 13) : rsM kd nm (i + 1) = rsM kd nm i ||| 0 := by
  rw [Int32.or_zero]
  exact if_neg h
theorem mR_m16 {σ : gSig} {c : Nat} (h : msK σ c) : m16 (mR σ c) := rsM_m16 _ _ _ (fun k hk e => (h.2.2 k hk).2.2 ((mK_13 h hk).mp e))
set_option maxRecDepth 100000 in
set_option maxHeartbeats 4000000 in
theorem m_thrown {l : Launch} {D : va_G} {ad : Nat → Nat → Nat} {aC : Nat → ClassId} (σ : gSig) (τ : gTau)  : CZ l D ad aC yX6_thrown cX6_thrown 1 (some .int) 0 [.ref (ad 19 0)] σ τ (gEq (some (.int (σ 19 0 0))) σ τ) := by
  refine CZ.of (own := RX6) (by decide +kernel) rfl (Nat.le_of_ble_eq_true rfl) (fun S C => ?_)
  refine r_aload_n C dX6_thrown_0 rfl rfl ?_
  refine r_get (f := 0) C dX6_thrown_1 ⟨by decide, by decide⟩ rfl rfl kU6 (by decide) kf_X6_86 rfl rfl ?_
  exact r_iret C dX6_thrown_4 rfl (by decide) ⟨rfl, rfl, rfl⟩
set_option maxRecDepth 100000 in
set_option maxHeartbeats 4000000 in
theorem m_fails {l : Launch} {D : va_G} {ad : Nat → Nat → Nat} {aC : Nat → ClassId} (σ : gSig) (τ : gTau) (x : Int32) : CZ l D ad aC yX6_fails cX6_fails 2 (some .int) 0 [.ref (ad 19 0), .int x] σ τ (gEq (some (.int 0)) (up3 σ 19 0 0 x) τ) := by
  refine CZ.of (own := RX6) (by decide +kernel) rfl (Nat.le_of_ble_eq_true rfl) (fun S C => ?_)
  refine r_aload_n C dX6_fails_0 rfl rfl ?_
  refine r_iload_n C dX6_fails_1 rfl rfl ?_
  refine r_put (f := 0) C dX6_fails_2 ⟨by decide, by decide⟩ rfl rfl kU6 tyX6 tyX6_ok nmX6 (by decide) kf_X6_86 rfl rfl (by decide +kernel) (Nat.le_of_ble_eq_true rfl) (by simp [cel, up3]) ?_
  refine r_iconst (v := 0) C dX6_fails_5 rfl ?_
  exact r_iret C dX6_fails_6 rfl (by decide) ⟨rfl, rfl, rfl⟩
def inB3 (v lo hi : Int32) : Bool := decide (lo ≤ v) && decide (v ≤ hi)
set_option maxRecDepth 100000 in
set_option maxHeartbeats 4000000 in
theorem m_in {l : Launch} {D : va_G} {ad : Nat → Nat → Nat} {aC : Nat → ClassId} (σ : gSig) (τ : gTau) (v lo hi : Int32) : CZ l D ad aC yX6_in cX6_in 3 (some .boolean) 0 [.int v, .int lo, .int hi] σ τ (gEq (some (.int (b2i (inB3 v lo hi)))) σ τ) := by
  refine CZ.of (own := RX6) (by decide +kernel) rfl (Nat.le_of_ble_eq_true rfl) (fun S C => ?_)
  refine r_iload_n C dX6_in_0 rfl rfl ?_
  refine r_iload_n C dX6_in_1 rfl rfl ?_
  refine r_icmplt (tgt := 14) C dX6_in_2 (by decide) (fun c2 => ?_) (fun c2 => ?_)
  · have n2 := Int32.not_le.mpr c2
    have hr : inB3 v lo hi = false := by unfold inB3; rw [decide_eq_false n2]; rfl
    refine r_iconst (v := 0) C dX6_in_14 rfl ?_
    exact r_zret C dX6_in_15 rfl (by decide) (by decide) ⟨by rw [hr]; rfl, rfl, rfl⟩
  · have n2 := Int32.not_lt.mp c2
    refine r_iload_n C dX6_in_5 rfl rfl ?_
    refine r_iload_n C dX6_in_6 rfl rfl ?_
    refine r_icmpgt (tgt := 14) C dX6_in_7 (by decide) (fun c7 => ?_) (fun c7 => ?_)
    · have n7 := Int32.not_le.mpr c7
      have hr : inB3 v lo hi = false := by unfold inB3; rw [decide_eq_false n7, Bool.and_false]
      refine r_iconst (v := 0) C dX6_in_14 rfl ?_
      exact r_zret C dX6_in_15 rfl (by decide) (by decide) ⟨by rw [hr]; rfl, rfl, rfl⟩
    · have n7 := Int32.not_lt.mp c7
      have hr : inB3 v lo hi = true := by unfold inB3; rw [decide_eq_true n2, decide_eq_true n7]; rfl
      refine r_iconst (v := 1) C dX6_in_10 rfl ?_
      refine r_goto (tgt := 15) C dX6_in_11 (by decide) ?_
      exact r_zret C dX6_in_15 rfl (by decide) (by decide) ⟨by rw [hr]; rfl, rfl, rfl⟩
theorem inB3_t {v lo hi : Int32} : inB3 v lo hi = true ↔ lo ≤ v ∧ v ≤ hi := by unfold inB3; simp
def isCB (c : Int32) : Bool := inB3 c 0 15
theorem isCB_t {c : Int32} : isCB c = true ↔ isC c := by
  unfold isCB isC
  rw [inB3_t, Int32.not_lt]
  refine and_congr Iff.rfl ?_
  rw [fa_le, fa_lt]
  have e1 : (15 : Int32).toInt = 15 := by decide
  have e2 : (16 : Int32).toInt = 16 := by decide
  omega
theorem isCB_n {k : Nat} (h : k < 16) : isCB (nI k) = true := isCB_t.mpr (isC_of h)
theorem isCB_f {c : Int32} : isCB c = false ↔ ¬ isC c := by
  rw [← isCB_t]
  cases isCB c <;> simp
set_option maxRecDepth 100000 in
set_option maxHeartbeats 4000000 in
theorem m_isCell {l : Launch} {D : va_G} {ad : Nat → Nat → Nat} {aC : Nat → ClassId} (σ : gSig) (τ : gTau) (c : Int32) : CZ l D ad aC yX6_isCell cX6_isCell 1 (some .boolean) 1 [.int c] σ τ (gEq (some (.int (b2i (isCB c)))) σ τ) := by
  refine CZ.of (own := RX6) (by decide +kernel) rfl (Nat.le_of_ble_eq_true rfl) (fun S C => ?_)
  refine r_iload_n C dX6_isCell_0 rfl rfl ?_
  refine r_iconst (v := 0) C dX6_isCell_1 rfl ?_
  refine r_bipush (v := 15) C dX6_isCell_2 rfl ?_
  refine r_callS C dX6_isCell_4 (m_in σ τ c 0 15) rfl kB_X6_in rfl kS_X6_in kl_X6_90 (by decide) (Nat.le_of_ble_eq_true rfl) (by decide) ?_
  rintro r9 σ' τ' ⟨rfl, rfl, rfl⟩
  exact r_zret C dX6_isCell_7 rfl (by decide) (b2i_01 _) ⟨rfl, rfl, rfl⟩
def mAd (σ : gSig) (k : Nat) (s p more : Int32) : gSig := up3 (up3 (up3 (up3 σ 20 0 k s) 20 1 k p) 19 0 2 (nI (k + 1))) 19 0 3 (σ 19 0 3 + more)
set_option maxRecDepth 100000 in
set_option maxHeartbeats 4000000 in
theorem m_adds {l : Launch} {D : va_G} {ad : Nat → Nat → Nat} {aC : Nat → ClassId} (σ : gSig) (τ : gTau) (s p more : Int32) (k : Nat) (hk : σ 19 0 2 = nI k) (hk2 : k < 12) : CZ l D ad aC yX6_adds cX6_adds 4 (some .int) 0 [.ref (ad 19 0), .int s, .int p, .int more] σ τ (gEq (some (.int (σ 19 0 3 + more))) (mAd σ k s p more) τ) := by
  refine CZ.of (own := RX6) (by decide +kernel) rfl (Nat.le_of_ble_eq_true rfl) (fun S C => ?_)
  refine r_aload_n C dX6_adds_0 rfl rfl ?_
  refine r_get (f := 4) C dX6_adds_1 ⟨by decide, by decide⟩ rfl rfl kU6 (by decide) kf_X6_7 rfl rfl ?_
  refine r_aload_n C dX6_adds_4 rfl rfl ?_
  refine r_get (f := 2) (v := .int (nI k)) C dX6_adds_5 ⟨by decide, by decide⟩ rfl rfl kU6 (by decide) kf_X6_94 rfl (by rw [← hk]; rfl) ?_
  refine r_iload_n C dX6_adds_8 rfl rfl ?_
  refine r_iastv C dX6_adds_9 ⟨by decide, by decide⟩ (fun _ => rfl) (vp_in_nI hk2 (by decide)) (nI_clamp (by omega)) ?_
  refine r_aload_n C dX6_adds_10 rfl rfl ?_
  refine r_get (f := 5) C dX6_adds_11 ⟨by decide, by decide⟩ rfl rfl kU6 (by decide) kf_X6_13 rfl rfl ?_
  refine r_aload_n C dX6_adds_14 rfl rfl ?_
  refine r_get (f := 2) (v := .int (nI k)) C dX6_adds_15 ⟨by decide, by decide⟩ rfl rfl kU6 (by decide) kf_X6_94 rfl (by rw [← hk]; rfl) ?_
  refine r_iload_n C dX6_adds_18 rfl rfl ?_
  refine r_iastv C dX6_adds_19 ⟨by decide, by decide⟩ (fun _ => rfl) (vp_in_nI hk2 (by decide)) (nI_clamp (by omega)) ?_
  refine r_aload_n C dX6_adds_20 rfl rfl ?_
  refine r_dup C dX6_adds_21 rfl ?_
  refine r_get (f := 2) (v := .int (nI k)) C dX6_adds_22 ⟨by decide, by decide⟩ rfl rfl kU6 (by decide) kf_X6_94 rfl (by rw [← hk]; simp [up3_at]) ?_
  refine r_iconst (v := 1) C dX6_adds_25 rfl ?_
  refine r_iadd C dX6_adds_26 ?_
  rw [nI_1]
  refine r_put (f := 2) C dX6_adds_27 ⟨by decide, by decide⟩ rfl rfl kU6 tyX6 tyX6_ok nmX6 (by decide) kf_X6_94 rfl rfl (by decide +kernel) (Nat.le_of_ble_eq_true rfl) (by simp [cel, up3]) ?_
  refine r_aload_n C dX6_adds_30 rfl rfl ?_
  refine r_dup C dX6_adds_31 rfl ?_
  refine r_get (f := 3) (v := .int (σ 19 0 3)) C dX6_adds_32 ⟨by decide, by decide⟩ rfl rfl kU6 (by decide) kf_X6_97 rfl (by simp [up3_at]) ?_
  refine r_iload_n C dX6_adds_35 rfl rfl ?_
  refine r_iadd C dX6_adds_36 ?_
  refine r_put (f := 3) C dX6_adds_37 ⟨by decide, by decide⟩ rfl rfl kU6 tyX6 tyX6_ok nmX6 (by decide) kf_X6_97 rfl rfl (by decide +kernel) (Nat.le_of_ble_eq_true rfl) (by simp [cel, up3]) ?_
  refine r_aload_n C dX6_adds_40 rfl rfl ?_
  refine r_get (f := 3) (v := .int (σ 19 0 3 + more)) C dX6_adds_41 ⟨by decide, by decide⟩ rfl rfl kU6 (by decide) kf_X6_97 rfl (by simp [up3_at]) ?_
  exact r_iret C dX6_adds_44 rfl (by decide) ⟨rfl, rfl, rfl⟩
set_option maxRecDepth 100000 in
set_option maxHeartbeats 4000000 in
theorem m_readBy {l : Launch} {D : va_G} {ad : Nat → Nat → Nat} {aC : Nat → ClassId} (σ : gSig) (τ : gTau) (c : Nat) (hc : c < 16) (hm : msK σ c) : CZ l D ad aC yX6_readBy cX6_readBy 4 (some .int) 0 [.ref (ad 19 0), .int (nI c)] σ τ (gEq (some (.int (mR σ c))) σ τ) := by
  refine CZ.of (own := RX6) (by decide +kernel) rfl (Nat.le_of_ble_eq_true rfl) (fun S C => ?_)
  refine r_iconst (v := 0) C dX6_readBy_0 rfl ?_
  refine r_istore_n C dX6_readBy_1 rfl (by decide) rfl ?_
  refine r_iconst (v := 0) C dX6_readBy_2 rfl ?_
  refine r_istore_n C dX6_readBy_3 rfl (by decide) rfl ?_
  have hm2 := hm.2.1
  have loop : ∀ m k, k ≤ mL σ c → mL σ c - k < m → S 0 σ τ 4 [some (.ref (ad 19 0)), some (.int (nI c)), some (.int (rsM (mK σ c) (mN σ c) k)), some (.int (nI k))] [] := by
    intro m
    induction m with
    | zero => intro k _ hm; omega
    | succ m ih =>
      intro k hk hmk
      refine r_iload_n C dX6_readBy_4 rfl rfl ?_
      refine r_aload_n C dX6_readBy_5 rfl rfl ?_
      refine r_get (f := 6) C dX6_readBy_6 ⟨by decide, by decide⟩ rfl rfl kU6 (by decide) kf_X6_16 rfl rfl ?_
      refine r_iload_n C dX6_readBy_9 rfl rfl ?_
      refine r_ialdv (v := nI (mL σ c)) C dX6_readBy_10 ⟨by decide, by decide⟩ rfl (vp_in_nI hc (by decide)) (by rw [nI_clamp (by omega)]; exact hm.1) ?_
      refine r_icmpge (tgt := 55) C dX6_readBy_11 (by decide) (fun c11 => ?_) (fun c11 => ?_)
      · have n11 := Int32.not_lt.mpr c11
        have hke : k = mL σ c := by
          have := (nI_leI (by omega) (by omega)).mp c11
          omega
        subst hke
        refine r_iload_n C dX6_readBy_55 rfl rfl ?_
        exact r_iret C dX6_readBy_56 rfl (by decide) ⟨rfl, rfl, rfl⟩
      · have n11 := Int32.not_le.mp c11
        have hkl : k < mL σ c := (nI_ltI (by omega) (by omega)).mp n11
        refine r_iload_n C dX6_readBy_14 rfl rfl ?_
        refine r_aload_n C dX6_readBy_15 rfl rfl ?_
        refine r_get (f := 7) C dX6_readBy_16 ⟨by decide, by decide⟩ rfl rfl kU6 (by decide) kf_X6_19 rfl rfl ?_
        refine r_bipush (v := 12) C dX6_readBy_19 rfl ?_
        refine r_iload_n C dX6_readBy_21 rfl rfl ?_
        refine r_imul C dX6_readBy_22 ?_
        refine r_iload_n C dX6_readBy_23 rfl rfl ?_
        refine r_iadd C dX6_readBy_24 ?_
        rw [ix12]
        refine r_ialdv (v := σ 20 3 (12 * c + k)) C dX6_readBy_25 ⟨by decide, by decide⟩ rfl (vp_in_nI (show 12 * c + k < 192 by omega) (by decide)) (by rw [nI_clamp (by omega)]) ?_
        refine r_iconst (v := 1) C dX6_readBy_26 rfl ?_
        refine r_icmpne (tgt := 46) C dX6_readBy_27 (by decide) (fun c27 => ?_) (fun c27 => ?_)
        · have hst := rsM_0 (nm := mN σ c) (fun q => c27 ((mK_13 hm hkl).mp q))
          refine r_iconst (v := 0) C dX6_readBy_46 rfl ?_
          refine r_ior C dX6_readBy_47 ?_
          refine r_istore_n C dX6_readBy_48 rfl (by decide) rfl ?_
          refine r_iinc C dX6_readBy_49 rfl rfl (by decide) rfl ?_
          refine r_goto (tgt := 4) C dX6_readBy_52 (by decide) ?_
          exact r_swk (ih (k + 1) (by omega) (by omega)) rfl rfl (by rw [hst, ← nI_p1]; rfl) rfl
        · have hst := rsM_1 (nm := mN σ c) ((mK_13 hm hkl).mpr c27)
          refine r_iconst (v := 1) C dX6_readBy_30 rfl ?_
          refine r_aload_n C dX6_readBy_31 rfl rfl ?_
          refine r_get (f := 8) C dX6_readBy_32 ⟨by decide, by decide⟩ rfl rfl kU6 (by decide) kf_X6_22 rfl rfl ?_
          refine r_bipush (v := 12) C dX6_readBy_35 rfl ?_
          refine r_iload_n C dX6_readBy_37 rfl rfl ?_
          refine r_imul C dX6_readBy_38 ?_
          refine r_iload_n C dX6_readBy_39 rfl rfl ?_
          refine r_iadd C dX6_readBy_40 ?_
          rw [ix12]
          refine r_ialdv (v := σ 20 4 (12 * c + k)) C dX6_readBy_41 ⟨by decide, by decide⟩ rfl (vp_in_nI (show 12 * c + k < 192 by omega) (by decide)) (by rw [nI_clamp (by omega)]) ?_
          refine r_ishl C dX6_readBy_42 ?_
          refine r_goto (tgt := 47) C dX6_readBy_43 (by decide) ?_
          refine r_ior C dX6_readBy_47 ?_
          refine r_istore_n C dX6_readBy_48 rfl (by decide) rfl ?_
          refine r_iinc C dX6_readBy_49 rfl rfl (by decide) rfl ?_
          refine r_goto (tgt := 4) C dX6_readBy_52 (by decide) ?_
          exact r_swk (ih (k + 1) (by omega) (by omega)) rfl rfl (by rw [hst, ← nI_p1]; rfl) rfl
  exact loop (mL σ c + 1) 0 (by omega) (by omega)
theorem scR_f0 {rdm : Nat → Int32} {R : Int32} {j : Nat} (h : bt (scR rdm R j) j = false) : scR rdm R (j + 1) = scR rdm R j ||| 0 := by
  rw [Int32.or_zero]
  exact scR_f h
set_option maxRecDepth 100000 in
set_option maxHeartbeats 4000000 in
theorem m_under {l : Launch} {D : va_G} {ad : Nat → Nat → Nat} {aC : Nat → ClassId} (σ : gSig) (τ : gTau) (R0 : Int32) (hm : ∀ c, c < 16 → msK σ c) : CZ l D ad aC yX6_under cX6_under 5 (some .int) 1 [.ref (ad 19 0), .int R0] σ τ (gEq (some (.int (clR (mR σ) R0 16))) σ τ) := by
  refine CZ.of (own := RX6) (by decide +kernel) rfl (Nat.le_of_ble_eq_true rfl) (fun S C => ?_)
  refine r_iload_n C dX6_under_0 rfl rfl ?_
  refine r_istore_n C dX6_under_1 rfl (by decide) rfl ?_
  refine r_iconst (v := 0) C dX6_under_2 rfl ?_
  refine r_istore_n C dX6_under_3 rfl (by decide) rfl ?_
  have lp1 : ∀ m r, r ≤ 16 → 16 - r < m → S 0 σ τ 4 [some (.ref (ad 19 0)), some (.int R0), some (.int (clR (mR σ) R0 r)), some (.int (nI r)), none] [] := by
    intro m
    induction m with
    | zero => intro r _ hm; omega
    | succ m ihlp1 =>
      intro r hilp1 hmlp1
      refine r_iload_n C dX6_under_4 rfl rfl ?_
      refine r_bipush (v := 16) C dX6_under_5 rfl ?_
      refine r_icmpge (tgt := 55) C dX6_under_7 (by decide) (fun c7 => ?_) (fun c7 => ?_)
      · have n7 := Int32.not_lt.mpr c7
        have hlp1e : r = 16 := by
          have := (nI_leI (a := 16) (by omega) (by omega)).mp c7
          omega
        subst hlp1e
        refine r_iload_n C dX6_under_55 rfl rfl ?_
        exact r_iret C dX6_under_56 rfl (by decide) ⟨rfl, rfl, rfl⟩
      · have n7 := Int32.not_le.mp c7
        have hlp1l : r < 16 := (nI_ltI (b := 16) (by omega) (by omega)).mp n7
        refine r_iconst (v := 0) C dX6_under_10 rfl ?_
        refine r_istore C dX6_under_11 (by decide) rfl ?_
        have lp2 : ∀ m j, j ≤ 16 → 16 - j < m → S 0 σ τ 13 [some (.ref (ad 19 0)), some (.int R0), some (.int (scR (mR σ) (clR (mR σ) R0 r) j)), some (.int (nI r)), some (.int (nI j))] [] := by
          intro m
          induction m with
          | zero => intro j _ hm; omega
          | succ m ihlp2 =>
            intro j hilp2 hmlp2
            refine r_iload C dX6_under_13 rfl ?_
            refine r_bipush (v := 16) C dX6_under_15 rfl ?_
            refine r_icmpge (tgt := 49) C dX6_under_17 (by decide) (fun c17 => ?_) (fun c17 => ?_)
            · have n17 := Int32.not_lt.mpr c17
              have hlp2e : j = 16 := by
                have := (nI_leI (a := 16) (by omega) (by omega)).mp c17
                omega
              subst hlp2e
              refine r_iinc C dX6_under_49 rfl rfl (by decide) rfl ?_
              refine r_goto (tgt := 4) C dX6_under_52 (by decide) ?_
              refine r_drop C [4] ?_
              exact r_swk (ihlp1 (r + 1) (by omega) (by omega)) rfl rfl (by rw [← nI_p1]; rfl) rfl
            · have n17 := Int32.not_le.mp c17
              have hlp2l : j < 16 := (nI_ltI (b := 16) (by omega) (by omega)).mp n17
              refine r_iload_n C dX6_under_20 rfl rfl ?_
              refine r_iload_n C dX6_under_21 rfl rfl ?_
              refine r_iload C dX6_under_22 rfl ?_
              refine r_ishr C dX6_under_24 ?_
              refine r_iconst (v := 1) C dX6_under_25 rfl ?_
              refine r_iand C dX6_under_26 ?_
              refine r_iconst (v := 1) C dX6_under_27 rfl ?_
              refine r_icmpne (tgt := 40) C dX6_under_28 (by decide) (fun c28 => ?_) (fun c28 => ?_)
              · have h28 : bt (scR (mR σ) (clR (mR σ) R0 r) j) j = false := by
                  cases hb : bt (scR (mR σ) (clR (mR σ) R0 r) j) j with
                  | false => rfl
                  | true => exact absurd ((bt_sh1 (by omega) _).mpr hb) c28
                have hst := scR_f0 h28
                refine r_iconst (v := 0) C dX6_under_40 rfl ?_
                refine r_ior C dX6_under_41 ?_
                refine r_istore_n C dX6_under_42 rfl (by decide) rfl ?_
                refine r_iinc C dX6_under_43 rfl rfl (by decide) rfl ?_
                refine r_goto (tgt := 13) C dX6_under_46 (by decide) ?_
                exact r_swk (ihlp2 (j + 1) (by omega) (by omega)) rfl rfl (by rw [hst, ← nI_p1]; rfl) rfl
              · have hst := scR_t ((bt_sh1 (by omega) _).mp c28)
                refine r_aload_n C dX6_under_31 rfl rfl ?_
                refine r_iload C dX6_under_32 rfl ?_
                refine r_callV C dX6_under_34 (m_readBy σ τ j hlp2l (hm j hlp2l)) rfl ⟨by decide, by decide⟩ rfl rfl kB_X6_readBy rfl kI_X6_readBy kV_X6_readBy kl_X6_108 (by decide) (Nat.le_of_ble_eq_true rfl) (by decide) ?_
                rintro r9 σ' τ' ⟨rfl, rfl, rfl⟩
                refine r_goto (tgt := 41) C dX6_under_37 (by decide) ?_
                refine r_ior C dX6_under_41 ?_
                refine r_istore_n C dX6_under_42 rfl (by decide) rfl ?_
                refine r_iinc C dX6_under_43 rfl rfl (by decide) rfl ?_
                refine r_goto (tgt := 13) C dX6_under_46 (by decide) ?_
                exact r_swk (ihlp2 (j + 1) (by omega) (by omega)) rfl rfl (by rw [hst, ← nI_p1]; rfl) rfl
        exact lp2 (16 + 1) 0 (by omega) (by omega)
  exact lp1 (16 + 1) 0 (by omega) (by omega)
def btF (x : Int32) : Nat → Int32
  | 0 => 0
  | c + 1 => btF x c + ((x >>> (nI c &&& 31)) &&& 1)
set_option maxRecDepth 100000 in
set_option maxHeartbeats 4000000 in
theorem m_bits {l : Launch} {D : va_G} {ad : Nat → Nat → Nat} {aC : Nat → ClassId} (σ : gSig) (τ : gTau) (x : Int32) : CZ l D ad aC yX6_bits cX6_bits 3 (some .int) 0 [.int x] σ τ (gEq (some (.int (btF x 16))) σ τ) := by
  refine CZ.of (own := RX6) (by decide +kernel) rfl (Nat.le_of_ble_eq_true rfl) (fun S C => ?_)
  refine r_iconst (v := 0) C dX6_bits_0 rfl ?_
  refine r_istore_n C dX6_bits_1 rfl (by decide) rfl ?_
  refine r_iconst (v := 0) C dX6_bits_2 rfl ?_
  refine r_istore_n C dX6_bits_3 rfl (by decide) rfl ?_
  have loop : ∀ m i, i ≤ 16 → 16 - i < m → S 0 σ τ 4 [some (.int x), some (.int (btF x i)), some (.int (nI i))] [] := by
    intro m
    induction m with
    | zero => intro i _ hm; omega
    | succ m ihloop =>
      intro i hiloop hmloop
      refine r_iload_n C dX6_bits_4 rfl rfl ?_
      refine r_bipush (v := 16) C dX6_bits_5 rfl ?_
      refine r_icmpge (tgt := 24) C dX6_bits_7 (by decide) (fun c7 => ?_) (fun c7 => ?_)
      · have n7 := Int32.not_lt.mpr c7
        have hloope : i = 16 := by
          have := (nI_leI (a := 16) (by omega) (by omega)).mp c7
          omega
        subst hloope
        refine r_iload_n C dX6_bits_24 rfl rfl ?_
        exact r_iret C dX6_bits_25 rfl (by decide) ⟨rfl, rfl, rfl⟩
      · have n7 := Int32.not_le.mp c7
        have hloopl : i < 16 := (nI_ltI (b := 16) (by omega) (by omega)).mp n7
        refine r_iload_n C dX6_bits_10 rfl rfl ?_
        refine r_iload_n C dX6_bits_11 rfl rfl ?_
        refine r_iload_n C dX6_bits_12 rfl rfl ?_
        refine r_ishr C dX6_bits_13 ?_
        refine r_iconst (v := 1) C dX6_bits_14 rfl ?_
        refine r_iand C dX6_bits_15 ?_
        refine r_iadd C dX6_bits_16 ?_
        refine r_istore_n C dX6_bits_17 rfl (by decide) rfl ?_
        refine r_iinc C dX6_bits_18 rfl rfl (by decide) rfl ?_
        refine r_goto (tgt := 4) C dX6_bits_21 (by decide) ?_
        exact r_swk (ihloop (i + 1) (by omega) (by omega)) rfl rfl (by rw [← nI_p1]; rfl) rfl
  exact loop (16 + 1) 0 (by omega) (by omega)
def mWv (σ : gSig) (c : Nat) : Bool := !decide (σ 20 17 c = -1) && decide (σ 19 0 1 ≤ σ 20 17 c)
set_option maxRecDepth 100000 in
set_option maxHeartbeats 4000000 in
theorem m_isWaived {l : Launch} {D : va_G} {ad : Nat → Nat → Nat} {aC : Nat → ClassId} (σ : gSig) (τ : gTau) (c : Nat) (hc : c < 16) : CZ l D ad aC yX6_isWaived cX6_isWaived 2 (some .boolean) 0 [.ref (ad 19 0), .int (nI c)] σ τ (gEq (some (.int (b2i (mWv σ c)))) σ τ) := by
  refine CZ.of (own := RX6) (by decide +kernel) rfl (Nat.le_of_ble_eq_true rfl) (fun S C => ?_)
  refine r_aload_n C dX6_isWaived_0 rfl rfl ?_
  refine r_get (f := 21) C dX6_isWaived_1 ⟨by decide, by decide⟩ rfl rfl kU6 (by decide) kf_X6_61 rfl rfl ?_
  refine r_iload_n C dX6_isWaived_4 rfl rfl ?_
  refine r_ialdv (v := σ 20 17 c) C dX6_isWaived_5 ⟨by decide, by decide⟩ rfl (vp_in_nI hc (by decide)) (by rw [nI_clamp (by omega)]) ?_
  refine r_iconst (v := (-1)) C dX6_isWaived_6 rfl ?_
  refine r_icmpeq (tgt := 27) C dX6_isWaived_7 (by decide) (fun c7 => ?_) (fun c7 => ?_)
  · have hr : mWv σ c = false := by unfold mWv; rw [decide_eq_true c7]; rfl
    refine r_iconst (v := 0) C dX6_isWaived_27 rfl ?_
    exact r_zret C dX6_isWaived_28 rfl (by decide) (by decide) ⟨by rw [hr]; rfl, rfl, rfl⟩
  · refine r_aload_n C dX6_isWaived_10 rfl rfl ?_
    refine r_get (f := 21) C dX6_isWaived_11 ⟨by decide, by decide⟩ rfl rfl kU6 (by decide) kf_X6_61 rfl rfl ?_
    refine r_iload_n C dX6_isWaived_14 rfl rfl ?_
    refine r_ialdv (v := σ 20 17 c) C dX6_isWaived_15 ⟨by decide, by decide⟩ rfl (vp_in_nI hc (by decide)) (by rw [nI_clamp (by omega)]) ?_
    refine r_aload_n C dX6_isWaived_16 rfl rfl ?_
    refine r_get (f := 1) C dX6_isWaived_17 ⟨by decide, by decide⟩ rfl rfl kU6 (by decide) kf_X6_137 rfl rfl ?_
    refine r_icmplt (tgt := 27) C dX6_isWaived_20 (by decide) (fun c20 => ?_) (fun c20 => ?_)
    · have n20 := Int32.not_le.mpr c20
      have hr : mWv σ c = false := by unfold mWv; rw [decide_eq_false n20, Bool.and_false]
      refine r_iconst (v := 0) C dX6_isWaived_27 rfl ?_
      exact r_zret C dX6_isWaived_28 rfl (by decide) (by decide) ⟨by rw [hr]; rfl, rfl, rfl⟩
    · have n20 := Int32.not_lt.mp c20
      have hr : mWv σ c = true := by unfold mWv; rw [decide_eq_false c7, decide_eq_true n20]; rfl
      refine r_iconst (v := 1) C dX6_isWaived_23 rfl ?_
      refine r_goto (tgt := 28) C dX6_isWaived_24 (by decide) ?_
      exact r_zret C dX6_isWaived_28 rfl (by decide) (by decide) ⟨by rw [hr]; rfl, rfl, rfl⟩
theorem lkF_f0 {rd : Nat → Int32} {fl wv : Int32} {o : Nat → Nat} {i : Nat} (h : lkB rd fl wv (lkF rd fl wv o i) (o i) = false) : lkF rd fl wv o (i + 1) = lkF rd fl wv o i ||| 0 := by
  rw [Int32.or_zero]
  exact lkF_f h
set_option maxRecDepth 100000 in
set_option maxHeartbeats 4000000 in
theorem m_locks {l : Launch} {D : va_G} {ad : Nat → Nat → Nat} {aC : Nat → ClassId} (σ : gSig) (τ : gTau) (fl wv : Int32) (o : Nat → Nat) (hO : ordI (σ 20 19) o 16) (hm : ∀ c, c < 16 → msK σ c) (hfl : ∀ c, c < 16 → bt fl c = decide (σ 20 12 c = 2)) (hwv : ∀ c, c < 16 → bt wv c = mWv σ c) : CZ l D ad aC yX6_locks cX6_locks 5 (some .int) 1 [.ref (ad 19 0)] σ τ (gEq (some (.int (lkF (mR σ) fl wv o 16))) σ τ) := by
  refine CZ.of (own := RX6) (by decide +kernel) rfl (Nat.le_of_ble_eq_true rfl) (fun S C => ?_)
  refine r_iconst (v := 0) C dX6_locks_0 rfl ?_
  refine r_istore_n C dX6_locks_1 rfl (by decide) rfl ?_
  refine r_iconst (v := 0) C dX6_locks_2 rfl ?_
  refine r_istore_n C dX6_locks_3 rfl (by decide) rfl ?_
  have loop : ∀ m i, i ≤ 16 → 16 - i < m → S 0 σ τ 4 [some (.ref (ad 19 0)), some (.int (lkF (mR σ) fl wv o i)), some (.int (nI i)), none, none] [] := by
    intro m
    induction m with
    | zero => intro i _ hm; omega
    | succ m ihloop =>
      intro i hiloop hmloop
      refine r_iload_n C dX6_locks_4 rfl rfl ?_
      refine r_bipush (v := 16) C dX6_locks_5 rfl ?_
      refine r_icmpge (tgt := 73) C dX6_locks_7 (by decide) (fun c7 => ?_) (fun c7 => ?_)
      · have n7 := Int32.not_lt.mpr c7
        have hloope : i = 16 := by
          have := (nI_leI (a := 16) (by omega) (by omega)).mp c7
          omega
        subst hloope
        refine r_iload_n C dX6_locks_73 rfl rfl ?_
        exact r_iret C dX6_locks_74 rfl (by decide) ⟨rfl, rfl, rfl⟩
      · have n7 := Int32.not_le.mp c7
        have hloopl : i < 16 := (nI_ltI (b := 16) (by omega) (by omega)).mp n7
        refine r_aload_n C dX6_locks_10 rfl rfl ?_
        refine r_get (f := 24) C dX6_locks_11 ⟨by decide, by decide⟩ rfl rfl kU6 (by decide) kf_X6_67 rfl rfl ?_
        refine r_iload_n C dX6_locks_14 rfl rfl ?_
        obtain ⟨ho1, ho2⟩ := hO i hloopl
        refine r_ialdv (v := nI (o i)) C dX6_locks_15 ⟨by decide, by decide⟩ rfl (vp_in_nI hloopl (by decide)) (by rw [nI_clamp (by omega), ho1]) ?_
        refine r_istore_n C dX6_locks_16 rfl (by decide) rfl ?_
        have j50 : ∀ b : Bool, lkB (mR σ) fl wv (lkF (mR σ) fl wv o i) (o i) = b → S 0 σ τ 50 [some (.ref (ad 19 0)), some (.int (lkF (mR σ) fl wv o i)), some (.int (nI i)), some (.int (nI (o i))), none] [.int (b2i b)] := by
          intro b hb50
          refine r_istore C dX6_locks_50 (by decide) rfl ?_
          refine r_iload_n C dX6_locks_52 rfl rfl ?_
          refine r_iload C dX6_locks_53 rfl ?_
          refine r_ifeq (tgt := 64) C dX6_locks_55 (by decide) (fun c55 => ?_) (fun c55 => ?_)
          · have hst := lkF_f0 (hb50.trans (b2i_0.mp c55))
            refine r_iconst (v := 0) C dX6_locks_64 rfl ?_
            refine r_ior C dX6_locks_65 ?_
            refine r_istore_n C dX6_locks_66 rfl (by decide) rfl ?_
            refine r_iinc C dX6_locks_67 rfl rfl (by decide) rfl ?_
            refine r_goto (tgt := 4) C dX6_locks_70 (by decide) ?_
            refine r_drop C [3, 4] ?_
            exact r_swk (ihloop (i + 1) (by omega) (by omega)) rfl rfl (by rw [hst, ← nI_p1]; rfl) rfl
          · have hst := lkF_t (hb50.trans (b2i_n.mp c55))
            refine r_iconst (v := 1) C dX6_locks_58 rfl ?_
            refine r_iload_n C dX6_locks_59 rfl rfl ?_
            refine r_ishl C dX6_locks_60 ?_
            refine r_goto (tgt := 65) C dX6_locks_61 (by decide) ?_
            refine r_ior C dX6_locks_65 ?_
            refine r_istore_n C dX6_locks_66 rfl (by decide) rfl ?_
            refine r_iinc C dX6_locks_67 rfl rfl (by decide) rfl ?_
            refine r_goto (tgt := 4) C dX6_locks_70 (by decide) ?_
            refine r_drop C [3, 4] ?_
            exact r_swk (ihloop (i + 1) (by omega) (by omega)) rfl rfl (by rw [hst, ← nI_p1]; rfl) rfl
        refine r_aload_n C dX6_locks_17 rfl rfl ?_
        refine r_iload_n C dX6_locks_18 rfl rfl ?_
        refine r_callV C dX6_locks_19 (m_isWaived σ τ (o i) ho2) rfl ⟨by decide, by decide⟩ rfl rfl kB_X6_isWaived rfl kI_X6_isWaived kV_X6_isWaived kl_X6_140 (by decide) (Nat.le_of_ble_eq_true rfl) (by decide) ?_
        rintro r9 σ' τ' ⟨rfl, rfl, rfl⟩
        refine r_ifne (tgt := 49) C dX6_locks_22 (by decide) (fun c22 => ?_) (fun c22 => ?_)
        · have h22 := b2i_n.mp c22
          have hlk : lkB (mR σ) fl wv (lkF (mR σ) fl wv o i) (o i) = false := by simp only [lkB, hwv _ ho2, h22, Bool.not_true, Bool.false_and]
          refine r_iconst (v := 0) C dX6_locks_49 rfl ?_
          exact j50 _ hlk
        · have h22 := b2i_0.mp c22
          refine r_aload_n C dX6_locks_25 rfl rfl ?_
          refine r_get (f := 16) C dX6_locks_26 ⟨by decide, by decide⟩ rfl rfl kU6 (by decide) kf_X6_46 rfl rfl ?_
          refine r_iload_n C dX6_locks_29 rfl rfl ?_
          refine r_ialdv (v := σ 20 12 (o i)) C dX6_locks_30 ⟨by decide, by decide⟩ rfl (vp_in_nI ho2 (by decide)) (by rw [nI_clamp (by omega)]) ?_
          refine r_iconst (v := 2) C dX6_locks_31 rfl ?_
          refine r_icmpeq (tgt := 45) C dX6_locks_32 (by decide) (fun c32 => ?_) (fun c32 => ?_)
          · have hlk : lkB (mR σ) fl wv (lkF (mR σ) fl wv o i) (o i) = true := by simp only [lkB, hwv _ ho2, h22, hfl _ ho2, decide_eq_true c32, Bool.not_false, Bool.true_and, Bool.true_or]
            refine r_iconst (v := 1) C dX6_locks_45 rfl ?_
            refine r_goto (tgt := 50) C dX6_locks_46 (by decide) ?_
            exact j50 _ hlk
          · refine r_aload_n C dX6_locks_35 rfl rfl ?_
            refine r_iload_n C dX6_locks_36 rfl rfl ?_
            refine r_callV C dX6_locks_37 (m_readBy σ τ (o i) ho2 (hm _ ho2)) rfl ⟨by decide, by decide⟩ rfl rfl kB_X6_readBy rfl kI_X6_readBy kV_X6_readBy kl_X6_108 (by decide) (Nat.le_of_ble_eq_true rfl) (by decide) ?_
            rintro r9 σ' τ' ⟨rfl, rfl, rfl⟩
            refine r_iload_n C dX6_locks_40 rfl rfl ?_
            refine r_iand C dX6_locks_41 ?_
            refine r_ifeq (tgt := 49) C dX6_locks_42 (by decide) (fun c42 => ?_) (fun c42 => ?_)
            · have hlk : lkB (mR σ) fl wv (lkF (mR σ) fl wv o i) (o i) = false := by simp only [lkB, hwv _ ho2, h22, hfl _ ho2, decide_eq_false c32, c42, decide_true, Bool.not_true, Bool.not_false, Bool.true_and, Bool.false_or]
              refine r_iconst (v := 0) C dX6_locks_49 rfl ?_
              exact j50 _ hlk
            · have hlk : lkB (mR σ) fl wv (lkF (mR σ) fl wv o i) (o i) = true := by simp only [lkB, hwv _ ho2, h22, hfl _ ho2, decide_eq_false c32, decide_eq_false c42, Bool.not_false, Bool.true_and, Bool.false_or]
              refine r_iconst (v := 1) C dX6_locks_45 rfl ?_
              refine r_goto (tgt := 50) C dX6_locks_46 (by decide) ?_
              exact j50 _ hlk
  exact loop (16 + 1) 0 (by omega) (by omega)
