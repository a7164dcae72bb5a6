/-! ===== the sheet: what is asked of it, sets of cells: printed by g15.py ===== -/
theorem b2i_0 {b : Bool} : b2i b = 0 ↔ b = false := by cases b <;> simp [b2i]
theorem b2i_n {b : Bool} : ¬ b2i b = 0 ↔ b = true := by cases b <;> simp [b2i]
theorem b2i_01 (b : Bool) : b2i b = 0 ∨ b2i b = 1 := by cases b <;> simp [b2i]
/-- a set, and on what its cells rest, as far as the first n go -/
def rotF (ro : Nat → Int32) (read : Int32) : Nat → Int32
  | 0 => read
  | i + 1 => if bt read i then rotF ro read i ||| ro i else rotF ro read i
theorem rotF_bt (ro : Nat → Int32) (read : Int32) (d : Nat) : ∀ n, bt (rotF ro read n) d = (bt read d || anyB (fun e => bt read e && bt (ro e) d) n)
  | 0 => by simp [rotF, anyB]
  | n + 1 => by
    unfold rotF anyB
    by_cases h : bt read n = true
    · rw [if_pos h, b_or, rotF_bt ro read d n, h, Bool.true_and, Bool.or_assoc]
    · rw [if_neg h, rotF_bt ro read d n]
      rw [Bool.not_eq_true] at h
      rw [h]; simp
/-- the cells that rest on one, among the first n -/
def croF (ro : Nat → Int32) (cell : Nat) : Nat → Int32
  | 0 => 0
  | i + 1 => if bt (ro i) cell then croF ro cell i ||| b1 i else croF ro cell i
theorem croF_bt (ro : Nat → Int32) (cell d : Nat) : ∀ n, n ≤ 16 → bt (croF ro cell n) d = (decide (d < n) && bt (ro d) cell)
  | 0, _ => by simp [croF, b_0]
  | n + 1, hn => by
    unfold croF
    by_cases h : bt (ro n) cell = true
    · rw [if_pos h, b_or, croF_bt ro cell d n (by omega), bt_b1 (by omega)]
      by_cases e : d = n
      · subst e; simp [h]
      · rw [decide_eq_false e, Bool.or_false]
        congr 1
        exact decide_eq_decide.mpr (by omega)
    · rw [if_neg h, croF_bt ro cell d n (by omega)]
      by_cases e : d = n
      · subst e; rw [Bool.not_eq_true] at h; simp [h]
      · congr 1
        exact decide_eq_decide.mpr (by omega)
set_option maxRecDepth 100000 in
set_option maxHeartbeats 4000000 in
theorem c_isInput {l : Launch} {D : va_G} {ad : Nat → Nat → Nat} {aC : Nat → ClassId} (σ : gSig) (τ : gTau) (cell : Int32) : CZ l D ad aC yX3_isInput cX3_isInput 2 (some .boolean) 1 [.ref (ad 5 0), .int cell] σ τ (gEq (some (.int (b2i (hasB (σ 5 0 8) cell)))) σ τ) := by
  refine CZ.of (own := RX3) (by decide +kernel) rfl (Nat.le_of_ble_eq_true rfl) (fun S C => ?_)
  refine r_aload_n C dX3_isInput_0 rfl rfl ?_
  refine r_get (f := 8) C dX3_isInput_1 ⟨by decide, by decide⟩ rfl rfl kU3 (by decide) kf_X3_41 rfl rfl ?_
  refine r_iload_n C dX3_isInput_4 rfl rfl ?_
  refine r_callSN C dX3_isInput_5 (c_has σ τ (σ 5 0 8) cell) rfl kB_X5_has rfl kS_X5_has kl_X3_46 (by decide) (Nat.le_of_ble_eq_true rfl) (by decide) ?_
  rintro r9 σ' τ' ⟨rfl, rfl, rfl⟩
  exact r_zret C dX3_isInput_8 rfl (by decide) (b2i_01 _) ⟨rfl, rfl, rfl⟩
set_option maxRecDepth 100000 in
set_option maxHeartbeats 4000000 in
theorem c_restedOnThrough {l : Launch} {D : va_G} {ad : Nat → Nat → Nat} {aC : Nat → ClassId} (σ : gSig) (τ : gTau) (read : Int32) : CZ l D ad aC yX3_restedOnThrough cX3_restedOnThrough 4 (some .int) 1 [.ref (ad 5 0), .int read] σ τ (gEq (some (.int (rotF (σ 7 4) read 16))) σ τ) := by
  refine CZ.of (own := RX3) (by decide +kernel) rfl (Nat.le_of_ble_eq_true rfl) (fun S C => ?_)
  refine r_iload_n C dX3_restedOnThrough_0 rfl rfl ?_
  refine r_istore_n C dX3_restedOnThrough_1 rfl (by decide) rfl ?_
  refine r_iconst (v := 0) C dX3_restedOnThrough_2 rfl ?_
  refine r_istore_n C dX3_restedOnThrough_3 rfl (by decide) rfl ?_
  have loop : ∀ m i, i ≤ 16 → 16 - i < m → S 0 σ τ 4 [some (.ref (ad 5 0)), some (.int read), some (.int (rotF (σ 7 4) read i)), some (.int (nI i))] [] := by
    intro m
    induction m with
    | zero => intro i _ hm; omega
    | succ m ihloop =>
      intro i hiloop hmloop
      refine r_iload_n C dX3_restedOnThrough_4 rfl rfl ?_
      refine r_bipush (v := 16) C dX3_restedOnThrough_5 rfl ?_
      refine r_icmpge (tgt := 33) C dX3_restedOnThrough_7 (by decide) (fun c7 => ?_) (fun c7 => ?_)
      · have n7 := Int32.not_lt.mpr c7
        have hloope : i = 16 := by
          have := (nI_leI (a := 16) (by omega) (by omega)).mp c7
          omega
        subst hloope
        refine r_iload_n C dX3_restedOnThrough_33 rfl rfl ?_
        exact r_iret C dX3_restedOnThrough_34 rfl (by decide) ⟨rfl, rfl, rfl⟩
      · have n7 := Int32.not_le.mp c7
        have hloopl : i < 16 := (nI_ltI (b := 16) (by omega) (by omega)).mp n7
        refine r_iload_n C dX3_restedOnThrough_10 rfl rfl ?_
        refine r_iload_n C dX3_restedOnThrough_11 rfl rfl ?_
        refine r_callSN C dX3_restedOnThrough_12 (c_has σ τ read (nI i)) rfl kB_X5_has rfl kS_X5_has kl_X3_46 (by decide) (Nat.le_of_ble_eq_true rfl) (by decide) ?_
        rintro r9 σ' τ' ⟨rfl, rfl, rfl⟩
        rw [hasB_bt hloopl]
        refine r_ifeq (tgt := 27) C dX3_restedOnThrough_15 (by decide) (fun c15 => ?_) (fun c15 => ?_)
        · have h15 := b2i_0.mp c15
          refine r_iinc C dX3_restedOnThrough_27 rfl rfl (by decide) rfl ?_
          refine r_goto (tgt := 4) C dX3_restedOnThrough_30 (by decide) ?_
          exact r_swk (ihloop (i + 1) (by omega) (by omega)) rfl rfl (by simp [rotF, h15, nI_succ]) rfl
        · have h15 := b2i_n.mp c15
          refine r_iload_n C dX3_restedOnThrough_18 rfl rfl ?_
          refine r_aload_n C dX3_restedOnThrough_19 rfl rfl ?_
          refine r_get (f := 5) C dX3_restedOnThrough_20 ⟨by decide, by decide⟩ rfl rfl kU3 (by decide) kf_X3_30 rfl rfl ?_
          refine r_iload_n C dX3_restedOnThrough_23 rfl rfl ?_
          refine r_ialdv (v := σ 7 4 i) C dX3_restedOnThrough_24 ⟨by decide, by decide⟩ rfl (vp_in_nI hloopl (by decide)) (by rw [nI_clamp (by omega)]) ?_
          refine r_ior C dX3_restedOnThrough_25 ?_
          refine r_istore_n C dX3_restedOnThrough_26 rfl (by decide) rfl ?_
          refine r_iinc C dX3_restedOnThrough_27 rfl rfl (by decide) rfl ?_
          refine r_goto (tgt := 4) C dX3_restedOnThrough_30 (by decide) ?_
          exact r_swk (ihloop (i + 1) (by omega) (by omega)) rfl rfl (by simp [rotF, h15, nI_succ]) rfl
  exact loop (16 + 1) 0 (by omega) (by omega)
set_option maxRecDepth 100000 in
set_option maxHeartbeats 4000000 in
theorem c_wouldRest {l : Launch} {D : va_G} {ad : Nat → Nat → Nat} {aC : Nat → ClassId} (σ : gSig) (τ : gTau) (cell : Int32) (c k : Nat) (hc : c < 17) (hk : σ 1 c 3 = nI k) (hk2 : k ≤ 12) : CZ l D ad aC yX3_wouldRestOnItself cX3_wouldRestOnItself 3 (some .boolean) 2 [.ref (ad 5 0), .int cell, .ref (ad 1 c)] σ τ (gEq (some (.int (b2i (hasB (rotF (σ 7 4) (rsM (σ 2 c) (σ 3 c) k) 16) cell)))) σ τ) := by
  refine CZ.of (own := RX3) (by decide +kernel) rfl (Nat.le_of_ble_eq_true rfl) (fun S C => ?_)
  refine r_aload_n C dX3_wouldRestOnItself_0 rfl rfl ?_
  refine r_aload_n C dX3_wouldRestOnItself_1 rfl rfl ?_
  refine r_callV C dX3_wouldRestOnItself_2 (c_readSet σ τ c k hc hk hk2) rfl ⟨by decide, hc⟩ rfl rfl kB_X0_readSet rfl kI_X0_readSet kV_X0_readSet kl_X3_57 (by decide) (Nat.le_of_ble_eq_true rfl) (by decide) ?_
  rintro r9 σ' τ' ⟨rfl, rfl, rfl⟩
  refine r_callV C dX3_wouldRestOnItself_5 (c_restedOnThrough σ τ (rsM (σ 2 c) (σ 3 c) k)) rfl ⟨by decide, by decide⟩ rfl rfl kB_X3_restedOnThrough rfl kI_X3_restedOnThrough kV_X3_restedOnThrough kl_X3_61 (by decide) (Nat.le_of_ble_eq_true rfl) (by decide) ?_
  rintro r9 σ' τ' ⟨rfl, rfl, rfl⟩
  refine r_iload_n C dX3_wouldRestOnItself_8 rfl rfl ?_
  refine r_callSN C dX3_wouldRestOnItself_9 (c_has σ τ (rotF (σ 7 4) (rsM (σ 2 c) (σ 3 c) k) 16) cell) rfl kB_X5_has rfl kS_X5_has kl_X3_46 (by decide) (Nat.le_of_ble_eq_true rfl) (by decide) ?_
  rintro r9 σ' τ' ⟨rfl, rfl, rfl⟩
  exact r_zret C dX3_wouldRestOnItself_12 rfl (by decide) (b2i_01 _) ⟨rfl, rfl, rfl⟩
set_option maxRecDepth 100000 in
set_option maxHeartbeats 4000000 in
theorem c_cellsRestingOn {l : Launch} {D : va_G} {ad : Nat → Nat → Nat} {aC : Nat → ClassId} (σ : gSig) (τ : gTau) (cell : Nat) (hc : cell < 16) : CZ l D ad aC yX3_cellsRestingOn cX3_cellsRestingOn 4 (some .int) 1 [.ref (ad 5 0), .int (nI cell)] σ τ (gEq (some (.int (croF (σ 7 4) cell 16))) σ τ) := by
  refine CZ.of (own := RX3) (by decide +kernel) rfl (Nat.le_of_ble_eq_true rfl) (fun S C => ?_)
  refine r_iconst (v := 0) C dX3_cellsRestingOn_0 rfl ?_
  refine r_istore_n C dX3_cellsRestingOn_1 rfl (by decide) rfl ?_
  refine r_iconst (v := 0) C dX3_cellsRestingOn_2 rfl ?_
  refine r_istore_n C dX3_cellsRestingOn_3 rfl (by decide) rfl ?_
  have loop : ∀ m i, i ≤ 16 → 16 - i < m → S 0 σ τ 4 [some (.ref (ad 5 0)), some (.int (nI cell)), some (.int (croF (σ 7 4) cell i)), some (.int (nI i))] [] := by
    intro m
    induction m with
    | zero => intro i _ hm; omega
    | succ m ihloop =>
      intro i hiloop hmloop
      refine r_iload_n C dX3_cellsRestingOn_4 rfl rfl ?_
      refine r_bipush (v := 16) C dX3_cellsRestingOn_5 rfl ?_
      refine r_icmpge (tgt := 35) C dX3_cellsRestingOn_7 (by decide) (fun c7 => ?_) (fun c7 => ?_)
      · have n7 := Int32.not_lt.mpr c7
        have hloope : i = 16 := by
          have := (nI_leI (a := 16) (by omega) (by omega)).mp c7
          omega
        subst hloope
        refine r_iload_n C dX3_cellsRestingOn_35 rfl rfl ?_
        exact r_iret C dX3_cellsRestingOn_36 rfl (by decide) ⟨rfl, rfl, rfl⟩
      · have n7 := Int32.not_le.mp c7
        have hloopl : i < 16 := (nI_ltI (b := 16) (by omega) (by omega)).mp n7
        refine r_aload_n C dX3_cellsRestingOn_10 rfl rfl ?_
        refine r_get (f := 5) C dX3_cellsRestingOn_11 ⟨by decide, by decide⟩ rfl rfl kU3 (by decide) kf_X3_30 rfl rfl ?_
        refine r_iload_n C dX3_cellsRestingOn_14 rfl rfl ?_
        refine r_ialdv (v := σ 7 4 i) C dX3_cellsRestingOn_15 ⟨by decide, by decide⟩ rfl (vp_in_nI hloopl (by decide)) (by rw [nI_clamp (by omega)]) ?_
        refine r_iload_n C dX3_cellsRestingOn_16 rfl rfl ?_
        refine r_callSN C dX3_cellsRestingOn_17 (c_has σ τ (σ 7 4 i) (nI cell)) rfl kB_X5_has rfl kS_X5_has kl_X3_46 (by decide) (Nat.le_of_ble_eq_true rfl) (by decide) ?_
        rintro r9 σ' τ' ⟨rfl, rfl, rfl⟩
        rw [hasB_bt hc]
        refine r_ifeq (tgt := 29) C dX3_cellsRestingOn_20 (by decide) (fun c20 => ?_) (fun c20 => ?_)
        · have h20 := b2i_0.mp c20
          refine r_iinc C dX3_cellsRestingOn_29 rfl rfl (by decide) rfl ?_
          refine r_goto (tgt := 4) C dX3_cellsRestingOn_32 (by decide) ?_
          exact r_swk (ihloop (i + 1) (by omega) (by omega)) rfl rfl (by simp [croF, h20, nI_succ, b1]) rfl
        · have h20 := b2i_n.mp c20
          refine r_iload_n C dX3_cellsRestingOn_23 rfl rfl ?_
          refine r_iconst (v := 1) C dX3_cellsRestingOn_24 rfl ?_
          refine r_iload_n C dX3_cellsRestingOn_25 rfl rfl ?_
          refine r_ishl C dX3_cellsRestingOn_26 ?_
          refine r_ior C dX3_cellsRestingOn_27 ?_
          refine r_istore_n C dX3_cellsRestingOn_28 rfl (by decide) rfl ?_
          refine r_iinc C dX3_cellsRestingOn_29 rfl rfl (by decide) rfl ?_
          refine r_goto (tgt := 4) C dX3_cellsRestingOn_32 (by decide) ?_
          exact r_swk (ihloop (i + 1) (by omega) (by omega)) rfl rfl (by simp [croF, h20, nI_succ, b1]) rfl
  exact loop (16 + 1) 0 (by omega) (by omega)
/-- one scan: what the cells of the set read comes to the set -/
def scR (rdm : Nat → Int32) (R : Int32) : Nat → Int32
  | 0 => R
  | j + 1 => if bt (scR rdm R j) j then scR rdm R j ||| rdm j else scR rdm R j
theorem scR_t {rdm : Nat → Int32} {R : Int32} {j : Nat} (h : bt (scR rdm R j) j = true) : scR rdm R (j + 1) = scR rdm R j ||| rdm j := if_pos h
theorem scR_f {rdm : Nat → Int32} {R : Int32} {j : Nat} (h : bt (scR rdm R j) j = false) : scR rdm R (j + 1) = scR rdm R j := if_neg (by rw [h]; decide)
/-- so many scans -/
def clR (rdm : Nat → Int32) (R : Int32) : Nat → Int32
  | 0 => R
  | r + 1 => scR rdm (clR rdm R r) 16
set_option maxRecDepth 100000 in
set_option maxHeartbeats 4000000 in
theorem c_reachedFrom {l : Launch} {D : va_G} {ad : Nat → Nat → Nat} {aC : Nat → ClassId} (σ : gSig) (τ : gTau) (cell : Nat) (hc : cell < 16) (wv : Int32) : CZ l D ad aC yX3_reachedFrom cX3_reachedFrom 6 (some .int) 1 [.ref (ad 5 0), .int (nI cell), .int wv] σ τ (gEq (some (.int (clR (fun c => σ 7 3 c &&& (wv ^^^ (-1))) (b1 cell &&& (wv ^^^ (-1))) 16))) σ τ) := by
  refine CZ.of (own := RX3) (by decide +kernel) rfl (Nat.le_of_ble_eq_true rfl) (fun S C => ?_)
  refine r_iconst (v := 1) C dX3_reachedFrom_0 rfl ?_
  refine r_iload_n C dX3_reachedFrom_1 rfl rfl ?_
  refine r_ishl C dX3_reachedFrom_2 ?_
  refine r_iload_n C dX3_reachedFrom_3 rfl rfl ?_
  refine r_iconst (v := (-1)) C dX3_reachedFrom_4 rfl ?_
  refine r_ixor C dX3_reachedFrom_5 ?_
  refine r_iand C dX3_reachedFrom_6 ?_
  refine r_istore_n C dX3_reachedFrom_7 rfl (by decide) rfl ?_
  refine r_iconst (v := 0) C dX3_reachedFrom_8 rfl ?_
  refine r_istore C dX3_reachedFrom_9 (by decide) rfl ?_
  generalize hR0 : b1 cell &&& (wv ^^^ (-1)) = R0
  have lp1 : ∀ m r, r ≤ 16 → 16 - r < m → S 0 σ τ 11 [some (.ref (ad 5 0)), some (.int (nI cell)), some (.int wv), some (.int (clR (fun c => σ 7 3 c &&& (wv ^^^ (-1))) R0 r)), some (.int (nI r)), none] [] := by
    intro m
    induction m with
    | zero => intro r _ hm; omega
    | succ m ihlp1 =>
      intro r hilp1 hmlp1
      refine r_iload C dX3_reachedFrom_11 rfl ?_
      refine r_bipush (v := 16) C dX3_reachedFrom_13 rfl ?_
      refine r_icmpge (tgt := 63) C dX3_reachedFrom_15 (by decide) (fun c15 => ?_) (fun c15 => ?_)
      · have n15 := Int32.not_lt.mpr c15
        have hlp1e : r = 16 := by
          have := (nI_leI (a := 16) (by omega) (by omega)).mp c15
          omega
        subst hlp1e
        refine r_iload_n C dX3_reachedFrom_63 rfl rfl ?_
        exact r_iret C dX3_reachedFrom_64 rfl (by decide) ⟨by rw [hR0], rfl, rfl⟩
      · have n15 := Int32.not_le.mp c15
        have hlp1l : r < 16 := (nI_ltI (b := 16) (by omega) (by omega)).mp n15
        refine r_iconst (v := 0) C dX3_reachedFrom_18 rfl ?_
        refine r_istore C dX3_reachedFrom_19 (by decide) rfl ?_
        have lp2 : ∀ m j, j ≤ 16 → 16 - j < m → S 0 σ τ 21 [some (.ref (ad 5 0)), some (.int (nI cell)), some (.int wv), some (.int (scR (fun c => σ 7 3 c &&& (wv ^^^ (-1))) (clR (fun c => σ 7 3 c &&& (wv ^^^ (-1))) R0 r) j)), some (.int (nI r)), some (.int (nI j))] [] := by
          intro m
          induction m with
          | zero => intro j _ hm; omega
          | succ m ihlp2 =>
            intro j hilp2 hmlp2
            refine r_iload C dX3_reachedFrom_21 rfl ?_
            refine r_bipush (v := 16) C dX3_reachedFrom_23 rfl ?_
            refine r_icmpge (tgt := 57) C dX3_reachedFrom_25 (by decide) (fun c25 => ?_) (fun c25 => ?_)
            · have n25 := Int32.not_lt.mpr c25
              have hlp2e : j = 16 := by
                have := (nI_leI (a := 16) (by omega) (by omega)).mp c25
                omega
              subst hlp2e
              refine r_iinc C dX3_reachedFrom_57 rfl rfl (by decide) rfl ?_
              refine r_goto (tgt := 11) C dX3_reachedFrom_60 (by decide) ?_
              refine r_drop C [5] ?_
              exact r_swk (ihlp1 (r + 1) (by omega) (by omega)) rfl rfl (by simp [clR, nI_succ, dropL]) rfl
            · have n25 := Int32.not_le.mp c25
              have hlp2l : j < 16 := (nI_ltI (b := 16) (by omega) (by omega)).mp n25
              refine r_iload_n C dX3_reachedFrom_28 rfl rfl ?_
              refine r_iload C dX3_reachedFrom_29 rfl ?_
              refine r_callSN C dX3_reachedFrom_31 (c_has σ τ (scR (fun c => σ 7 3 c &&& (wv ^^^ (-1))) (clR (fun c => σ 7 3 c &&& (wv ^^^ (-1))) R0 r) j) (nI j)) rfl kB_X5_has rfl kS_X5_has kl_X3_46 (by decide) (Nat.le_of_ble_eq_true rfl) (by decide) ?_
              rintro r9 σ' τ' ⟨rfl, rfl, rfl⟩
              rw [hasB_bt hlp2l]
              refine r_ifeq (tgt := 51) C dX3_reachedFrom_34 (by decide) (fun c34 => ?_) (fun c34 => ?_)
              · have h34 := b2i_0.mp c34
                refine r_iinc C dX3_reachedFrom_51 rfl rfl (by decide) rfl ?_
                refine r_goto (tgt := 21) C dX3_reachedFrom_54 (by decide) ?_
                exact r_swk (ihlp2 (j + 1) (by omega) (by omega)) rfl rfl (by first | (rw [scR_t h34, ← nI_p1]; rfl) | (rw [scR_f h34, ← nI_p1]; rfl)) rfl
              · have h34 := b2i_n.mp c34
                refine r_iload_n C dX3_reachedFrom_37 rfl rfl ?_
                refine r_aload_n C dX3_reachedFrom_38 rfl rfl ?_
                refine r_get (f := 4) C dX3_reachedFrom_39 ⟨by decide, by decide⟩ rfl rfl kU3 (by decide) kf_X3_27 rfl rfl ?_
                refine r_iload C dX3_reachedFrom_42 rfl ?_
                refine r_ialdv (v := σ 7 3 j) C dX3_reachedFrom_44 ⟨by decide, by decide⟩ rfl (vp_in_nI hlp2l (by decide)) (by rw [nI_clamp (by omega)]) ?_
                refine r_iload_n C dX3_reachedFrom_45 rfl rfl ?_
                refine r_iconst (v := (-1)) C dX3_reachedFrom_46 rfl ?_
                refine r_ixor C dX3_reachedFrom_47 ?_
                refine r_iand C dX3_reachedFrom_48 ?_
                refine r_ior C dX3_reachedFrom_49 ?_
                refine r_istore_n C dX3_reachedFrom_50 rfl (by decide) rfl ?_
                refine r_iinc C dX3_reachedFrom_51 rfl rfl (by decide) rfl ?_
                refine r_goto (tgt := 21) C dX3_reachedFrom_54 (by decide) ?_
                exact r_swk (ihlp2 (j + 1) (by omega) (by omega)) rfl rfl (by first | (rw [scR_t h34, ← nI_p1]; rfl) | (rw [scR_f h34, ← nI_p1]; rfl)) rfl
        exact lp2 (16 + 1) 0 (by omega) (by omega)
  refine r_swk (lp1 17 0 (by omega) (by omega)) rfl rfl ?_ rfl
  rw [← hR0]
  rfl
