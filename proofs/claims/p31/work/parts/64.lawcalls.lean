/-! ===== the law: its small methods, and the calls of the class where nothing is thrown: printed by p64.py ===== -/
theorem and_max (x : Int32) : ∃ m, m < 2 ^ 31 ∧ x &&& 2147483647 = nI m := by
  refine ⟨(x &&& 2147483647).toBitVec.toNat, ?_, ?_⟩
  · rw [Int32.toBitVec_and, BitVec.toNat_and]
    exact Nat.lt_of_le_of_lt Nat.and_le_right (by decide)
  · apply Int32.toBitVec_inj.mp
    show _ = BitVec.ofNat 32 _
    rw [BitVec.ofNat_toNat, BitVec.setWidth_eq]
set_option maxRecDepth 100000 in
set_option maxHeartbeats 4000000 in
theorem c_low {l : Launch} {D : va_G} {ad : Nat → Nat → Nat} {aC : Nat → ClassId} (σ : gSig) (τ : gTau) (x : Int32) (k : Nat) (h1 : 1 ≤ k) (hk : k < 2 ^ 31) : CZ l D ad aC yL_low cL_low 2 (some .int) 0 [.int x, .int (nI k)] σ τ (fun r σ' τ' => (∃ j, j < k ∧ some (.int (nI j)) = r) ∧ σ = σ' ∧ τ = τ') := by
  refine CZ.of (own := RL) (by decide +kernel) rfl (Nat.le_of_ble_eq_true rfl) (fun S C => ?_)
  refine r_iload_n C dL_low_0 rfl rfl ?_
  refine r_ldc C dL_low_1 kc_L_7 ?_
  refine r_iand C dL_low_3 ?_
  obtain ⟨m, hm, em⟩ := and_max x
  rw [em]
  refine r_iload_n C dL_low_4 rfl rfl ?_
  refine r_irem C dL_low_5 (fun q => by have := (nI_eq (b := 0) hk (by decide)).mp q; omega) ?_
  rw [nI_rem hm hk]
  exact r_iret C dL_low_6 rfl (by decide) ⟨⟨m % k, Nat.mod_lt _ (by omega), rfl⟩, rfl, rfl⟩
set_option maxRecDepth 100000 in
set_option maxHeartbeats 4000000 in
theorem c_cellL {l : Launch} {D : va_G} {ad : Nat → Nat → Nat} {aC : Nat → ClassId} (σ : gSig) (τ : gTau) {b Ls : Nat} {xs : Nat → Int32} (k : Nat) (hk : k < 2 ^ 31) (hLs : Ls < 2 ^ 31) : CS l D ad aC b Ls xs yL_cell cL_cell 2 (some .int) 0 [.ref b, .int (nI k)] σ τ (fun r σ' τ' => (∃ x, some (.int x) = r) ∧ σ = σ' ∧ τ = τ') := by
  refine CS.of (own := RL) (by decide +kernel) rfl (Nat.le_of_ble_eq_true rfl) (fun S C Y => ?_)
  refine r_iload_n C dL_cell_0 rfl rfl ?_
  refine r_aload_n C dL_cell_1 rfl rfl ?_
  refine r_slen Y dL_cell_2 ?_
  refine r_icmpge (tgt := 12) C dL_cell_3 (by decide) (fun c3 => ?_) (fun c3 => ?_)
  · have n3 := Int32.not_lt.mpr c3
    refine r_sipush (v := 7919) C dL_cell_12 rfl ?_
    refine r_iload_n C dL_cell_15 rfl rfl ?_
    refine r_iconst (v := 3) C dL_cell_16 rfl ?_
    refine r_iadd C dL_cell_17 ?_
    refine r_imul C dL_cell_18 ?_
    refine r_iload_n C dL_cell_19 rfl rfl ?_
    refine r_bipush (v := 11) C dL_cell_20 rfl ?_
    refine r_iadd C dL_cell_22 ?_
    refine r_imul C dL_cell_23 ?_
    exact r_iret C dL_cell_24 rfl (by decide) ⟨⟨_, rfl⟩, rfl, rfl⟩
  · have n3 := Int32.not_le.mp c3
    have hkl : k < Ls := (nI_ltI hk hLs).mp n3
    refine r_aload_n C dL_cell_6 rfl rfl ?_
    refine r_iload_n C dL_cell_7 rfl rfl ?_
    refine r_sld0 Y hkl hLs dL_cell_8 ?_
    refine r_goto (tgt := 24) C dL_cell_9 (by decide) ?_
    exact r_iret C dL_cell_24 rfl (by decide) ⟨⟨_, rfl⟩, rfl, rfl⟩
set_option maxRecDepth 100000 in
set_option maxHeartbeats 4000000 in
theorem v_reads {l : Launch} {D : va_G} {ad : Nat → Nat → Nat} {aC : Nat → ClassId} (σ : gSig) (τ : gTau) (c : Nat) (hc : c < 16) : VT l D ad aC yX5_reads cX5_reads 2 (some .int) 8 1 [.ref (ad 0 0), .int (nI c)] σ τ (gEq (some (.int (σ 7 3 c))) σ τ) :=
  ⟨_, _, c_reads σ τ (nI c), fun r σ2 τ2 ⟨c2, hc2, e, h⟩ => by
    obtain rfl := nI_one hc hc2 e
    exact h, fun E σ2 τ2 ⟨⟨_, h⟩, _⟩ => h (isC_of hc)⟩
set_option maxRecDepth 100000 in
set_option maxHeartbeats 4000000 in
theorem v_rests {l : Launch} {D : va_G} {ad : Nat → Nat → Nat} {aC : Nat → ClassId} (σ : gSig) (τ : gTau) (c : Nat) (hc : c < 16) : VT l D ad aC yX5_rests cX5_rests 2 (some .int) 8 1 [.ref (ad 0 0), .int (nI c)] σ τ (gEq (some (.int (σ 7 4 c))) σ τ) :=
  ⟨_, _, c_rests σ τ (nI c), fun r σ2 τ2 ⟨c2, hc2, e, h⟩ => by
    obtain rfl := nI_one hc hc2 e
    exact h, fun E σ2 τ2 ⟨⟨_, h⟩, _⟩ => h (isC_of hc)⟩
set_option maxRecDepth 100000 in
set_option maxHeartbeats 4000000 in
theorem v_verdict {l : Launch} {D : va_G} {ad : Nat → Nat → Nat} {aC : Nat → ClassId} (σ : gSig) (τ : gTau) (c : Nat) (hc : c < 16) : VT l D ad aC yX5_verdict cX5_verdict 2 (some .int) 8 1 [.ref (ad 0 0), .int (nI c)] σ τ (gEq (some (.int (veC σ c))) σ τ) :=
  ⟨_, _, c_verdict σ τ (nI c), fun r σ2 τ2 ⟨c2, hc2, e, h⟩ => by
    obtain rfl := nI_one hc hc2 e
    exact h, fun E σ2 τ2 ⟨⟨_, h⟩, _⟩ => h (isC_of hc)⟩
set_option maxRecDepth 100000 in
set_option maxHeartbeats 4000000 in
theorem v_failing {l : Launch} {D : va_G} {ad : Nat → Nat → Nat} {aC : Nat → ClassId} (σ : gSig) (τ : gTau) (c : Nat) (hc : c < 16) : VT l D ad aC yX5_failing cX5_failing 2 (some .int) 8 1 [.ref (ad 0 0), .int (nI c)] σ τ (gEq (some (.int (if bt (σ 13 0 6) c then σ 14 1 c else -1))) σ τ) :=
  ⟨_, _, c_failing σ τ (nI c), fun r σ2 τ2 ⟨c2, hc2, e, h⟩ => by
    obtain rfl := nI_one hc hc2 e
    exact h, fun E σ2 τ2 ⟨⟨_, h⟩, _⟩ => h (isC_of hc)⟩
set_option maxRecDepth 100000 in
set_option maxHeartbeats 4000000 in
theorem v_smaller {l : Launch} {D : va_G} {ad : Nat → Nat → Nat} {aC : Nat → ClassId} (σ : gSig) (τ : gTau) (c : Nat) (hc : c < 16) : VT l D ad aC yX5_smaller cX5_smaller 2 (some .int) 8 1 [.ref (ad 0 0), .int (nI c)] σ τ (gEq (some (.int (if bt (σ 13 0 6) c then σ 14 2 c else -1))) σ τ) :=
  ⟨_, _, c_smaller σ τ (nI c), fun r σ2 τ2 ⟨c2, hc2, e, h⟩ => by
    obtain rfl := nI_one hc hc2 e
    exact h, fun E σ2 τ2 ⟨⟨_, h⟩, _⟩ => h (isC_of hc)⟩
set_option maxRecDepth 100000 in
set_option maxHeartbeats 4000000 in
theorem v_isLockedByWays {l : Launch} {D : va_G} {ad : Nat → Nat → Nat} {aC : Nat → ClassId} (σ : gSig) (τ : gTau) (c : Nat) (hc : c < 16) : VT l D ad aC yX5_isLockedByWays cX5_isLockedByWays 2 (some .boolean) 8 1 [.ref (ad 0 0), .int (nI c)] σ τ (gEq (some (.int (b2i (lwC σ c)))) σ τ) :=
  ⟨_, _, c_isLockedByWays σ τ (nI c), fun r σ2 τ2 ⟨c2, hc2, e, h⟩ => by
    obtain rfl := nI_one hc hc2 e
    exact h, fun E σ2 τ2 ⟨⟨_, h⟩, _⟩ => h (isC_of hc)⟩
set_option maxRecDepth 100000 in
set_option maxHeartbeats 4000000 in
theorem v_isMarked {l : Launch} {D : va_G} {ad : Nat → Nat → Nat} {aC : Nat → ClassId} (σ : gSig) (τ : gTau) (c : Nat) (hc : c < 16) : VT l D ad aC yX5_isMarked cX5_isMarked 2 (some .boolean) 8 1 [.ref (ad 0 0), .int (nI c)] σ τ (gEq (some (.int (b2i (mkC σ c)))) σ τ) :=
  ⟨_, _, c_isMarked σ τ (nI c), fun r σ2 τ2 ⟨c2, hc2, e, h⟩ => by
    obtain rfl := nI_one hc hc2 e
    exact h, fun E σ2 τ2 ⟨⟨_, h⟩, _⟩ => h (isC_of hc)⟩
set_option maxRecDepth 100000 in
set_option maxHeartbeats 4000000 in
theorem v_isLocked {l : Launch} {D : va_G} {ad : Nat → Nat → Nat} {aC : Nat → ClassId} (σ : gSig) (τ : gTau) (c : Nat) (hc : c < 16) (o : Nat → Nat) (hO : ordI (σ 7 5) o 16) : VT l D ad aC yX5_isLocked cX5_isLocked 2 (some .boolean) 8 1 [.ref (ad 0 0), .int (nI c)] σ τ (gEq (some (.int (b2i (bt (lcC σ o) c)))) σ τ) :=
  ⟨_, _, c_isLocked σ τ (nI c) o hO, fun r σ2 τ2 ⟨c2, hc2, e, h⟩ => by
    obtain rfl := nI_one hc hc2 e
    exact h, fun E σ2 τ2 ⟨⟨_, h⟩, _⟩ => h (isC_of hc)⟩
set_option maxRecDepth 100000 in
set_option maxHeartbeats 4000000 in
theorem v_example {l : Launch} {D : va_G} {ad : Nat → Nat → Nat} {aC : Nat → ClassId} (σ : gSig) (τ : gTau) (c i : Nat) (hc : c < 16) (hi : i < 16) (hy : bt (σ 13 0 6) c = true ∧ bt (σ 14 3 c) i = true) : VT l D ad aC yX5_example cX5_example 3 (some .int) 8 3 [.ref (ad 0 0), .int (nI c), .int (nI i)] σ τ (gEq (some (.int (σ 16 c i))) σ τ) :=
  ⟨_, _, c_example σ τ (nI c) (nI i), fun r σ2 τ2 ⟨c2, i2, hc2, hi2, e1, e2, _, h⟩ => by
    obtain rfl := nI_one hc hc2 e1
    obtain rfl := nI_one hi hi2 e2
    exact h, fun E σ2 τ2 ⟨h, _⟩ => by
    rcases h with ⟨_, h⟩ | ⟨_, c2, i2, hc2, hi2, e1, e2, h⟩
    · exact h ⟨isC_of hc, isC_of hi⟩
    · obtain rfl := nI_one hc hc2 e1
      obtain rfl := nI_one hi hi2 e2
      exact h hy⟩
theorem put_t {σ : gSig} {k : Nat} {kd : Int32} (hk : k < 12) (h : kd < 12 → ¬ σ 1 16 4 < 2) : putB σ 16 k kd = true := by
  cases hb : putB σ 16 k kd with
  | true => rfl
  | false =>
    exfalso
    unfold putB at hb
    rw [decide_eq_true hk, Bool.true_and] at hb
    rcases Classical.em (kd < 12) with q | q
    · rw [decide_eq_true q, decide_eq_false (h q)] at hb; cases hb
    · rw [decide_eq_false q] at hb; cases hb
set_option maxRecDepth 100000 in
set_option maxHeartbeats 4000000 in
theorem v_number {l : Launch} {D : va_G} {ad : Nat → Nat → Nat} {aC : Nat → ClassId} (σ : gSig) (τ : gTau) (v : Int32) (k : Nat) (hk : σ 1 16 3 = nI k) (hk2 : k < 12) : VT l D ad aC yX5_number cX5_number 2 (some .int) 7 1 [.ref (ad 0 0), .int v] σ τ (gEq (some (.int ((putS σ 16 k 12 v) 1 16 4))) (putS σ 16 k 12 v) τ) :=
  ⟨_, _, c_number σ τ v k hk (by omega), fun r σ2 τ2 ⟨_, h⟩ => h, fun E σ2 τ2 ⟨⟨_, h⟩, _⟩ => by
    rw [put_t hk2 (fun q => absurd q (by decide))] at h
    cases h⟩
set_option maxRecDepth 100000 in
set_option maxHeartbeats 4000000 in
theorem v_cell {l : Launch} {D : va_G} {ad : Nat → Nat → Nat} {aC : Nat → ClassId} (σ : gSig) (τ : gTau) (c : Nat) (hc : c < 16) (k : Nat) (hk : σ 1 16 3 = nI k) (hk2 : k < 12) : VT l D ad aC yX5_cell cX5_cell 2 (some .int) 8 2 [.ref (ad 0 0), .int (nI c)] σ τ (gEq (some (.int ((putS σ 16 k 13 (nI c)) 1 16 4))) (putS σ 16 k 13 (nI c)) τ) :=
  ⟨_, _, c_cell σ τ (nI c) k hk (by omega), fun r σ2 τ2 ⟨_, _, h⟩ => h, fun E σ2 τ2 ⟨h, _⟩ => by
    rcases h with ⟨_, h⟩ | ⟨_, _, h⟩
    · exact h (isC_of hc)
    · rw [put_t hk2 (fun q => absurd q (by decide))] at h
      cases h⟩
set_option maxRecDepth 100000 in
set_option maxHeartbeats 4000000 in
theorem v_apply {l : Launch} {D : va_G} {ad : Nat → Nat → Nat} {aC : Nat → ClassId} (σ : gSig) (τ : gTau) (op : Int32) (hop : isO op) (h2 : ¬ σ 1 16 4 < 2) (k : Nat) (hk : σ 1 16 3 = nI k) (hk2 : k < 12) : VT l D ad aC yX5_apply cX5_apply 2 (some .int) 7 1 [.ref (ad 0 0), .int op] σ τ (gEq (some (.int ((putS σ 16 k op 0) 1 16 4))) (putS σ 16 k op 0) τ) :=
  ⟨_, _, c_apply σ τ op k hk (by omega), fun r σ2 τ2 ⟨_, _, h⟩ => h, fun E σ2 τ2 ⟨h, _⟩ => by
    rcases h with ⟨_, h⟩ | ⟨_, _, h⟩
    · exact h hop
    · rw [put_t hk2 (fun _ => h2)] at h
      cases h⟩
set_option maxRecDepth 100000 in
set_option maxHeartbeats 4000000 in
theorem v_set {l : Launch} {D : va_G} {ad : Nat → Nat → Nat} {aC : Nat → ClassId} (σ : gSig) (τ : gTau) (c : Nat) (v : Int32) (hc : c < 16) (hin : bt (σ 5 0 8) c = true) (hv : σ 7 0 c ≤ v ∧ v ≤ σ 7 1 c) : VT l D ad aC yX5_set cX5_set 4 (some .int) 8 2 [.ref (ad 0 0), .int (nI c), .int v] σ τ (gEq (some (.int (σ 7 2 c))) (up3 σ 7 2 c v) τ) :=
  ⟨_, _, c_set σ τ (nI c) v, fun r σ2 τ2 ⟨c2, hc2, e, _, _, h⟩ => by
    obtain rfl := nI_one hc hc2 e
    exact h, fun E σ2 τ2 ⟨h, _⟩ => by
    rcases h with ⟨_, h⟩ | ⟨_, c2, hc2, e, h⟩ | ⟨_, c2, hc2, e, _, h⟩
    · exact h (isC_of hc)
    · obtain rfl := nI_one hc hc2 e
      rw [hin] at h; cases h
    · obtain rfl := nI_one hc hc2 e
      exact h hv⟩
set_option maxRecDepth 100000 in
set_option maxHeartbeats 4000000 in
theorem v_drop {l : Launch} {D : va_G} {ad : Nat → Nat → Nat} {aC : Nat → ClassId} (σ : gSig) (τ : gTau) (c : Nat) (hc : c < 16) : VT l D ad aC yX5_drop cX5_drop 3 (some .int) 8 1 [.ref (ad 0 0), .int (nI c)] σ τ (gEq (some (.int (σ 10 c 2))) (up3 σ 10 c 2 0) τ) :=
  ⟨_, _, c_drop σ τ (nI c), fun r σ2 τ2 ⟨c2, hc2, e, h⟩ => by
    obtain rfl := nI_one hc hc2 e
    exact h, fun E σ2 τ2 ⟨⟨_, h⟩, _⟩ => h (isC_of hc)⟩
set_option maxRecDepth 100000 in
set_option maxHeartbeats 4000000 in
theorem v_own {l : Launch} {D : va_G} {ad : Nat → Nat → Nat} {aC : Nat → ClassId} (σ : gSig) (τ : gTau) (c : Nat) (hc : c < 16) : VT l D ad aC yX5_own cX5_own 4 (some .int) 8 2 [.ref (ad 0 0), .int (nI c), .int 3] σ τ (gEq (some (.int (σ 18 0 c))) (up3 σ 18 0 c 3) τ) :=
  ⟨_, _, c_own σ τ (nI c) 3, fun r σ2 τ2 ⟨c2, hc2, e, _, h⟩ => by
    obtain rfl := nI_one hc hc2 e
    exact h, fun E σ2 τ2 ⟨h, _⟩ => by
    rcases h with ⟨_, h⟩ | ⟨_, c2, hc2, e, h⟩
    · exact h (isC_of hc)
    · exact h ⟨by decide, by decide⟩⟩
set_option maxRecDepth 100000 in
set_option maxHeartbeats 4000000 in
theorem v_tell {l : Launch} {D : va_G} {ad : Nat → Nat → Nat} {aC : Nat → ClassId} (σ : gSig) (τ : gTau) (c q : Nat) (kd nn : Int32) (hc : c < 16) (hpl : ∀ c, c < 16 → ∃ q, σ 10 c 2 = nI q ∧ q ≤ 4) (hq : σ 10 c 2 = nI q) (hq4 : q < 4) (hkd : ¬ kd < 0 ∧ kd ≤ 3) (hnn : kd = 2 ∨ kd = 3 → isC nn) : VT l D ad aC yX5_tell cX5_tell 4 (some .int) 8 3 [.ref (ad 0 0), .int (nI c), .int kd, .int nn] σ τ (gEq (some (.int (nI (q + 1)))) (teS σ c q kd nn) τ) :=
  ⟨_, _, c_tell σ τ (nI c) kd nn hpl, fun r σ2 τ2 ⟨c2, hc2, e, _, _, q2, h1, h2, h⟩ => by
    obtain rfl := nI_one hc hc2 e
    obtain rfl : q = q2 := (nI_eq (by omega) (by omega)).mp (hq.symm.trans h1)
    exact h, fun E σ2 τ2 ⟨h, _⟩ => by
    rcases h with ⟨_, h⟩ | ⟨_, c2, hc2, e, _, h⟩ | ⟨_, c2, hc2, e, _, _, q2, h1, h2⟩
    · rcases h with h | ⟨h, h3⟩
      · exact h (isC_of hc)
      · exact h3 (hnn h)
    · exact h hkd
    · obtain rfl := nI_one hc hc2 e
      have := (nI_eq (a := q) (b := q2) (by omega) (by omega)).mp (hq.symm.trans h1)
      omega⟩
set_option maxRecDepth 100000 in
set_option maxHeartbeats 4000000 in
theorem v_waive {l : Launch} {D : va_G} {ad : Nat → Nat → Nat} {aC : Nat → ClassId} (σ : gSig) (τ : gTau) (c : Nat) (dy : Int32) (hc : c < 16) (o : Nat → Nat) (hO : ordI (σ 7 5) o 16) (hw : 3 = σ 18 0 c ∧ ¬ dy < 0 ∧ dy ≤ 30) (hl : bt (lcC σ o) c = true) : VT l D ad aC yX5_waive cX5_waive 4 (some .int) 8 2 [.ref (ad 0 0), .int (nI c), .int 3, .int dy] σ τ (gEq (some (.int (bcJ (lcC (wvS σ c dy) o)))) (wvS σ c dy) τ) :=
  ⟨_, _, c_waive σ τ (nI c) 3 dy o hO, fun r σ2 τ2 ⟨c2, hc2, e, _, _, h⟩ => by
    obtain rfl := nI_one hc hc2 e
    exact h, fun E σ2 τ2 ⟨h, _⟩ => by
    rcases h with ⟨_, h⟩ | ⟨_, c2, hc2, e, h⟩ | ⟨_, c2, hc2, e, _, h⟩
    · exact h (isC_of hc)
    · obtain rfl := nI_one hc hc2 e
      exact h hw
    · obtain rfl := nI_one hc hc2 e
      rw [hl] at h; cases h⟩
abbrev psS (σ : gSig) (dy : Int32) : gSig := up3 σ 17 0 3 (σ 17 0 3 + dy)
set_option maxRecDepth 100000 in
set_option maxHeartbeats 4000000 in
theorem v_pass {l : Launch} {D : va_G} {ad : Nat → Nat → Nat} {aC : Nat → ClassId} (σ : gSig) (τ : gTau) (dy : Int32) (o : Nat → Nat) (hO : ordI (σ 7 5) o 16) (hdy : 1 ≤ dy ∧ dy ≤ 100) (hs : σ 17 0 3 + dy ≤ 10000) : VT l D ad aC yX5_pass cX5_pass 2 (some .int) 7 1 [.ref (ad 0 0), .int dy] σ τ (gEq (some (.int (bcJ (lcC (psS σ dy) o)))) (psS σ dy) τ) :=
  ⟨_, _, c_pass σ τ dy o hO, fun r σ2 τ2 ⟨_, _, h⟩ => h, fun E σ2 τ2 ⟨h, _⟩ => by
    rcases h with ⟨_, h⟩ | ⟨_, _, h⟩
    · exact h hdy
    · exact Int32.not_lt.mpr hs h⟩
set_option maxRecDepth 100000 in
set_option maxHeartbeats 4000000 in
theorem v_show {l : Launch} {D : va_G} {ad : Nat → Nat → Nat} {aC : Nat → ClassId} (σ : gSig) (τ : gTau) (c : Nat) (v : Int32) (hc : c < 16) (o : Nat → Nat) (hK : shK σ o) (hl : bt (lcC σ o) c = false) (hv : gV σ (σ 7 2) c = some v) : VT l D ad aC yX5_show cX5_show 4 (some .int) 8 2 [.ref (ad 0 0), .int (nI c)] σ τ (fun r σ2 τ2 => ∃ s4 t8, some (.int v) = r ∧ upF σ 4 s4 = σ2 ∧ upT τ 8 t8 = τ2) :=
  ⟨_, _, c_show σ τ (nI c) o hK, fun r σ2 τ2 ⟨c2, hc2, e, _, v2, hv2, h⟩ => by
    obtain rfl := nI_one hc hc2 e
    obtain rfl : v = v2 := Option.some.inj (hv.symm.trans hv2)
    exact h, fun E σ2 τ2 ⟨h, _⟩ => by
    rcases h with ⟨_, h⟩ | ⟨_, c2, hc2, e, h⟩ | ⟨_, c2, hc2, e, _, h⟩
    · exact h (isC_of hc)
    · obtain rfl := nI_one hc hc2 e
      rw [hl] at h; cases h
    · obtain rfl := nI_one hc hc2 e
      rw [hv] at h; cases h⟩
set_option maxRecDepth 100000 in
set_option maxHeartbeats 4000000 in
theorem v_attempt {l : Launch} {D : va_G} {ad : Nat → Nat → Nat} {aC : Nat → ClassId} (σ : gSig) (τ : gTau) (c sd R : Nat) (hc : c < 16) (hsd : sd < 7875) (hR1 : 1 ≤ R) (hR : R ≤ 20) (o : Nat → Nat) (hK : shK σ o) (hPL : ∀ c, c < 16 → ∃ q, plK σ c q) (hrg : rgK (inpC σ) (σ 7 0) (σ 7 1)) : VT l D ad aC yX5_attempt cX5_attempt 8 (some .int) 10 2 [.ref (ad 0 0), .int (nI c), .int (nI sd), .int (nI R)] σ τ (fun r σ2 τ2 => ∃ q, plK σ c q ∧ atQ σ τ o c q sd R r σ2 τ2) :=
  ⟨_, _, c_attempt σ τ (nI c) (nI sd) (nI R) o hK hPL hrg, fun r σ2 τ2 ⟨c2, sd2, R2, q, hc2, e1, e2, e3, h4, h5, _, h6, h⟩ => by
    obtain rfl := nI_one hc hc2 e1
    obtain rfl : sd = sd2 := (nI_eq (by omega) (by omega)).mp e2
    obtain rfl : R = R2 := (nI_eq (by omega) (by omega)).mp e3
    exact ⟨q, h6, h⟩, fun E σ2 τ2 ⟨h, _⟩ => by
    rcases h with ⟨_, h⟩ | ⟨_, c2, hc2, e, h⟩
    · exact h (isC_of hc)
    · refine h ⟨⟨nI_pos (by omega), (nI_ltI (b := 7875) (by omega) (by decide)).mpr hsd⟩, (nI_leI (a := 1) (by decide) (by omega)).mpr hR1, (nI_leI (b := 20) (by omega) (by decide)).mpr hR⟩⟩
