/-! ===== the formulas: operate, put, copyFrom, readSet, reckon: printed by g12.py ===== -/
theorem and31_nat (x : Int32) : (x &&& 31).toBitVec.toNat = x.toBitVec.toNat % 32 := by
  rw [Int32.toBitVec_and, BitVec.toNat_and]
  exact Nat.and_two_pow_sub_one_eq_mod _ 5
theorem i32_of_nat {x y : Int32} (h : x.toBitVec.toNat = y.toBitVec.toNat) : x = y := Int32.toBitVec_inj.mp (BitVec.eq_of_toNat_eq h)
theorem fm32 (b : Int32) : fmJ b 32 &&& 31 = b &&& 31 := by
  have h32 : (32 : Int32).toBitVec.toNat = 32 := by decide
  apply i32_of_nat
  rw [and31_nat, and31_nat]
  unfold fmJ
  generalize b / 32 = q
  have e1 : (b - q * 32).toBitVec.toNat % 32 = b.toBitVec.toNat % 32 := by
    rw [Int32.toBitVec_sub, BitVec.toNat_sub, Int32.toBitVec_mul, BitVec.toNat_mul, h32]
    omega
  split
  · exact e1
  · split
    · exact e1
    · rw [Int32.toBitVec_add, BitVec.toNat_add, h32]
      omega
theorem and31_twice (x : Int32) : x &&& 31 &&& 31 = x &&& 31 := by
  apply i32_of_nat
  rw [and31_nat, and31_nat, Nat.mod_mod]
theorem opF_4 (a b : Int32) : opF 4 a b = some (if b < a then b else a) := by simp [opF]
theorem opF_5 (a b : Int32) : opF 5 a b = some (if a < b then b else a) := by simp [opF]
theorem if_mn1 {a b : Int32} (h : b ≤ a) : (if b < a then b else a) = b := by
  by_cases q : b < a
  · exact if_pos q
  · rw [if_neg q]
    exact Int32.le_antisymm (Int32.not_lt.mp q) h
theorem if_mn2 {a b : Int32} (h : a < b) : (if b < a then b else a) = a := if_neg (fun q => Int32.lt_irrefl (Int32.lt_trans h q))
theorem if_mx1 {a b : Int32} (h : a ≤ b) : (if a < b then b else a) = b := by
  by_cases q : a < b
  · exact if_pos q
  · rw [if_neg q]
    exact Int32.le_antisymm h (Int32.not_lt.mp q)
theorem if_mx2 {a b : Int32} (h : b < a) : (if a < b then b else a) = a := if_neg (fun q => Int32.lt_irrefl (Int32.lt_trans h q))
set_option maxRecDepth 100000 in
set_option maxHeartbeats 4000000 in
theorem c_operate {l : Launch} {D : va_G} {ad : Nat → Nat → Nat} {aC : Nat → ClassId} (σ : gSig) (τ : gTau) (o a b : Int32) : CZ l D ad aC yX0_operate cX0_operate 3 (some .long) 1 [.int o, .int a, .int b] σ τ (gEq (some (.long (oL (opF o a b)))) σ τ) := by
  refine CZ.of (own := RX0) (by decide +kernel) rfl (Nat.le_of_ble_eq_true rfl) (fun S C => ?_)
  refine r_iload_n C dX0_operate_0 rfl rfl ?_
  by_cases h0 : o = 0
  · subst h0
    refine r_swIn (tgt := 60) C dX0_operate_1 (by decide) (by decide) rfl (by decide) ?_
    refine r_iload_n C dX0_operate_60 rfl rfl ?_
    refine r_iload_n C dX0_operate_61 rfl rfl ?_
    refine r_iadd C dX0_operate_62 ?_
    refine r_i2l C dX0_operate_63 ?_
    exact r_lret C dX0_operate_64 rfl (by decide) ⟨by simp [opF, oL, *], rfl, rfl⟩
  · skip
    by_cases h1 : o = 1
    · subst h1
      refine r_swIn (tgt := 65) C dX0_operate_1 (by decide) (by decide) rfl (by decide) ?_
      refine r_iload_n C dX0_operate_65 rfl rfl ?_
      refine r_iload_n C dX0_operate_66 rfl rfl ?_
      refine r_isub C dX0_operate_67 ?_
      refine r_i2l C dX0_operate_68 ?_
      exact r_lret C dX0_operate_69 rfl (by decide) ⟨by simp [opF, oL, *], rfl, rfl⟩
    · skip
      by_cases h2 : o = 2
      · subst h2
        refine r_swIn (tgt := 70) C dX0_operate_1 (by decide) (by decide) rfl (by decide) ?_
        refine r_iload_n C dX0_operate_70 rfl rfl ?_
        refine r_iload_n C dX0_operate_71 rfl rfl ?_
        refine r_imul C dX0_operate_72 ?_
        refine r_i2l C dX0_operate_73 ?_
        exact r_lret C dX0_operate_74 rfl (by decide) ⟨by simp [opF, oL, *], rfl, rfl⟩
      · skip
        by_cases h3 : o = 3
        · subst h3
          refine r_swIn (tgt := 75) C dX0_operate_1 (by decide) (by decide) rfl (by decide) ?_
          refine r_iload_n C dX0_operate_75 rfl rfl ?_
          refine r_ifne (tgt := 85) C dX0_operate_76 (by decide) (fun c76 => ?_) (fun c76 => ?_)
          · refine r_iload_n C dX0_operate_85 rfl rfl ?_
            refine r_iload_n C dX0_operate_86 rfl rfl ?_
            refine r_idiv C dX0_operate_87 c76 ?_
            refine r_i2l C dX0_operate_88 ?_
            exact r_lret C dX0_operate_89 rfl (by decide) ⟨by simp [opF, oL, *], rfl, rfl⟩
          · refine r_ldc2 C dX0_operate_79 kc_X0_42 ?_
            refine r_goto (tgt := 89) C dX0_operate_82 (by decide) ?_
            exact r_lret C dX0_operate_89 rfl (by decide) ⟨by simp [opF, oL, *], rfl, rfl⟩
        · skip
          by_cases h4 : o = 4
          · subst h4
            refine r_swIn (tgt := 90) C dX0_operate_1 (by decide) (by decide) rfl (by decide) ?_
            refine r_iload_n C dX0_operate_90 rfl rfl ?_
            refine r_iload_n C dX0_operate_91 rfl rfl ?_
            refine r_icmpge (tgt := 100) C dX0_operate_92 (by decide) (fun c92 => ?_) (fun c92 => ?_)
            · have n92 := Int32.not_lt.mpr c92
              refine r_iload_n C dX0_operate_100 rfl rfl ?_
              refine r_i2l C dX0_operate_101 ?_
              exact r_lret C dX0_operate_102 rfl (by decide) ⟨by rw [opF_4, if_mn1 c92]; rfl, rfl, rfl⟩
            · have n92 := Int32.not_le.mp c92
              refine r_iload_n C dX0_operate_95 rfl rfl ?_
              refine r_i2l C dX0_operate_96 ?_
              refine r_goto (tgt := 102) C dX0_operate_97 (by decide) ?_
              exact r_lret C dX0_operate_102 rfl (by decide) ⟨by rw [opF_4, if_mn2 n92]; rfl, rfl, rfl⟩
          · skip
            by_cases h5 : o = 5
            · subst h5
              refine r_swIn (tgt := 103) C dX0_operate_1 (by decide) (by decide) rfl (by decide) ?_
              refine r_iload_n C dX0_operate_103 rfl rfl ?_
              refine r_iload_n C dX0_operate_104 rfl rfl ?_
              refine r_icmple (tgt := 113) C dX0_operate_105 (by decide) (fun c105 => ?_) (fun c105 => ?_)
              · have n105 := Int32.not_lt.mpr c105
                refine r_iload_n C dX0_operate_113 rfl rfl ?_
                refine r_i2l C dX0_operate_114 ?_
                exact r_lret C dX0_operate_115 rfl (by decide) ⟨by rw [opF_5, if_mx1 c105]; rfl, rfl, rfl⟩
              · have n105 := Int32.not_le.mp c105
                refine r_iload_n C dX0_operate_108 rfl rfl ?_
                refine r_i2l C dX0_operate_109 ?_
                refine r_goto (tgt := 115) C dX0_operate_110 (by decide) ?_
                exact r_lret C dX0_operate_115 rfl (by decide) ⟨by rw [opF_5, if_mx2 n105]; rfl, rfl, rfl⟩
            · skip
              by_cases h6 : o = 6
              · subst h6
                refine r_swIn (tgt := 116) C dX0_operate_1 (by decide) (by decide) rfl (by decide) ?_
                refine r_iload_n C dX0_operate_116 rfl rfl ?_
                refine r_iload_n C dX0_operate_117 rfl rfl ?_
                refine r_icmpge (tgt := 125) C dX0_operate_118 (by decide) (fun c118 => ?_) (fun c118 => ?_)
                · have n118 := Int32.not_lt.mpr c118
                  refine r_lconst (v := 0) C dX0_operate_125 rfl ?_
                  exact r_lret C dX0_operate_126 rfl (by decide) ⟨by simp [opF, oL, *], rfl, rfl⟩
                · have n118 := Int32.not_le.mp c118
                  refine r_lconst (v := 1) C dX0_operate_121 rfl ?_
                  refine r_goto (tgt := 126) C dX0_operate_122 (by decide) ?_
                  exact r_lret C dX0_operate_126 rfl (by decide) ⟨by simp [opF, oL, *], rfl, rfl⟩
              · skip
                by_cases h7 : o = 7
                · subst h7
                  refine r_swIn (tgt := 127) C dX0_operate_1 (by decide) (by decide) rfl (by decide) ?_
                  refine r_iload_n C dX0_operate_127 rfl rfl ?_
                  refine r_iload_n C dX0_operate_128 rfl rfl ?_
                  refine r_icmpne (tgt := 136) C dX0_operate_129 (by decide) (fun c129 => ?_) (fun c129 => ?_)
                  · refine r_lconst (v := 0) C dX0_operate_136 rfl ?_
                    exact r_lret C dX0_operate_137 rfl (by decide) ⟨by simp [opF, oL, *], rfl, rfl⟩
                  · refine r_lconst (v := 1) C dX0_operate_132 rfl ?_
                    refine r_goto (tgt := 137) C dX0_operate_133 (by decide) ?_
                    exact r_lret C dX0_operate_137 rfl (by decide) ⟨by simp [opF, oL, *], rfl, rfl⟩
                · skip
                  by_cases h8 : o = 8
                  · subst h8
                    refine r_swIn (tgt := 138) C dX0_operate_1 (by decide) (by decide) rfl (by decide) ?_
                    refine r_iload_n C dX0_operate_138 rfl rfl ?_
                    refine r_iload_n C dX0_operate_139 rfl rfl ?_
                    refine r_iand C dX0_operate_140 ?_
                    refine r_i2l C dX0_operate_141 ?_
                    exact r_lret C dX0_operate_142 rfl (by decide) ⟨by simp [opF, oL, *], rfl, rfl⟩
                  · skip
                    by_cases h9 : o = 9
                    · subst h9
                      refine r_swIn (tgt := 143) C dX0_operate_1 (by decide) (by decide) rfl (by decide) ?_
                      refine r_iload_n C dX0_operate_143 rfl rfl ?_
                      refine r_iload_n C dX0_operate_144 rfl rfl ?_
                      refine r_ior C dX0_operate_145 ?_
                      refine r_i2l C dX0_operate_146 ?_
                      exact r_lret C dX0_operate_147 rfl (by decide) ⟨by simp [opF, oL, *], rfl, rfl⟩
                    · skip
                      by_cases h10 : o = 10
                      · subst h10
                        refine r_swIn (tgt := 148) C dX0_operate_1 (by decide) (by decide) rfl (by decide) ?_
                        refine r_iload_n C dX0_operate_148 rfl rfl ?_
                        refine r_iload_n C dX0_operate_149 rfl rfl ?_
                        refine r_bipush (v := 31) C dX0_operate_150 rfl ?_
                        refine r_iand C dX0_operate_152 ?_
                        refine r_ishl C dX0_operate_153 ?_
                        refine r_i2l C dX0_operate_154 ?_
                        exact r_lret C dX0_operate_155 rfl (by decide) ⟨by simp [opF, oL, and31_twice, *], rfl, rfl⟩
                      · skip
                        refine r_swOut (tgt := 156) C dX0_operate_1 ?_ (by decide) ?_
                        · have q : ∀ (k : Int32) (a : Int), k.toInt = a → ¬ o = k → ¬ o.toInt = a := fun k a hk h => lv_neT h hk
                          have := [0].length
                          have e0 := q 0 0 (by decide) h0
                          have e1 := q 1 1 (by decide) h1
                          have e2 := q 2 2 (by decide) h2
                          have e3 := q 3 3 (by decide) h3
                          have e4 := q 4 4 (by decide) h4
                          have e5 := q 5 5 (by decide) h5
                          have e6 := q 6 6 (by decide) h6
                          have e7 := q 7 7 (by decide) h7
                          have e8 := q 8 8 (by decide) h8
                          have e9 := q 9 9 (by decide) h9
                          have e10 := q 10 10 (by decide) h10
                          omega
                        · skip
                          refine r_iload_n C dX0_operate_156 rfl rfl ?_
                          refine r_iload_n C dX0_operate_157 rfl rfl ?_
                          refine r_bipush (v := 31) C dX0_operate_158 rfl ?_
                          refine r_iand C dX0_operate_160 ?_
                          refine r_ishr C dX0_operate_161 ?_
                          refine r_i2l C dX0_operate_162 ?_
                          exact r_lret C dX0_operate_163 rfl (by decide) ⟨by simp [opF, oL, and31_twice, *], rfl, rfl⟩
def putS (σ : gSig) (c k : Nat) (kd nm : Int32) : gSig := up3 (up3 (up3 (up3 σ 2 c k kd) 3 c k nm) 1 c 3 (nI (k + 1))) 1 c 4 (σ 1 c 4 + (if kd < 12 then -1 else 1))
def putB (σ : gSig) (c k : Nat) (kd : Int32) : Bool := decide (k < 12) && !(decide (kd < 12) && decide (σ 1 c 4 < 2))
set_option maxRecDepth 100000 in
set_option maxHeartbeats 4000000 in
theorem c_put {l : Launch} {D : va_G} {ad : Nat → Nat → Nat} {aC : Nat → ClassId} (σ : gSig) (τ : gTau) (c k : Nat) (kd nm : Int32) (hc : c < 17) (hk : σ 1 c 3 = nI k) (hk2 : k ≤ 12) : CZ l D ad aC yX0_put cX0_put 4 (some .boolean) 0 [.ref (ad 1 c), .int kd, .int nm] σ τ (gEq (some (.int (b2i (putB σ c k kd)))) (if putB σ c k kd then putS σ c k kd nm else σ) τ) := by
  refine CZ.of (own := RX0) (by decide +kernel) rfl (Nat.le_of_ble_eq_true rfl) (fun S C => ?_)
  have j11 : ∀ v : Int32, v = (if kd < 12 then 1 else 0) → S 0 σ τ 11 [some (.ref (ad 1 c)), some (.int kd), some (.int nm), none] [.int v] := by
    intro v hv
    refine r_istore_n C dX0_put_11 rfl (by decide) rfl ?_
    refine r_aload_n C dX0_put_12 rfl rfl ?_
    refine r_get (f := 3) (v := .int (nI k)) C dX0_put_13 ⟨by decide, hc⟩ rfl rfl kU0 (by decide) kf_X0_21 rfl (by rw [← hk]; rfl) ?_
    refine r_bipush (v := 12) C dX0_put_16 rfl ?_
    refine r_icmpge (tgt := 33) C dX0_put_18 (by decide) (fun c18 => ?_) (fun c18 => ?_)
    · have n18 := Int32.not_lt.mpr c18
      have hk12 : ¬ k < 12 := fun q => absurd c18 (nI_ge q (by decide))
      have hpb : putB σ c k kd = false := by simp [putB, hk12]
      refine r_iconst (v := 0) C dX0_put_33 rfl ?_
      exact r_zret C dX0_put_34 rfl (by decide) (by decide) ⟨by rw [hpb]; rfl, by rw [hpb]; rfl, rfl⟩
    · have n18 := Int32.not_le.mp c18
      have hk12 : k < 12 := by
        rcases Nat.lt_or_ge k 12 with q | q
        · exact q
        · exact absurd (nI_le q (by omega)) c18
      refine r_iload_n C dX0_put_21 rfl rfl ?_
      refine r_ifeq (tgt := 35) C dX0_put_22 (by decide) (fun c22 => ?_) (fun c22 => ?_)
      · have hkd : ¬ kd < 12 := by
          intro q
          rw [if_pos q] at hv
          rw [hv] at c22
          exact absurd c22 (by decide)
        have hpb : putB σ c k kd = true := by simp [putB, hk12, hkd]
        refine r_aload_n C dX0_put_35 rfl rfl ?_
        refine r_get (f := 0) C dX0_put_36 ⟨by decide, hc⟩ rfl rfl kU0 (by decide) kf_X0_9 rfl rfl ?_
        refine r_aload_n C dX0_put_39 rfl rfl ?_
        refine r_get (f := 3) (v := .int (nI k)) C dX0_put_40 ⟨by decide, hc⟩ rfl rfl kU0 (by decide) kf_X0_21 rfl (by rw [← hk]; rfl) ?_
        refine r_iload_n C dX0_put_43 rfl rfl ?_
        refine r_iastv C dX0_put_44 ⟨by decide, hc⟩ (fun _ => rfl) (vp_in_nI hk12 (by decide)) (nI_clamp (by omega)) ?_
        refine r_aload_n C dX0_put_45 rfl rfl ?_
        refine r_get (f := 1) C dX0_put_46 ⟨by decide, hc⟩ rfl rfl kU0 (by decide) kf_X0_15 rfl rfl ?_
        refine r_aload_n C dX0_put_49 rfl rfl ?_
        refine r_get (f := 3) (v := .int (nI k)) C dX0_put_50 ⟨by decide, hc⟩ rfl rfl kU0 (by decide) kf_X0_21 rfl (by rw [← hk]; rfl) ?_
        refine r_iload_n C dX0_put_53 rfl rfl ?_
        refine r_iastv C dX0_put_54 ⟨by decide, hc⟩ (fun _ => rfl) (vp_in_nI hk12 (by decide)) (nI_clamp (by omega)) ?_
        refine r_aload_n C dX0_put_55 rfl rfl ?_
        refine r_dup C dX0_put_56 rfl ?_
        refine r_get (f := 3) (v := .int (nI k)) C dX0_put_57 ⟨by decide, hc⟩ rfl rfl kU0 (by decide) kf_X0_21 rfl (by rw [← hk]; simp [up3_at]) ?_
        refine r_iconst (v := 1) C dX0_put_60 rfl ?_
        refine r_iadd C dX0_put_61 ?_
        refine r_put (f := 3) C dX0_put_62 ⟨by decide, hc⟩ rfl rfl kU0 tyX0 tyX0_ok nmX0 (by decide) kf_X0_21 rfl rfl (by decide +kernel) (Nat.le_of_ble_eq_true rfl) (by simp [cel, up3]) ?_
        refine r_aload_n C dX0_put_65 rfl rfl ?_
        refine r_dup C dX0_put_66 rfl ?_
        refine r_get (f := 4) (v := .int (σ 1 c 4)) C dX0_put_67 ⟨by decide, hc⟩ rfl rfl kU0 (by decide) kf_X0_25 rfl (by simp [up3_at]) ?_
        refine r_iload_n C dX0_put_70 rfl rfl ?_
        refine r_ifeq (tgt := 78) C dX0_put_71 (by decide) (fun c71 => ?_) (fun c71 => ?_)
        · have hkd2 : ¬ kd < 12 := by
            intro q
            rw [if_pos q] at hv
            rw [hv] at c71
            exact absurd c71 (by decide)
          refine r_iconst (v := 1) C dX0_put_78 rfl ?_
          refine r_iadd C dX0_put_79 ?_
          refine r_put (f := 4) C dX0_put_80 ⟨by decide, hc⟩ rfl rfl kU0 tyX0 tyX0_ok nmX0 (by decide) kf_X0_25 rfl rfl (by decide +kernel) (Nat.le_of_ble_eq_true rfl) (by simp [cel, up3]) ?_
          refine r_iconst (v := 1) C dX0_put_83 rfl ?_
          exact r_zret C dX0_put_84 rfl (by decide) (by decide) ⟨by rw [hpb]; rfl, by rw [hpb, if_pos rfl]; first | exact absurd hkd hkd2 | exact absurd hkd2 hkd | simp [putS, nI_1, hkd], rfl⟩
        · have hkd2 : kd < 12 := by
            rcases Classical.em (kd < 12) with q | q
            · exact q
            · rw [if_neg q] at hv
              exact absurd hv c71
          refine r_iconst (v := (-1)) C dX0_put_74 rfl ?_
          refine r_goto (tgt := 79) C dX0_put_75 (by decide) ?_
          refine r_iadd C dX0_put_79 ?_
          refine r_put (f := 4) C dX0_put_80 ⟨by decide, hc⟩ rfl rfl kU0 tyX0 tyX0_ok nmX0 (by decide) kf_X0_25 rfl rfl (by decide +kernel) (Nat.le_of_ble_eq_true rfl) (by simp [cel, up3]) ?_
          refine r_iconst (v := 1) C dX0_put_83 rfl ?_
          exact r_zret C dX0_put_84 rfl (by decide) (by decide) ⟨by rw [hpb]; rfl, by rw [hpb, if_pos rfl]; first | exact absurd hkd hkd2 | exact absurd hkd2 hkd | simp [putS, nI_1, hkd], rfl⟩
      · have hkd : kd < 12 := by
          rcases Classical.em (kd < 12) with q | q
          · exact q
          · rw [if_neg q] at hv
            exact absurd hv c22
        refine r_aload_n C dX0_put_25 rfl rfl ?_
        refine r_get (f := 4) C dX0_put_26 ⟨by decide, hc⟩ rfl rfl kU0 (by decide) kf_X0_25 rfl rfl ?_
        refine r_iconst (v := 2) C dX0_put_29 rfl ?_
        refine r_icmpge (tgt := 35) C dX0_put_30 (by decide) (fun c30 => ?_) (fun c30 => ?_)
        · have n30 := Int32.not_lt.mpr c30
          have hpb : putB σ c k kd = true := by simp [putB, hk12, n30]
          refine r_aload_n C dX0_put_35 rfl rfl ?_
          refine r_get (f := 0) C dX0_put_36 ⟨by decide, hc⟩ rfl rfl kU0 (by decide) kf_X0_9 rfl rfl ?_
          refine r_aload_n C dX0_put_39 rfl rfl ?_
          refine r_get (f := 3) (v := .int (nI k)) C dX0_put_40 ⟨by decide, hc⟩ rfl rfl kU0 (by decide) kf_X0_21 rfl (by rw [← hk]; rfl) ?_
          refine r_iload_n C dX0_put_43 rfl rfl ?_
          refine r_iastv C dX0_put_44 ⟨by decide, hc⟩ (fun _ => rfl) (vp_in_nI hk12 (by decide)) (nI_clamp (by omega)) ?_
          refine r_aload_n C dX0_put_45 rfl rfl ?_
          refine r_get (f := 1) C dX0_put_46 ⟨by decide, hc⟩ rfl rfl kU0 (by decide) kf_X0_15 rfl rfl ?_
          refine r_aload_n C dX0_put_49 rfl rfl ?_
          refine r_get (f := 3) (v := .int (nI k)) C dX0_put_50 ⟨by decide, hc⟩ rfl rfl kU0 (by decide) kf_X0_21 rfl (by rw [← hk]; rfl) ?_
          refine r_iload_n C dX0_put_53 rfl rfl ?_
          refine r_iastv C dX0_put_54 ⟨by decide, hc⟩ (fun _ => rfl) (vp_in_nI hk12 (by decide)) (nI_clamp (by omega)) ?_
          refine r_aload_n C dX0_put_55 rfl rfl ?_
          refine r_dup C dX0_put_56 rfl ?_
          refine r_get (f := 3) (v := .int (nI k)) C dX0_put_57 ⟨by decide, hc⟩ rfl rfl kU0 (by decide) kf_X0_21 rfl (by rw [← hk]; simp [up3_at]) ?_
          refine r_iconst (v := 1) C dX0_put_60 rfl ?_
          refine r_iadd C dX0_put_61 ?_
          refine r_put (f := 3) C dX0_put_62 ⟨by decide, hc⟩ rfl rfl kU0 tyX0 tyX0_ok nmX0 (by decide) kf_X0_21 rfl rfl (by decide +kernel) (Nat.le_of_ble_eq_true rfl) (by simp [cel, up3]) ?_
          refine r_aload_n C dX0_put_65 rfl rfl ?_
          refine r_dup C dX0_put_66 rfl ?_
          refine r_get (f := 4) (v := .int (σ 1 c 4)) C dX0_put_67 ⟨by decide, hc⟩ rfl rfl kU0 (by decide) kf_X0_25 rfl (by simp [up3_at]) ?_
          refine r_iload_n C dX0_put_70 rfl rfl ?_
          refine r_ifeq (tgt := 78) C dX0_put_71 (by decide) (fun c71 => ?_) (fun c71 => ?_)
          · have hkd2 : ¬ kd < 12 := by
              intro q
              rw [if_pos q] at hv
              rw [hv] at c71
              exact absurd c71 (by decide)
            refine r_iconst (v := 1) C dX0_put_78 rfl ?_
            refine r_iadd C dX0_put_79 ?_
            refine r_put (f := 4) C dX0_put_80 ⟨by decide, hc⟩ rfl rfl kU0 tyX0 tyX0_ok nmX0 (by decide) kf_X0_25 rfl rfl (by decide +kernel) (Nat.le_of_ble_eq_true rfl) (by simp [cel, up3]) ?_
            refine r_iconst (v := 1) C dX0_put_83 rfl ?_
            exact r_zret C dX0_put_84 rfl (by decide) (by decide) ⟨by rw [hpb]; rfl, by rw [hpb, if_pos rfl]; first | exact absurd hkd hkd2 | exact absurd hkd2 hkd | simp [putS, nI_1, hkd], rfl⟩
          · have hkd2 : kd < 12 := by
              rcases Classical.em (kd < 12) with q | q
              · exact q
              · rw [if_neg q] at hv
                exact absurd hv c71
            refine r_iconst (v := (-1)) C dX0_put_74 rfl ?_
            refine r_goto (tgt := 79) C dX0_put_75 (by decide) ?_
            refine r_iadd C dX0_put_79 ?_
            refine r_put (f := 4) C dX0_put_80 ⟨by decide, hc⟩ rfl rfl kU0 tyX0 tyX0_ok nmX0 (by decide) kf_X0_25 rfl rfl (by decide +kernel) (Nat.le_of_ble_eq_true rfl) (by simp [cel, up3]) ?_
            refine r_iconst (v := 1) C dX0_put_83 rfl ?_
            exact r_zret C dX0_put_84 rfl (by decide) (by decide) ⟨by rw [hpb]; rfl, by rw [hpb, if_pos rfl]; first | exact absurd hkd hkd2 | exact absurd hkd2 hkd | simp [putS, nI_1, hkd], rfl⟩
        · have n30 := Int32.not_le.mp c30
          have hpb : putB σ c k kd = false := by simp [putB, hk12, hkd, n30]
          refine r_iconst (v := 0) C dX0_put_33 rfl ?_
          exact r_zret C dX0_put_34 rfl (by decide) (by decide) ⟨by rw [hpb]; rfl, by rw [hpb]; rfl, rfl⟩
  refine r_iload_n C dX0_put_0 rfl rfl ?_
  refine r_bipush (v := 12) C dX0_put_1 rfl ?_
  refine r_icmpge (tgt := 10) C dX0_put_3 (by decide) (fun c3 => ?_) (fun c3 => ?_)
  · have n3 := Int32.not_lt.mpr c3
    refine r_iconst (v := 0) C dX0_put_10 rfl ?_
    exact j11 _ (by simp [*])
  · have n3 := Int32.not_le.mp c3
    refine r_iconst (v := 1) C dX0_put_6 rfl ?_
    refine r_goto (tgt := 11) C dX0_put_7 (by decide) ?_
    exact j11 _ (by simp [*])
def cpyS (σ : gSig) (c c2 : Nat) : gSig := up3 (up3 (upR (upR σ 2 c (va_cpy (σ 2 c2) (σ 2 c) 0 0 12)) 3 c (va_cpy (σ 3 c2) (σ 3 c) 0 0 12)) 1 c 3 (σ 1 c2 3)) 1 c 4 (σ 1 c2 4)
set_option maxRecDepth 100000 in
set_option maxHeartbeats 4000000 in
theorem c_copyFrom {l : Launch} {D : va_G} {ad : Nat → Nat → Nat} {aC : Nat → ClassId} (σ : gSig) (τ : gTau) (c c2 : Nat) (hc : c < 17) (hc2 : c2 < 17) (hne : ¬ c2 = c) : CZ l D ad aC yX0_copyFrom cX0_copyFrom 2 none 1 [.ref (ad 1 c), .ref (ad 1 c2)] σ τ (gEq none (cpyS σ c c2) τ) := by
  refine CZ.of (own := RX0) (by decide +kernel) rfl (Nat.le_of_ble_eq_true rfl) (fun S C => ?_)
  refine r_aload_n C dX0_copyFrom_0 rfl rfl ?_
  refine r_get (f := 0) C dX0_copyFrom_1 ⟨by decide, hc2⟩ rfl rfl kU0 (by decide) kf_X0_9 rfl rfl ?_
  refine r_iconst (v := 0) C dX0_copyFrom_4 rfl ?_
  refine r_aload_n C dX0_copyFrom_5 rfl rfl ?_
  refine r_get (f := 0) C dX0_copyFrom_6 ⟨by decide, hc⟩ rfl rfl kU0 (by decide) kf_X0_9 rfl rfl ?_
  refine r_iconst (v := 0) C dX0_copyFrom_9 rfl ?_
  refine r_bipush (v := 12) C dX0_copyFrom_10 rfl ?_
  refine r_copy (fm := 2) (fm1 := 2) C dX0_copyFrom_12 kl_copy0 kn_copy ks_copy ki_copy ⟨by decide, hc2⟩ ⟨by decide, hc⟩ rfl (fun _ => rfl) (by decide) (by decide) (by decide) (by decide) (by decide) (by decide) (by decide +kernel) ?_
  refine r_aload_n C dX0_copyFrom_15 rfl rfl ?_
  refine r_get (f := 1) C dX0_copyFrom_16 ⟨by decide, hc2⟩ rfl rfl kU0 (by decide) kf_X0_15 rfl rfl ?_
  refine r_iconst (v := 0) C dX0_copyFrom_19 rfl ?_
  refine r_aload_n C dX0_copyFrom_20 rfl rfl ?_
  refine r_get (f := 1) C dX0_copyFrom_21 ⟨by decide, hc⟩ rfl rfl kU0 (by decide) kf_X0_15 rfl rfl ?_
  refine r_iconst (v := 0) C dX0_copyFrom_24 rfl ?_
  refine r_bipush (v := 12) C dX0_copyFrom_25 rfl ?_
  refine r_copy (fm := 3) (fm1 := 3) C dX0_copyFrom_27 kl_copy0 kn_copy ks_copy ki_copy ⟨by decide, hc2⟩ ⟨by decide, hc⟩ rfl (fun _ => rfl) (by decide) (by decide) (by decide) (by decide) (by decide) (by decide) (by decide +kernel) ?_
  refine r_aload_n C dX0_copyFrom_30 rfl rfl ?_
  refine r_aload_n C dX0_copyFrom_31 rfl rfl ?_
  refine r_get (f := 3) C dX0_copyFrom_32 ⟨by decide, hc2⟩ rfl rfl kU0 (by decide) kf_X0_21 rfl rfl ?_
  refine r_put (f := 3) C dX0_copyFrom_35 ⟨by decide, hc⟩ rfl rfl kU0 tyX0 tyX0_ok nmX0 (by decide) kf_X0_21 rfl rfl (by decide +kernel) (Nat.le_of_ble_eq_true rfl) (by simp [cel, up3]) ?_
  refine r_aload_n C dX0_copyFrom_38 rfl rfl ?_
  refine r_aload_n C dX0_copyFrom_39 rfl rfl ?_
  refine r_get (f := 4) C dX0_copyFrom_40 ⟨by decide, hc2⟩ rfl rfl kU0 (by decide) kf_X0_25 rfl rfl ?_
  refine r_put (f := 4) C dX0_copyFrom_43 ⟨by decide, hc⟩ rfl rfl kU0 tyX0 tyX0_ok nmX0 (by decide) kf_X0_25 rfl rfl (by decide +kernel) (Nat.le_of_ble_eq_true rfl) (by simp [cel, up3]) ?_
  exact r_ret C dX0_copyFrom_46 rfl (by decide) ⟨rfl, by simp [cpyS, up3_at, hne]; rfl, rfl⟩
set_option maxRecDepth 100000 in
set_option maxHeartbeats 4000000 in
theorem c_readSet {l : Launch} {D : va_G} {ad : Nat → Nat → Nat} {aC : Nat → ClassId} (σ : gSig) (τ : gTau) (c k : Nat) (hc : c < 17) (hk : σ 1 c 3 = nI k) (hk2 : k ≤ 12) : CZ l D ad aC yX0_readSet cX0_readSet 3 (some .int) 0 [.ref (ad 1 c)] σ τ (gEq (some (.int (rsM (σ 2 c) (σ 3 c) k))) σ τ) := by
  refine CZ.of (own := RX0) (by decide +kernel) rfl (Nat.le_of_ble_eq_true rfl) (fun S C => ?_)
  refine r_iconst (v := 0) C dX0_readSet_0 rfl ?_
  refine r_istore_n C dX0_readSet_1 rfl (by decide) rfl ?_
  refine r_iconst (v := 0) C dX0_readSet_2 rfl ?_
  refine r_istore_n C dX0_readSet_3 rfl (by decide) rfl ?_
  have loop : ∀ m i, i ≤ k → k - i < m → S 0 σ τ 4 [some (.ref (ad 1 c)), some (.int (rsM (σ 2 c) (σ 3 c) i)), some (.int (nI i))] [] := by
    intro m
    induction m with
    | zero => intro i _ hm; omega
    | succ m ih =>
      intro i hi hm
      refine r_iload_n C dX0_readSet_4 rfl rfl ?_
      refine r_aload_n C dX0_readSet_5 rfl rfl ?_
      refine r_get (f := 3) (v := .int (nI k)) C dX0_readSet_6 ⟨by decide, hc⟩ rfl rfl kU0 (by decide) kf_X0_21 rfl (by rw [← hk]; rfl) ?_
      refine r_icmpge (tgt := 46) C dX0_readSet_9 (by decide) (fun c9 => ?_) (fun c9 => ?_)
      · have n9 := Int32.not_lt.mpr c9
        have hik : i = k := by
          have := (nI_leI (by omega) (by omega)).mp c9
          omega
        subst hik
        refine r_iload_n C dX0_readSet_46 rfl rfl ?_
        exact r_iret C dX0_readSet_47 rfl (by decide) ⟨rfl, rfl, rfl⟩
      · have n9 := Int32.not_le.mp c9
        have hik : i < k := by
          rcases Nat.lt_or_ge i k with q | q
          · exact q
          · exact absurd (nI_le q (by omega)) c9
        refine r_iload_n C dX0_readSet_12 rfl rfl ?_
        refine r_bipush (v := 12) C dX0_readSet_13 rfl ?_
        refine r_icmpge (tgt := 46) C dX0_readSet_15 (by decide) (fun c15 => ?_) (fun c15 => ?_)
        · have n15 := Int32.not_lt.mpr c15
          exact absurd ((nI_leI (a := 12) (by omega) (by omega)).mp c15) (by omega)
        · have n15 := Int32.not_le.mp c15
          refine r_aload_n C dX0_readSet_18 rfl rfl ?_
          refine r_get (f := 0) C dX0_readSet_19 ⟨by decide, hc⟩ rfl rfl kU0 (by decide) kf_X0_9 rfl rfl ?_
          refine r_iload_n C dX0_readSet_22 rfl rfl ?_
          refine r_ialdv (v := σ 2 c i) C dX0_readSet_23 ⟨by decide, hc⟩ rfl (vp_in_nI (show i < 12 by omega) (by decide)) (by rw [nI_clamp (by omega)]) ?_
          refine r_bipush (v := 13) C dX0_readSet_24 rfl ?_
          refine r_icmpne (tgt := 40) C dX0_readSet_26 (by decide) (fun c26 => ?_) (fun c26 => ?_)
          · refine r_iinc C dX0_readSet_40 rfl rfl (by decide) rfl ?_
            refine r_goto (tgt := 4) C dX0_readSet_43 (by decide) ?_
            exact r_swk (ih (i + 1) (by omega) (by omega)) rfl rfl (by simp [rsM, nI_succ, *]) rfl
          · refine r_iload_n C dX0_readSet_29 rfl rfl ?_
            refine r_iconst (v := 1) C dX0_readSet_30 rfl ?_
            refine r_aload_n C dX0_readSet_31 rfl rfl ?_
            refine r_get (f := 1) C dX0_readSet_32 ⟨by decide, hc⟩ rfl rfl kU0 (by decide) kf_X0_15 rfl rfl ?_
            refine r_iload_n C dX0_readSet_35 rfl rfl ?_
            refine r_ialdv (v := σ 3 c i) C dX0_readSet_36 ⟨by decide, hc⟩ rfl (vp_in_nI (show i < 12 by omega) (by decide)) (by rw [nI_clamp (by omega)]) ?_
            refine r_ishl C dX0_readSet_37 ?_
            refine r_ior C dX0_readSet_38 ?_
            refine r_istore_n C dX0_readSet_39 rfl (by decide) rfl ?_
            refine r_iinc C dX0_readSet_40 rfl rfl (by decide) rfl ?_
            refine r_goto (tgt := 4) C dX0_readSet_43 (by decide) ?_
            exact r_swk (ih (i + 1) (by omega) (by omega)) rfl rfl (by simp [rsM, nI_succ, *]) rfl
  exact loop (k + 1) 0 (by omega) (by omega)
