/-! ===== the law's model: operations, values: printed by g35.py ===== -/
theorem mn_ge {a b : Int32} (h : b ≤ a) : (if b < a then b else a) = b := by
  by_cases q : b < a
  · rw [if_pos q]
  · rw [if_neg q]
    have h1 := (fa_le _ _).mp h
    have h2 : ¬ b.toInt < a.toInt := fun z => q ((fa_lt _ _).mpr z)
    exact (fa_eq _ _).mpr (by omega)
theorem mn_lt {a b : Int32} (h : a < b) : (if b < a then b else a) = a := by
  rw [if_neg]
  intro q
  have h1 := (fa_lt _ _).mp h
  have h2 := (fa_lt _ _).mp q
  omega
theorem mx_le {a b : Int32} (h : a ≤ b) : (if a < b then b else a) = b := by
  by_cases q : a < b
  · rw [if_pos q]
  · rw [if_neg q]
    have h1 := (fa_le _ _).mp h
    have h2 : ¬ a.toInt < b.toInt := fun z => q ((fa_lt _ _).mpr z)
    exact (fa_eq _ _).mpr (by omega)
theorem mx_gt {a b : Int32} (h : b < a) : (if a < b then b else a) = a := by
  rw [if_neg]
  intro q
  have h1 := (fa_lt _ _).mp h
  have h2 := (fa_lt _ _).mp q
  omega
theorem and31_31 (b : Int32) : b &&& 31 &&& 31 = b &&& 31 := by
  rw [Int32.and_assoc, show (31 : Int32) &&& 31 = 31 from by decide]
set_option maxRecDepth 100000 in
set_option maxHeartbeats 1000000 in
theorem m_of {l : Launch} {D : va_G} {ad : Nat → Nat → Nat} {aC : Nat → ClassId} (σ : gSig) (τ : gTau) (o a b v : Int32) (h : opF o a b = some v) : CZ l D ad aC yX6_of cX6_of 3 (some .int) 0 [.int o, .int a, .int b] σ τ (gEq (some (.int v)) σ τ) := by
  refine CZ.of (own := RX6) (by decide +kernel) rfl (Nat.le_of_ble_eq_true rfl) (fun S C => ?_)
  refine r_iload_n C dX6_of_0 rfl rfl ?_
  by_cases h0 : o = 0
  · subst h0
    refine r_swIn (tgt := 60) C dX6_of_1 (by decide) (by decide) rfl (by decide) ?_
    have h2 : (a + b) = v := Option.some.inj h
    refine r_iload_n C dX6_of_60 rfl rfl ?_
    refine r_iload_n C dX6_of_61 rfl rfl ?_
    refine r_iadd C dX6_of_62 ?_
    exact r_iret C dX6_of_63 rfl (by decide) ⟨by rw [← h2], rfl, rfl⟩
  · skip
    by_cases h1 : o = 1
    · subst h1
      refine r_swIn (tgt := 64) C dX6_of_1 (by decide) (by decide) rfl (by decide) ?_
      have h2 : (a - b) = v := Option.some.inj h
      refine r_iload_n C dX6_of_64 rfl rfl ?_
      refine r_iload_n C dX6_of_65 rfl rfl ?_
      refine r_isub C dX6_of_66 ?_
      exact r_iret C dX6_of_67 rfl (by decide) ⟨by rw [← h2], rfl, rfl⟩
    · skip
      by_cases h2 : o = 2
      · subst h2
        refine r_swIn (tgt := 68) C dX6_of_1 (by decide) (by decide) rfl (by decide) ?_
        have h2 : (a * b) = v := Option.some.inj h
        refine r_iload_n C dX6_of_68 rfl rfl ?_
        refine r_iload_n C dX6_of_69 rfl rfl ?_
        refine r_imul C dX6_of_70 ?_
        exact r_iret C dX6_of_71 rfl (by decide) ⟨by rw [← h2], rfl, rfl⟩
      · skip
        by_cases h3 : o = 3
        · subst h3
          refine r_swIn (tgt := 72) C dX6_of_1 (by decide) (by decide) rfl (by decide) ?_
          have h1 : (if b = 0 then none else some (a / b)) = some v := h
          have hb0 : ¬ b = 0 := fun q => by rw [if_pos q] at h1; cases h1
          have h2 : a / b = v := by rw [if_neg hb0] at h1; exact Option.some.inj h1
          refine r_iload_n C dX6_of_72 rfl rfl ?_
          refine r_iload_n C dX6_of_73 rfl rfl ?_
          refine r_idiv C dX6_of_74 hb0 ?_
          exact r_iret C dX6_of_75 rfl (by decide) ⟨by rw [← h2], rfl, rfl⟩
        · skip
          by_cases h4 : o = 4
          · subst h4
            refine r_swIn (tgt := 76) C dX6_of_1 (by decide) (by decide) rfl (by decide) ?_
            have h2 : (if b < a then b else a) = v := Option.some.inj h
            refine r_iload_n C dX6_of_76 rfl rfl ?_
            refine r_iload_n C dX6_of_77 rfl rfl ?_
            refine r_icmpge (tgt := 85) C dX6_of_78 (by decide) (fun c78 => ?_) (fun c78 => ?_)
            · have n78 := Int32.not_lt.mpr c78
              refine r_iload_n C dX6_of_85 rfl rfl ?_
              exact r_iret C dX6_of_86 rfl (by decide) ⟨by rw [← h2, mn_ge c78], rfl, rfl⟩
            · have n78 := Int32.not_le.mp c78
              refine r_iload_n C dX6_of_81 rfl rfl ?_
              refine r_goto (tgt := 86) C dX6_of_82 (by decide) ?_
              exact r_iret C dX6_of_86 rfl (by decide) ⟨by rw [← h2, mn_lt n78], rfl, rfl⟩
          · skip
            by_cases h5 : o = 5
            · subst h5
              refine r_swIn (tgt := 87) C dX6_of_1 (by decide) (by decide) rfl (by decide) ?_
              have h2 : (if a < b then b else a) = v := Option.some.inj h
              refine r_iload_n C dX6_of_87 rfl rfl ?_
              refine r_iload_n C dX6_of_88 rfl rfl ?_
              refine r_icmple (tgt := 96) C dX6_of_89 (by decide) (fun c89 => ?_) (fun c89 => ?_)
              · have n89 := Int32.not_lt.mpr c89
                refine r_iload_n C dX6_of_96 rfl rfl ?_
                exact r_iret C dX6_of_97 rfl (by decide) ⟨by rw [← h2, mx_le c89], rfl, rfl⟩
              · have n89 := Int32.not_le.mp c89
                refine r_iload_n C dX6_of_92 rfl rfl ?_
                refine r_goto (tgt := 97) C dX6_of_93 (by decide) ?_
                exact r_iret C dX6_of_97 rfl (by decide) ⟨by rw [← h2, mx_gt n89], rfl, rfl⟩
            · skip
              by_cases h6 : o = 6
              · subst h6
                refine r_swIn (tgt := 98) C dX6_of_1 (by decide) (by decide) rfl (by decide) ?_
                have h2 : (if a < b then 1 else 0) = v := Option.some.inj h
                refine r_iload_n C dX6_of_98 rfl rfl ?_
                refine r_iload_n C dX6_of_99 rfl rfl ?_
                refine r_icmpge (tgt := 107) C dX6_of_100 (by decide) (fun c100 => ?_) (fun c100 => ?_)
                · have n100 := Int32.not_lt.mpr c100
                  refine r_iconst (v := 0) C dX6_of_107 rfl ?_
                  exact r_iret C dX6_of_108 rfl (by decide) ⟨by rw [← h2, if_neg n100], rfl, rfl⟩
                · have n100 := Int32.not_le.mp c100
                  refine r_iconst (v := 1) C dX6_of_103 rfl ?_
                  refine r_goto (tgt := 108) C dX6_of_104 (by decide) ?_
                  exact r_iret C dX6_of_108 rfl (by decide) ⟨by rw [← h2, if_pos n100], rfl, rfl⟩
              · skip
                by_cases h7 : o = 7
                · subst h7
                  refine r_swIn (tgt := 109) C dX6_of_1 (by decide) (by decide) rfl (by decide) ?_
                  have h2 : (if a = b then 1 else 0) = v := Option.some.inj h
                  refine r_iload_n C dX6_of_109 rfl rfl ?_
                  refine r_iload_n C dX6_of_110 rfl rfl ?_
                  refine r_icmpne (tgt := 118) C dX6_of_111 (by decide) (fun c111 => ?_) (fun c111 => ?_)
                  · refine r_iconst (v := 0) C dX6_of_118 rfl ?_
                    exact r_iret C dX6_of_119 rfl (by decide) ⟨by rw [← h2, if_neg c111], rfl, rfl⟩
                  · refine r_iconst (v := 1) C dX6_of_114 rfl ?_
                    refine r_goto (tgt := 119) C dX6_of_115 (by decide) ?_
                    exact r_iret C dX6_of_119 rfl (by decide) ⟨by rw [← h2, if_pos c111], rfl, rfl⟩
                · skip
                  by_cases h8 : o = 8
                  · subst h8
                    refine r_swIn (tgt := 120) C dX6_of_1 (by decide) (by decide) rfl (by decide) ?_
                    have h2 : (a &&& b) = v := Option.some.inj h
                    refine r_iload_n C dX6_of_120 rfl rfl ?_
                    refine r_iload_n C dX6_of_121 rfl rfl ?_
                    refine r_iand C dX6_of_122 ?_
                    exact r_iret C dX6_of_123 rfl (by decide) ⟨by rw [← h2], rfl, rfl⟩
                  · skip
                    by_cases h9 : o = 9
                    · subst h9
                      refine r_swIn (tgt := 124) C dX6_of_1 (by decide) (by decide) rfl (by decide) ?_
                      have h2 : (a ||| b) = v := Option.some.inj h
                      refine r_iload_n C dX6_of_124 rfl rfl ?_
                      refine r_iload_n C dX6_of_125 rfl rfl ?_
                      refine r_ior C dX6_of_126 ?_
                      exact r_iret C dX6_of_127 rfl (by decide) ⟨by rw [← h2], rfl, rfl⟩
                    · skip
                      by_cases h10 : o = 10
                      · subst h10
                        refine r_swIn (tgt := 128) C dX6_of_1 (by decide) (by decide) rfl (by decide) ?_
                        have h2 : (a <<< (b &&& 31)) = v := Option.some.inj h
                        refine r_iload_n C dX6_of_128 rfl rfl ?_
                        refine r_iload_n C dX6_of_129 rfl rfl ?_
                        refine r_bipush (v := 31) C dX6_of_130 rfl ?_
                        refine r_iand C dX6_of_132 ?_
                        refine r_ishl C dX6_of_133 ?_
                        exact r_iret C dX6_of_134 rfl (by decide) ⟨by rw [← h2, and31_31], rfl, rfl⟩
                      · skip
                        refine r_swOut (tgt := 135) C dX6_of_1 ?_ (by decide) ?_
                        · have q : ∀ (k : Int32) (a : Int), k.toInt = a → ¬ o = k → ¬ o.toInt = a := fun k a hk h => lv_neT h hk
                          have e0 := q 0 0 (by decide) h0
                          have e1 := q 1 1 (by decide) h1
                          have e2 := q 2 2 (by decide) h2
                          have e3 := q 3 3 (by decide) h3
                          have e4 := q 4 4 (by decide) h4
                          have e5 := q 5 5 (by decide) h5
                          have e6 := q 6 6 (by decide) h6
                          have e7 := q 7 7 (by decide) h7
                          have e8 := q 8 8 (by decide) h8
                          have e9 := q 9 9 (by decide) h9
                          have e10 := q 10 10 (by decide) h10
                          omega
                        · have h2 : a >>> (b &&& 31) = v := by
                            unfold opF at h
                            rw [if_neg h0, if_neg h1, if_neg h2, if_neg h3, if_neg h4, if_neg h5, if_neg h6, if_neg h7, if_neg h8, if_neg h9, if_neg h10] at h
                            exact Option.some.inj h
                          refine r_iload_n C dX6_of_135 rfl rfl ?_
                          refine r_iload_n C dX6_of_136 rfl rfl ?_
                          refine r_bipush (v := 31) C dX6_of_137 rfl ?_
                          refine r_iand C dX6_of_139 ?_
                          refine r_ishr C dX6_of_140 ?_
                          exact r_iret C dX6_of_141 rfl (by decide) ⟨by rw [← h2, and31_31], rfl, rfl⟩
