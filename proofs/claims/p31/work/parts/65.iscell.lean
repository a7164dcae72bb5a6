/-! ===== the law: isCell: printed by p65.py ===== -/
theorem rd_sub {σ : gSig} {o : Nat → Nat} (hK : shK σ o) {c : Nat} (hc : c < 16) : σ 7 3 c &&& (σ 7 4 c ^^^ (-1)) = 0 := by
  rw [mask_0]
  intro i hi
  rw [b_and, bt_not _ hi]
  cases h : bt (σ 7 3 c) i with
  | false => rfl
  | true => rw [rs_rd (hK.2.2.2.2.1 c hc) h]; rfl
theorem rs_self {σ : gSig} {o : Nat → Nat} (hK : shK σ o) (hlo : loK σ) {c : Nat} (hc : c < 16) : (σ 7 4 c >>> (nI c &&& 31)) &&& 1 = 0 := by
  rw [bt_sh0 (by omega)]
  cases h : bt (σ 7 4 c) c with
  | false => rfl
  | true => exact absurd (lo_rest hK hlo 16 c hc hc c h) (Nat.lt_irrefl c)
set_option maxRecDepth 100000 in
set_option maxHeartbeats 4000000 in
theorem c_isCell {l : Launch} {D : va_G} {ad : Nat → Nat → Nat} {aC : Nat → ClassId} (σ : gSig) (τ : gTau) (c : Nat) (hc : c < 16) (o : Nat → Nat) (hK : shK σ o) (hlo : loK σ) (hlv : lvK σ) : CT l D ad aC yL_isCell cL_isCell 5 (some .boolean) 9 12 [.ref (ad 0 0), .int (nI c)] σ τ (gEq (some (.int 1)) σ τ) (fun _ _ _ => False) := by
  refine CT.of (own := RL) (by decide +kernel) rfl (Nat.le_of_ble_eq_true rfl) (fun S C => ?_)
  have K := C.kx
  have j14 : S 1 σ τ 14 [some (.ref (ad 0 0)), some (.int (nI c)), none, none, none] [.int (b2i (bt (σ 13 0 6) c))] := by
    refine r_istore_n C dL_isCell_14 rfl (by decide) rfl ?_
    refine r_aload_n C dL_isCell_15 rfl rfl ?_
    refine r_iload_n C dL_isCell_16 rfl rfl ?_
    refine r_callT K dL_isCell_17 (v_isLocked σ τ c hc o hK.1) rfl ⟨by decide, by decide⟩ rfl rfl kB_X5_isLocked rfl kI_X5_isLocked kV_X5_isLocked kl_L_14 (by decide) (Nat.le_of_ble_eq_true rfl) (by omega) ?_
    rintro r9 σ' τ' ⟨rfl, rfl, rfl⟩
    refine r_istore_n C dL_isCell_20 rfl (by decide) rfl ?_
    refine r_aload_n C dL_isCell_21 rfl rfl ?_
    refine r_iload_n C dL_isCell_22 rfl rfl ?_
    refine r_callT K dL_isCell_23 (v_isLockedByWays σ τ c hc) rfl ⟨by decide, by decide⟩ rfl rfl kB_X5_isLockedByWays rfl kI_X5_isLockedByWays kV_X5_isLockedByWays kl_L_18 (by decide) (Nat.le_of_ble_eq_true rfl) (by omega) ?_
    rintro r9 σ' τ' ⟨rfl, rfl, rfl⟩
    rw [inv_ways hK hlv.2.1 hc]
    refine r_iload_n C dL_isCell_26 rfl rfl ?_
    refine r_icmpne (tgt := 58) C dL_isCell_27 (by decide) (fun c27 => ?_) (fun c27 => ?_)
    · exact absurd rfl c27
    · refine r_iload_n C dL_isCell_30 rfl rfl ?_
      have j54 : ∀ n, n ≤ 5 → S n σ τ 54 [some (.ref (ad 0 0)), some (.int (nI c)), some (.int (b2i (bt (σ 13 0 6) c))), some (.int (b2i (bt (lcC σ o) c))), none] [] := by
        intro n hn
        refine r_iconst (v := 1) C dL_isCell_54 rfl ?_
        refine r_goto (tgt := 59) C dL_isCell_55 (by decide) ?_
        refine r_istore C dL_isCell_59 (by decide) rfl ?_
        refine r_iload C dL_isCell_61 rfl ?_
        refine r_ifeq (tgt := 114) C dL_isCell_63 (by decide) (fun c63 => ?_) (fun c63 => ?_)
        · exact absurd c63 (by decide)
        · refine r_aload_n C dL_isCell_66 rfl rfl ?_
          refine r_iload_n C dL_isCell_67 rfl rfl ?_
          refine r_callT K dL_isCell_68 (v_failing σ τ c hc) rfl ⟨by decide, by decide⟩ rfl rfl kB_X5_failing rfl kI_X5_failing kV_X5_failing kl_L_24 (by decide) (Nat.le_of_ble_eq_true rfl) (by omega) ?_
          rintro r9 σ' τ' ⟨rfl, rfl, rfl⟩
          have j79 : S (n + 1) σ τ 79 [some (.ref (ad 0 0)), some (.int (nI c)), some (.int (b2i (bt (σ 13 0 6) c))), some (.int (b2i (bt (lcC σ o) c))), some (.int 1)] [.int (b2i (bt (σ 13 0 6) c))] := by
            refine r_iload_n C dL_isCell_79 rfl rfl ?_
            refine r_icmpne (tgt := 114) C dL_isCell_80 (by decide) (fun c80 => ?_) (fun c80 => ?_)
            · exact absurd rfl c80
            · refine r_aload_n C dL_isCell_83 rfl rfl ?_
              refine r_iload_n C dL_isCell_84 rfl rfl ?_
              refine r_callT K dL_isCell_85 (v_smaller σ τ c hc) rfl ⟨by decide, by decide⟩ rfl rfl kB_X5_smaller rfl kI_X5_smaller kV_X5_smaller kl_L_27 (by decide) (Nat.le_of_ble_eq_true rfl) (by omega) ?_
              rintro r9 σ' τ' ⟨rfl, rfl, rfl⟩
              have j96 : S (n + 2) σ τ 96 [some (.ref (ad 0 0)), some (.int (nI c)), some (.int (b2i (bt (σ 13 0 6) c))), some (.int (b2i (bt (lcC σ o) c))), some (.int 1)] [.int (b2i (bt (σ 13 0 6) c))] := by
                refine r_iload_n C dL_isCell_96 rfl rfl ?_
                refine r_icmpne (tgt := 114) C dL_isCell_97 (by decide) (fun c97 => ?_) (fun c97 => ?_)
                · exact absurd rfl c97
                · refine r_aload_n C dL_isCell_100 rfl rfl ?_
                  refine r_iload_n C dL_isCell_101 rfl rfl ?_
                  refine r_callT K dL_isCell_102 (v_smaller σ τ c hc) rfl ⟨by decide, by decide⟩ rfl rfl kB_X5_smaller rfl kI_X5_smaller kV_X5_smaller kl_L_27 (by decide) (Nat.le_of_ble_eq_true rfl) (by omega) ?_
                  rintro r9 σ' τ' ⟨rfl, rfl, rfl⟩
                  refine r_bipush (v := 60) C dL_isCell_105 rfl ?_
                  refine r_icmpgt (tgt := 114) C dL_isCell_107 (by decide) (fun c107 => ?_) (fun c107 => ?_)
                  · have n107 := Int32.not_le.mpr c107
                    exfalso
                    cases h : (bt (σ 13 0 6) c) with
                    | true =>
                      obtain ⟨-, t, ht, e2⟩ := hlv.2.2 c hc h
                      rw [h, e2] at c107
                      have := (nI_ltI (a := 60) (by decide) (by omega)).mp c107
                      omega
                    | false =>
                      rw [h] at c107
                      exact absurd (show (60 : Int32) < -1 from c107) (by decide)
                  · have n107 := Int32.not_lt.mp c107
                    refine r_iconst (v := 1) C dL_isCell_110 rfl ?_
                    refine r_goto (tgt := 115) C dL_isCell_111 (by decide) ?_
                    refine r_istore C dL_isCell_115 (by decide) rfl ?_
                    refine r_iload C dL_isCell_117 rfl ?_
                    refine r_ifeq (tgt := 154) C dL_isCell_119 (by decide) (fun c119 => ?_) (fun c119 => ?_)
                    · exact absurd c119 (by decide)
                    · refine r_aload_n C dL_isCell_122 rfl rfl ?_
                      refine r_iload_n C dL_isCell_123 rfl rfl ?_
                      refine r_callT K dL_isCell_124 (v_reads σ τ c hc) rfl ⟨by decide, by decide⟩ rfl rfl kB_X5_reads rfl kI_X5_reads kV_X5_reads kl_L_30 (by decide) (Nat.le_of_ble_eq_true rfl) (by omega) ?_
                      rintro r9 σ' τ' ⟨rfl, rfl, rfl⟩
                      refine r_aload_n C dL_isCell_127 rfl rfl ?_
                      refine r_iload_n C dL_isCell_128 rfl rfl ?_
                      refine r_callT K dL_isCell_129 (v_rests σ τ c hc) rfl ⟨by decide, by decide⟩ rfl rfl kB_X5_rests rfl kI_X5_rests kV_X5_rests kl_L_33 (by decide) (Nat.le_of_ble_eq_true rfl) (by omega) ?_
                      rintro r9 σ' τ' ⟨rfl, rfl, rfl⟩
                      refine r_iconst (v := (-1)) C dL_isCell_132 rfl ?_
                      refine r_ixor C dL_isCell_133 ?_
                      refine r_iand C dL_isCell_134 ?_
                      refine r_ifne (tgt := 154) C dL_isCell_135 (by decide) (fun c135 => ?_) (fun c135 => ?_)
                      · exact absurd (rd_sub hK hc) c135
                      · refine r_aload_n C dL_isCell_138 rfl rfl ?_
                        refine r_iload_n C dL_isCell_139 rfl rfl ?_
                        refine r_callT K dL_isCell_140 (v_rests σ τ c hc) rfl ⟨by decide, by decide⟩ rfl rfl kB_X5_rests rfl kI_X5_rests kV_X5_rests kl_L_33 (by decide) (Nat.le_of_ble_eq_true rfl) (by omega) ?_
                        rintro r9 σ' τ' ⟨rfl, rfl, rfl⟩
                        refine r_iload_n C dL_isCell_143 rfl rfl ?_
                        refine r_ishr C dL_isCell_144 ?_
                        refine r_iconst (v := 1) C dL_isCell_145 rfl ?_
                        refine r_iand C dL_isCell_146 ?_
                        refine r_ifne (tgt := 154) C dL_isCell_147 (by decide) (fun c147 => ?_) (fun c147 => ?_)
                        · exact absurd (rs_self hK hlo hc) c147
                        · refine r_iconst (v := 1) C dL_isCell_150 rfl ?_
                          refine r_goto (tgt := 155) C dL_isCell_151 (by decide) ?_
                          exact r_zret C dL_isCell_155 rfl (by omega) (by decide) ⟨rfl, rfl, rfl⟩
              refine r_iflt (tgt := 95) C dL_isCell_88 (by decide) (fun c88 => ?_) (fun c88 => ?_)
              · have hF : (bt (σ 13 0 6) c) = false := by
                  cases h : (bt (σ 13 0 6) c) with
                  | false => rfl
                  | true =>
                    exfalso
                    obtain ⟨⟨p, hp, e⟩, t, ht, e2⟩ := hlv.2.2 c hc h
                    rw [h, e2] at c88
                    exact absurd c88 (nI_pos (by omega))
                refine r_iconst (v := 0) C dL_isCell_95 rfl ?_
                exact r_swk j96 rfl rfl rfl (by rw [hF]; rfl)
              · have hF : (bt (σ 13 0 6) c) = true := by
                  cases h : (bt (σ 13 0 6) c) with
                  | true => rfl
                  | false =>
                    exfalso
                    rw [h] at c88
                    exact absurd (show (-1 : Int32) < 0 by decide) c88
                refine r_iconst (v := 1) C dL_isCell_91 rfl ?_
                refine r_goto (tgt := 96) C dL_isCell_92 (by decide) ?_
                exact r_swk j96 rfl rfl rfl (by rw [hF]; rfl)
          refine r_iflt (tgt := 78) C dL_isCell_71 (by decide) (fun c71 => ?_) (fun c71 => ?_)
          · have hF : (bt (σ 13 0 6) c) = false := by
              cases h : (bt (σ 13 0 6) c) with
              | false => rfl
              | true =>
                exfalso
                obtain ⟨⟨p, hp, e⟩, t, ht, e2⟩ := hlv.2.2 c hc h
                rw [h, e] at c71
                exact absurd c71 (nI_pos (by omega))
            refine r_iconst (v := 0) C dL_isCell_78 rfl ?_
            exact r_swk j79 rfl rfl rfl (by rw [hF]; rfl)
          · have hF : (bt (σ 13 0 6) c) = true := by
              cases h : (bt (σ 13 0 6) c) with
              | true => rfl
              | false =>
                exfalso
                rw [h] at c71
                exact absurd (show (-1 : Int32) < 0 by decide) c71
            refine r_iconst (v := 1) C dL_isCell_74 rfl ?_
            refine r_goto (tgt := 79) C dL_isCell_75 (by decide) ?_
            exact r_swk j79 rfl rfl rfl (by rw [hF]; rfl)
      have j42 : ∀ n, n ≤ 4 → S n σ τ 42 [some (.ref (ad 0 0)), some (.int (nI c)), some (.int (b2i (bt (σ 13 0 6) c))), some (.int (b2i (bt (lcC σ o) c))), none] [] := by
        intro n hn
        refine r_iload_n C dL_isCell_42 rfl rfl ?_
        refine r_ifeq (tgt := 54) C dL_isCell_43 (by decide) (fun c43 => ?_) (fun c43 => ?_)
        · exact j54 _ (by omega)
        · have hF : (bt (σ 13 0 6) c) = true := b2i_n.mp c43
          refine r_aload_n C dL_isCell_46 rfl rfl ?_
          refine r_iload_n C dL_isCell_47 rfl rfl ?_
          refine r_callT K dL_isCell_48 (v_isMarked σ τ c hc) rfl ⟨by decide, by decide⟩ rfl rfl kB_X5_isMarked rfl kI_X5_isMarked kV_X5_isMarked kl_L_21 (by decide) (Nat.le_of_ble_eq_true rfl) (by omega) ?_
          rintro r9 σ' τ' ⟨rfl, rfl, rfl⟩
          refine r_ifeq (tgt := 58) C dL_isCell_51 (by decide) (fun c51 => ?_) (fun c51 => ?_)
          · rw [fl_mark hK hc hF] at c51
            exact absurd c51 (by decide)
          · exact j54 _ (by omega)
      refine r_ifeq (tgt := 42) C dL_isCell_31 (by decide) (fun c31 => ?_) (fun c31 => ?_)
      · exact j42 _ (by omega)
      · have hL : (bt (lcC σ o) c) = true := b2i_n.mp c31
        refine r_aload_n C dL_isCell_34 rfl rfl ?_
        refine r_iload_n C dL_isCell_35 rfl rfl ?_
        refine r_callT K dL_isCell_36 (v_isMarked σ τ c hc) rfl ⟨by decide, by decide⟩ rfl rfl kB_X5_isMarked rfl kI_X5_isMarked kV_X5_isMarked kl_L_21 (by decide) (Nat.le_of_ble_eq_true rfl) (by omega) ?_
        rintro r9 σ' τ' ⟨rfl, rfl, rfl⟩
        refine r_ifeq (tgt := 58) C dL_isCell_39 (by decide) (fun c39 => ?_) (fun c39 => ?_)
        · rw [lk_mark hK hlo 16 c hc hc hL] at c39
          exact absurd c39 (by decide)
        · exact j42 _ (by omega)
  refine r_aload_n C dL_isCell_0 rfl rfl ?_
  refine r_iload_n C dL_isCell_1 rfl rfl ?_
  refine r_callT K dL_isCell_2 (v_verdict σ τ c hc) rfl ⟨by decide, by decide⟩ rfl rfl kB_X5_verdict rfl kI_X5_verdict kV_X5_verdict kl_L_8 (by decide) (Nat.le_of_ble_eq_true rfl) (by omega) ?_
  rintro r9 σ' τ' ⟨rfl, rfl, rfl⟩
  refine r_iconst (v := 2) C dL_isCell_5 rfl ?_
  refine r_icmpne (tgt := 13) C dL_isCell_6 (by decide) (fun c6 => ?_) (fun c6 => ?_)
  · have hF : (bt (σ 13 0 6) c) = false := by
      cases h : (bt (σ 13 0 6) c) with
      | false => rfl
      | true => exact absurd ((ve_2 σ c).mpr h) c6
    refine r_iconst (v := 0) C dL_isCell_13 rfl ?_
    exact r_swk j14 rfl rfl rfl (by rw [hF]; rfl)
  · have hF : (bt (σ 13 0 6) c) = true := (ve_2 σ c).mp c6
    refine r_iconst (v := 1) C dL_isCell_9 rfl ?_
    refine r_goto (tgt := 14) C dL_isCell_10 (by decide) ?_
    exact r_swk j14 rfl rfl rfl (by rw [hF]; rfl)
theorem v_isCell {l : Launch} {D : va_G} {ad : Nat → Nat → Nat} {aC : Nat → ClassId} (σ : gSig) (τ : gTau) (c : Nat) (hc : c < 16) (o : Nat → Nat) (hK : shK σ o) (hlo : loK σ) (hlv : lvK σ) : VT l D ad aC yL_isCell cL_isCell 5 (some .boolean) 9 12 [.ref (ad 0 0), .int (nI c)] σ τ (gEq (some (.int 1)) σ τ) := ⟨_, _, c_isCell σ τ c hc o hK hlo hlv, fun _ _ _ h => h, fun _ _ _ h => h⟩
