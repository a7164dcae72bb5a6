/-! ===== the law's model: what is unlocked, marks: printed by g45.py ===== -/
/-- the model behind a walk over readers: their row, what is unlocked, how many -/
def ulS (σ : gSig) (g u : Nat → Int32) (w : Nat) : gSig := up3 (upR (upR σ 20 24 g) 20 18 u) 19 0 22 (nI w)
theorem ulS_g (σ : gSig) (g u : Nat → Int32) (w j : Nat) (y : Int32) : up3 (ulS σ g u w) 20 24 j y = ulS σ (upd g j y) u w := by
  unfold ulS
  rw [up3_cm _ _ _ _ _ _ _ _ _ (by simp), up3_swap _ _ _ _ _ _ _ _ (by decide)]
theorem ulS_u (σ : gSig) (g u : Nat → Int32) (w w' j : Nat) (y : Int32) : up3 (up3 (ulS σ g u w) 20 18 j y) 19 0 22 (nI w') = ulS σ g (upd u j y) w' := by
  unfold ulS
  rw [up3_cm _ _ _ _ _ _ _ _ _ (by simp), up3_up3, up3_cm _ _ _ _ _ _ _ _ _ (by simp), up3_upR]
theorem ulS_0 (σ : gSig) (y : Int32) : up3 (up3 σ 19 0 22 0) 20 24 0 y = ulS σ (upd (σ 20 24) 0 y) (σ 20 18) 0 := by
  unfold ulS
  rw [up3_cm _ _ _ _ _ _ _ _ _ (by simp), up3_eq σ 20 24 0 y]
  congr 1
  have e : σ 20 18 = (upR σ 20 24 (upd (σ 20 24) 0 y)) 20 18 := (upR_ne _ _ _ _ (by simp)).symm
  rw [e]
  exact (upR_id _ _ _).symm
theorem ulS_24 (σ : gSig) (g u : Nat → Int32) (w : Nat) : ulS σ g u w 20 24 = g := by
  unfold ulS
  rw [up3_ne _ _ _ _ _ (by simp), upR_ne _ _ _ _ (by simp), upR_self]
theorem ulS_18 (σ : gSig) (g u : Nat → Int32) (w : Nat) : ulS σ g u w 20 18 = u := by
  unfold ulS
  rw [up3_ne _ _ _ _ _ (by simp), upR_self]
theorem ulS_n (σ : gSig) (g u : Nat → Int32) (w : Nat) : ulS σ g u w 19 0 22 = nI w := by
  unfold ulS
  simp [up3_at]
theorem ulS_ne (σ : gSig) (g u : Nat → Int32) (w r : Nat) (h : r ≠ 18 ∧ r ≠ 24) : ulS σ g u w 20 r = σ 20 r := by
  unfold ulS
  rw [up3_ne _ _ _ _ _ (by simp), upR_ne _ _ _ _ (fun q => h.1 (congrArg Prod.snd q)), upR_ne _ _ _ _ (fun q => h.2 (congrArg Prod.snd q))]
theorem ulS_mR (σ : gSig) (g u : Nat → Int32) (w : Nat) : mR (ulS σ g u w) = mR σ := mR_eq (ulS_ne _ _ _ _ _ (by decide)) (ulS_ne _ _ _ _ _ (by decide)) (ulS_ne _ _ _ _ _ (by decide))
theorem ulS_msK {σ : gSig} (g u : Nat → Int32) (w : Nat) {c : Nat} (h : msK σ c) : msK (ulS σ g u w) c := msK_eq (ulS_ne _ _ _ _ _ (by decide)) (ulS_ne _ _ _ _ _ (by decide)) (ulS_ne _ _ _ _ _ (by decide)) h
theorem inB_pre (rd : Nat → Int32) (x : Nat) (ρ : List Nat) : ∀ j, ∃ t, inB rd x ρ j = ρ ++ t
  | 0 => ⟨[], (List.append_nil _).symm⟩
  | j + 1 => by
    obtain ⟨t, ht⟩ := inB_pre rd x ρ j
    by_cases h : bt (rd j) x = true ∧ ¬ j ∈ inB rd x ρ j
    · exact ⟨t ++ [j], by rw [inB_t h.1 h.2, ht, List.append_assoc]⟩
    · exact ⟨t, (if_neg h).trans ht⟩
theorem tk_s {ρ : List Nat} {i x : Nat} (h : ρ[i]? = some x) : ρ.take (i + 1) = ρ.take i ++ [x] := by
  obtain ⟨hl, e⟩ := List.getElem?_eq_some_iff.mp h
  rw [List.take_add_one, h]
  rfl
theorem inB_take (rd : Nat → Int32) (x : Nat) (ρ : List Nat) {i : Nat} (h : i ≤ ρ.length) (j : Nat) : (inB rd x ρ j).take i = ρ.take i := by
  obtain ⟨t, ht⟩ := inB_pre rd x ρ j
  rw [ht, List.take_append_of_le_length h]
set_option maxRecDepth 100000 in
set_option maxHeartbeats 1000000 in
theorem m_unlocks {l : Launch} {D : va_G} {ad : Nat → Nat → Nat} {aC : Nat → ClassId} (σ : gSig) (τ : gTau) (cell : Nat) (ahead fl wv : Int32) (o : Nat → Nat) (hc : cell < 16) (hL : mLK σ fl wv o) : CZ l D ad aC yX6_unlocks cX6_unlocks 9 none 2 [.ref (ad 19 0), .int (nI cell), .int ahead] σ τ (fun r σ' τ' => ∃ g u, none = r ∧ ulS σ g u (unL (mR σ) cell (ahead &&& ((lkF (mR σ) fl wv o 16) ^^^ (-1)))).length = σ' ∧ τ = τ' ∧ onL u (unL (mR σ) cell (ahead &&& ((lkF (mR σ) fl wv o 16) ^^^ (-1))))) := by
  refine CZ.of (own := RX6) (by decide +kernel) rfl (Nat.le_of_ble_eq_true rfl) (fun S C => ?_)
  refine r_iload_n C dX6_unlocks_0 rfl rfl ?_
  refine r_aload_n C dX6_unlocks_1 rfl rfl ?_
  refine r_callV C dX6_unlocks_2 (m_locksK σ τ fl wv o hL) rfl ⟨by decide, by decide⟩ rfl rfl kB_X6_locks rfl kI_X6_locks kV_X6_locks kl_X6_150 (by decide) (Nat.le_of_ble_eq_true rfl) (by decide) ?_
  rintro r9 σ' τ' ⟨rfl, rfl, rfl⟩
  refine r_iconst (v := (-1)) C dX6_unlocks_5 rfl ?_
  refine r_ixor C dX6_unlocks_6 ?_
  refine r_iand C dX6_unlocks_7 ?_
  refine r_istore_n C dX6_unlocks_8 rfl (by decide) rfl ?_
  refine r_iconst (v := 1) C dX6_unlocks_9 rfl ?_
  refine r_iload_n C dX6_unlocks_10 rfl rfl ?_
  refine r_ishl C dX6_unlocks_11 ?_
  refine r_istore C dX6_unlocks_12 (by decide) rfl ?_
  refine r_iconst (v := 1) C dX6_unlocks_14 rfl ?_
  refine r_istore C dX6_unlocks_15 (by decide) rfl ?_
  refine r_aload_n C dX6_unlocks_17 rfl rfl ?_
  refine r_iconst (v := 0) C dX6_unlocks_18 rfl ?_
  refine r_put (f := 22) C dX6_unlocks_19 ⟨by decide, by decide⟩ rfl rfl kU6 tyX6 tyX6_ok nmX6 (by decide) kf_X6_154 rfl rfl (by decide +kernel) (Nat.le_of_ble_eq_true rfl) (by simp [cel, up3]) ?_
  refine r_aload_n C dX6_unlocks_22 rfl rfl ?_
  refine r_get (f := 29) C dX6_unlocks_23 ⟨by decide, by decide⟩ rfl rfl kU6 (by decide) kf_X6_83 rfl rfl ?_
  refine r_iconst (v := 0) C dX6_unlocks_26 rfl ?_
  refine r_iload_n C dX6_unlocks_27 rfl rfl ?_
  refine r_iastv C dX6_unlocks_28 ⟨by decide, by decide⟩ (fun _ => rfl) (vp_in_nI (n := 0) (by decide) (by decide)) (j := 0) rfl ?_
  rw [ulS_0]
  refine r_iconst (v := 0) C dX6_unlocks_29 rfl ?_
  refine r_istore C dX6_unlocks_30 (by decide) rfl ?_
  have lp1 : ∀ m i, i ≤ 16 → 16 - i < m → ∀ (ρ U : List Nat) (g u : Nat → Int32) (P : Int32), onL g ρ → rwL P ρ → bfs (mR σ) 16 0 [cell] = bfs (mR σ) (16 - i) i ρ → i ≤ ρ.length → U = ((ρ.take i).filter (fun x => bt (ahead &&& ((lkF (mR σ) fl wv o 16) ^^^ (-1))) x)) → onL u U → S 0 (ulS σ g u U.length) τ 32 [some (.ref (ad 19 0)), some (.int (nI cell)), some (.int ahead), some (.int (ahead &&& ((lkF (mR σ) fl wv o 16) ^^^ (-1)))), some (.int P), some (.int (nI ρ.length)), some (.int (nI i)), none, none] [] := by
    intro m
    induction m with
    | zero => intro i _ hm; omega
    | succ m ih1 =>
      intro i hi hm ρ U g u P hg hP hb hiρ hU hu
      have hlen := nodup_len hP.1 hP.2.1
      refine r_iload C dX6_unlocks_32 rfl ?_
      refine r_iload C dX6_unlocks_34 rfl ?_
      refine r_icmpge (tgt := 147) C dX6_unlocks_36 (by decide) (fun c36 => ?_) (fun c36 => ?_)
      · have n36 := Int32.not_lt.mpr c36
        have hil : ρ.length ≤ i := (nI_leI (by omega) (by omega)).mp c36
        have hres : bfs (mR σ) 16 0 [cell] = ρ := by rw [hb, bfs_end (List.getElem?_eq_none hil)]
        have hun : unL (mR σ) cell (ahead &&& ((lkF (mR σ) fl wv o 16) ^^^ (-1))) = U := by
          unfold unL
          rw [hres, hU, List.take_of_length_le hil]
        exact r_ret C dX6_unlocks_147 rfl (by decide) ⟨g, u, rfl, by rw [hun], rfl, by rw [hun]; exact hu⟩
      · have n36 := Int32.not_le.mp c36
        have hil : i < ρ.length := (nI_ltI (by omega) (by omega)).mp n36
        obtain ⟨kz, hkz⟩ : ∃ z, 16 - i = z + 1 := ⟨16 - i - 1, by omega⟩
        have hkz2 : kz = 16 - (i + 1) := by omega
        have hxi : ρ[i]? = some ρ[i] := List.getElem?_eq_getElem hil
        generalize ρ[i] = x at hxi
        have hx16 : x < 16 := hP.2.1 x (List.mem_of_getElem? hxi)
        have hbx : bfs (mR σ) 16 0 [cell] = bfs (mR σ) (16 - (i + 1)) (i + 1) (inB (mR σ) x ρ 16) := by rw [hb, hkz, bfs_go hxi, hkz2]
        have hUl : U.length ≤ i := by
          rw [hU]
          exact Nat.le_trans (List.length_filter_le _ _) (by rw [List.length_take]; omega)
        have j79 : ∀ (U2 : List Nat) (u2 : Nat → Int32), U2 = ((ρ.take (i + 1)).filter (fun x => bt (ahead &&& ((lkF (mR σ) fl wv o 16) ^^^ (-1))) x)) → onL u2 U2 → S 0 (ulS σ g u2 U2.length) τ 79 [some (.ref (ad 19 0)), some (.int (nI cell)), some (.int ahead), some (.int (ahead &&& ((lkF (mR σ) fl wv o 16) ^^^ (-1)))), some (.int P), some (.int (nI ρ.length)), some (.int (nI i)), some (.int (nI x)), none] [] := by
          intro U2 u2 hU2 hu2
          refine r_iconst (v := 0) C dX6_unlocks_79 rfl ?_
          refine r_istore C dX6_unlocks_80 (by decide) rfl ?_
          have lp2 : ∀ m j, j ≤ 16 → 16 - j < m → ∀ (g2 : Nat → Int32) (P2 : Int32), onL g2 (inB (mR σ) x ρ j) → rwL P2 (inB (mR σ) x ρ j) → S 0 (ulS σ g2 u2 U2.length) τ 82 [some (.ref (ad 19 0)), some (.int (nI cell)), some (.int ahead), some (.int (ahead &&& ((lkF (mR σ) fl wv o 16) ^^^ (-1)))), some (.int P2), some (.int (nI (inB (mR σ) x ρ j).length)), some (.int (nI i)), some (.int (nI x)), some (.int (nI j))] [] := by
            intro m
            induction m with
            | zero => intro j _ hm; omega
            | succ m ih2 =>
              intro j hj hm g2 P2 hg2 hP2
              have hlen2 := nodup_len hP2.1 hP2.2.1
              refine r_iload C dX6_unlocks_82 rfl ?_
              refine r_bipush (v := 16) C dX6_unlocks_84 rfl ?_
              refine r_icmpge (tgt := 141) C dX6_unlocks_86 (by decide) (fun c86 => ?_) (fun c86 => ?_)
              · have n86 := Int32.not_lt.mpr c86
                have hj16 : j = 16 := by
                  have := (nI_leI (a := 16) (by omega) (by omega)).mp c86
                  omega
                subst hj16
                have hb2 := hbx
                have hil2 : i + 1 ≤ (inB (mR σ) x ρ 16).length := by
                  obtain ⟨t, ht⟩ := inB_pre (mR σ) x ρ 16
                  rw [ht, List.length_append]
                  omega
                have hU3 : U2 = (((inB (mR σ) x ρ 16).take (i + 1)).filter (fun x => bt (ahead &&& ((lkF (mR σ) fl wv o 16) ^^^ (-1))) x)) := by rw [inB_take _ _ _ (by omega)]; exact hU2
                refine r_iinc C dX6_unlocks_141 rfl rfl (by decide) rfl ?_
                refine r_goto (tgt := 32) C dX6_unlocks_144 (by decide) ?_
                refine r_drop C [7, 8] ?_
                exact r_swk (ih1 (i + 1) (by omega) (by omega) _ U2 _ _ _ hg2 hP2 hb2 hil2 hU3 hu2) rfl rfl (by rw [← nI_p1]; rfl) rfl
              · have n86 := Int32.not_le.mp c86
                have hjl : j < 16 := (nI_ltI (b := 16) (by omega) (by omega)).mp n86
                refine r_aload_n C dX6_unlocks_89 rfl rfl ?_
                refine r_iload C dX6_unlocks_90 rfl ?_
                refine r_callV C dX6_unlocks_92 (m_readBy (ulS σ g2 u2 U2.length) τ j hjl (ulS_msK _ _ _ (hL.2.1 j hjl))) rfl ⟨by decide, by decide⟩ rfl rfl kB_X6_readBy rfl kI_X6_readBy kV_X6_readBy kl_X6_108 (by decide) (Nat.le_of_ble_eq_true rfl) (by decide) ?_
                rintro r9 σ' τ' ⟨rfl, rfl, rfl⟩
                rw [ulS_mR]
                refine r_iload C dX6_unlocks_95 rfl ?_
                refine r_ishr C dX6_unlocks_97 ?_
                refine r_iconst (v := 1) C dX6_unlocks_98 rfl ?_
                refine r_iand C dX6_unlocks_99 ?_
                refine r_iconst (v := 1) C dX6_unlocks_100 rfl ?_
                refine r_icmpne (tgt := 135) C dX6_unlocks_101 (by decide) (fun c101 => ?_) (fun c101 => ?_)
                · have h101 : bt (mR σ j) x = false := by
                    cases hb9 : bt (mR σ j) x with
                    | false => rfl
                    | true => exact absurd ((bt_sh1 (by omega) _).mpr hb9) c101
                  have hin := inB_f (ρ := ρ) (x := x) (rd := (mR σ)) (j := j) (Or.inl h101)
                  have hg3 : onL g2 (inB (mR σ) x ρ (j + 1)) := by rw [hin]; exact hg2
                  have hP3 : rwL P2 (inB (mR σ) x ρ (j + 1)) := by rw [hin]; exact hP2
                  have hL3 : [some (.ref (ad 19 0)), some (Value.int (nI cell)), some (.int ahead), some (.int (ahead &&& ((lkF (mR σ) fl wv o 16) ^^^ (-1)))), some (.int P2), some (.int (nI (inB (mR σ) x ρ (j + 1)).length)), some (.int (nI i)), some (.int (nI x)), some (.int (nI (j + 1)))] = [some (.ref (ad 19 0)), some (Value.int (nI cell)), some (.int ahead), some (.int (ahead &&& ((lkF (mR σ) fl wv o 16) ^^^ (-1)))), some (.int P2), some (.int (nI (inB (mR σ) x ρ j).length)), some (.int (nI i)), some (.int (nI x)), some (.int (nI j + Int32.ofInt 1))] := by rw [hin, ← nI_p1 j]
                  refine r_iinc C dX6_unlocks_135 rfl rfl (by decide) rfl ?_
                  refine r_goto (tgt := 82) C dX6_unlocks_138 (by decide) ?_
                  exact r_swk (ih2 (j + 1) (by omega) (by omega) _ _ hg3 hP3) rfl rfl hL3 rfl
                · have h101 : bt (mR σ j) x = true := (bt_sh1 (by omega) _).mp c101
                  refine r_iload C dX6_unlocks_104 rfl ?_
                  refine r_iload C dX6_unlocks_106 rfl ?_
                  refine r_ishr C dX6_unlocks_108 ?_
                  refine r_iconst (v := 1) C dX6_unlocks_109 rfl ?_
                  refine r_iand C dX6_unlocks_110 ?_
                  refine r_ifne (tgt := 135) C dX6_unlocks_111 (by decide) (fun c111 => ?_) (fun c111 => ?_)
                  · have h111 : bt P2 j = true := by
                      cases hb9 : bt P2 j with
                      | true => rfl
                      | false => exact absurd ((bt_sh0 (by omega) _).mpr hb9) c111
                    have hin := inB_f (ρ := ρ) (x := x) (rd := (mR σ)) (j := j) (Or.inr ((hP2.2.2 j hjl).mp h111))
                    have hg3 : onL g2 (inB (mR σ) x ρ (j + 1)) := by rw [hin]; exact hg2
                    have hP3 : rwL P2 (inB (mR σ) x ρ (j + 1)) := by rw [hin]; exact hP2
                    have hL3 : [some (.ref (ad 19 0)), some (Value.int (nI cell)), some (.int ahead), some (.int (ahead &&& ((lkF (mR σ) fl wv o 16) ^^^ (-1)))), some (.int P2), some (.int (nI (inB (mR σ) x ρ (j + 1)).length)), some (.int (nI i)), some (.int (nI x)), some (.int (nI (j + 1)))] = [some (.ref (ad 19 0)), some (Value.int (nI cell)), some (.int ahead), some (.int (ahead &&& ((lkF (mR σ) fl wv o 16) ^^^ (-1)))), some (.int P2), some (.int (nI (inB (mR σ) x ρ j).length)), some (.int (nI i)), some (.int (nI x)), some (.int (nI j + Int32.ofInt 1))] := by rw [hin, ← nI_p1 j]
                    refine r_iinc C dX6_unlocks_135 rfl rfl (by decide) rfl ?_
                    refine r_goto (tgt := 82) C dX6_unlocks_138 (by decide) ?_
                    exact r_swk (ih2 (j + 1) (by omega) (by omega) _ _ hg3 hP3) rfl rfl hL3 rfl
                  · have h111 : bt P2 j = false := (bt_sh0 (by omega) _).mp c111
                    have hnin : ¬ j ∈ inB (mR σ) x ρ j := fun q => by rw [(hP2.2.2 j hjl).mpr q] at h111; cases h111
                    have hin := inB_t (ρ := ρ) (x := x) (rd := (mR σ)) (j := j) h101 hnin
                    have hP3 : rwL (P2 ||| b1 j) (inB (mR σ) x ρ (j + 1)) := by rw [hin]; exact rwL_push hP2 hjl hnin
                    have hcl : (inB (mR σ) x ρ j).length < 16 := by
                      have := nodup_len hP3.1 hP3.2.1
                      rw [hin, List.length_append, List.length_singleton] at this
                      omega
                    refine r_iload C dX6_unlocks_114 rfl ?_
                    refine r_iconst (v := 1) C dX6_unlocks_116 rfl ?_
                    refine r_iload C dX6_unlocks_117 rfl ?_
                    refine r_ishl C dX6_unlocks_119 ?_
                    refine r_ior C dX6_unlocks_120 ?_
                    refine r_istore C dX6_unlocks_121 (by decide) rfl ?_
                    refine r_aload_n C dX6_unlocks_123 rfl rfl ?_
                    refine r_get (f := 29) C dX6_unlocks_124 ⟨by decide, by decide⟩ rfl rfl kU6 (by decide) kf_X6_83 rfl rfl ?_
                    refine r_iload C dX6_unlocks_127 rfl ?_
                    refine r_iload C dX6_unlocks_129 rfl ?_
                    refine r_iastv C dX6_unlocks_131 ⟨by decide, by decide⟩ (fun _ => rfl) (vp_in_nI hcl (by decide)) (nI_clamp (by omega)) ?_
                    rw [ulS_g]
                    have hg3 : onL (upd g2 (inB (mR σ) x ρ j).length (nI j)) (inB (mR σ) x ρ (j + 1)) := by rw [hin]; exact onL_push hg2 j
                    have hL3 : [some (.ref (ad 19 0)), some (Value.int (nI cell)), some (.int ahead), some (.int (ahead &&& ((lkF (mR σ) fl wv o 16) ^^^ (-1)))), some (.int (P2 ||| b1 j)), some (.int (nI (inB (mR σ) x ρ (j + 1)).length)), some (.int (nI i)), some (.int (nI x)), some (.int (nI (j + 1)))] = [some (.ref (ad 19 0)), some (Value.int (nI cell)), some (.int ahead), some (.int (ahead &&& ((lkF (mR σ) fl wv o 16) ^^^ (-1)))), some (.int (P2 ||| b1 j)), some (.int (nI (inB (mR σ) x ρ j).length + Int32.ofInt 1)), some (.int (nI i)), some (.int (nI x)), some (.int (nI j + Int32.ofInt 1))] := by
                      rw [hin, List.length_append, List.length_singleton, ← nI_p1 j, ← nI_p1 (inB (mR σ) x ρ j).length]
                    refine r_iinc C dX6_unlocks_132 rfl rfl (by decide) rfl ?_
                    refine r_iinc C dX6_unlocks_135 rfl rfl (by decide) rfl ?_
                    refine r_goto (tgt := 82) C dX6_unlocks_138 (by decide) ?_
                    exact r_swk (ih2 (j + 1) (by omega) (by omega) _ _ hg3 hP3) rfl rfl hL3 rfl
          exact lp2 17 0 (by omega) (by omega) g P hg hP
        refine r_aload_n C dX6_unlocks_39 rfl rfl ?_
        refine r_get (f := 29) C dX6_unlocks_40 ⟨by decide, by decide⟩ rfl rfl kU6 (by decide) kf_X6_83 rfl rfl ?_
        refine r_iload C dX6_unlocks_43 rfl ?_
        refine r_ialdv (v := nI x) C dX6_unlocks_45 ⟨by decide, by decide⟩ rfl (vp_in_nI (show i < 16 by omega) (by decide)) (by rw [nI_clamp (by omega), ulS_24]; exact hg i x hxi) ?_
        refine r_istore C dX6_unlocks_46 (by decide) rfl ?_
        refine r_iload_n C dX6_unlocks_48 rfl rfl ?_
        refine r_iload C dX6_unlocks_49 rfl ?_
        refine r_ishr C dX6_unlocks_51 ?_
        refine r_iconst (v := 1) C dX6_unlocks_52 rfl ?_
        refine r_iand C dX6_unlocks_53 ?_
        refine r_iconst (v := 1) C dX6_unlocks_54 rfl ?_
        refine r_icmpne (tgt := 79) C dX6_unlocks_55 (by decide) (fun c55 => ?_) (fun c55 => ?_)
        · have h55 : bt (ahead &&& ((lkF (mR σ) fl wv o 16) ^^^ (-1))) x = false := by
            cases hb9 : bt (ahead &&& ((lkF (mR σ) fl wv o 16) ^^^ (-1))) x with
            | false => rfl
            | true => exact absurd ((bt_sh1 (by omega) _).mpr hb9) c55
          have hU2 : U = ((ρ.take (i + 1)).filter (fun x => bt (ahead &&& ((lkF (mR σ) fl wv o 16) ^^^ (-1))) x)) := by
            rw [tk_s hxi, List.filter_append, hU, List.filter_cons_of_neg (by rw [h55]; decide), List.filter_nil, List.append_nil]
          have hu2 := hu
          exact j79 _ _ hU2 hu2
        · have h55 : bt (ahead &&& ((lkF (mR σ) fl wv o 16) ^^^ (-1))) x = true := (bt_sh1 (by omega) _).mp c55
          have hU2 : U ++ [x] = ((ρ.take (i + 1)).filter (fun x => bt (ahead &&& ((lkF (mR σ) fl wv o 16) ^^^ (-1))) x)) := by
            rw [tk_s hxi, List.filter_append, hU, List.filter_cons_of_pos h55, List.filter_nil]
          have hu2 := onL_push hu x
          refine r_aload_n C dX6_unlocks_58 rfl rfl ?_
          refine r_get (f := 23) C dX6_unlocks_59 ⟨by decide, by decide⟩ rfl rfl kU6 (by decide) kf_X6_64 rfl rfl ?_
          refine r_aload_n C dX6_unlocks_62 rfl rfl ?_
          refine r_get (f := 22) (v := .int (nI U.length)) C dX6_unlocks_63 ⟨by decide, by decide⟩ rfl rfl kU6 (by decide) kf_X6_154 rfl (by rw [← ulS_n σ g u U.length]; rfl) ?_
          refine r_iload C dX6_unlocks_66 rfl ?_
          refine r_iastv C dX6_unlocks_68 ⟨by decide, by decide⟩ (fun _ => rfl) (vp_in_nI (show U.length < 16 by omega) (by decide)) (nI_clamp (by omega)) ?_
          refine r_aload_n C dX6_unlocks_69 rfl rfl ?_
          refine r_dup C dX6_unlocks_70 rfl ?_
          refine r_get (f := 22) (v := .int (nI U.length)) C dX6_unlocks_71 ⟨by decide, by decide⟩ rfl rfl kU6 (by decide) kf_X6_154 rfl (by rw [← ulS_n σ g u U.length]; simp [up3_at]) ?_
          refine r_iconst (v := 1) C dX6_unlocks_74 rfl ?_
          refine r_iadd C dX6_unlocks_75 ?_
          rw [nI_1]
          refine r_put (f := 22) C dX6_unlocks_76 ⟨by decide, by decide⟩ rfl rfl kU6 tyX6 tyX6_ok nmX6 (by decide) kf_X6_154 rfl rfl (by decide +kernel) (Nat.le_of_ble_eq_true rfl) (by simp [cel, up3]) ?_
          rw [ulS_u, show U.length + 1 = (U ++ [x]).length from by rw [List.length_append]; rfl]
          exact j79 _ _ hU2 hu2
  refine r_swk (lp1 17 0 (by omega) (by omega) [cell] [] (upd (σ 20 24) 0 (nI cell)) (σ 20 18) (b1 cell) ?_ ?_ rfl (by simp) rfl (fun j x h => by simp at h)) rfl rfl rfl rfl
  · have := onL_push (g := σ 20 24) (ρ := []) (fun j x h => by simp at h) cell
    exact this
  · have := rwL_push (P := 0) (ρ := []) ⟨List.nodup_nil, fun x h => by simp at h, fun c hc => by rw [b_0]; simp⟩ hc (by simp)
    rw [show (0 : Int32) ||| b1 cell = b1 cell from b_ext (fun i _ => by rw [b_or, b_0, Bool.false_or])] at this
    exact this
def mkB (σ : gSig) (c i : Nat) : Bool := (decide (i = c) || bt (clR (mR σ) (mR σ c) 16) i) && decide (σ 20 12 i = 2)
theorem mkB_t (σ : gSig) (c n : Nat) (h : mkB σ c n = true) : anyB (mkB σ c) (n + 1) = true := by
  unfold anyB
  rw [h, Bool.or_true]
theorem mkB_l (σ : gSig) (c n : Nat) (h : anyB (mkB σ c) n = true) : anyB (mkB σ c) (n + 1) = true := by
  unfold anyB
  rw [h, Bool.true_or]
theorem mkB_f (σ : gSig) (c n : Nat) (h1 : anyB (mkB σ c) n = false) (h2 : mkB σ c n = false) : anyB (mkB σ c) (n + 1) = false := by
  unfold anyB
  rw [h1, h2]
  rfl
set_option maxRecDepth 100000 in
set_option maxHeartbeats 1000000 in
theorem m_isMarked {l : Launch} {D : va_G} {ad : Nat → Nat → Nat} {aC : Nat → ClassId} (σ : gSig) (τ : gTau) (cl : Int32) (hm : ∀ c, c < 16 → msK σ c) : CZ l D ad aC yX6_isMarked cX6_isMarked 5 (some .boolean) 2 [.ref (ad 19 0), .int cl] σ τ (fun r σ' τ' => (¬ isC cl ∧ thQ σ τ 1 r σ' τ') ∨ ∃ c, c < 16 ∧ cl = nI c ∧ gEq (some (.int (b2i (anyB (mkB σ c) 16)))) (up3 σ 19 0 0 0) τ r σ' τ') := by
  refine CZ.of (own := RX6) (by decide +kernel) rfl (Nat.le_of_ble_eq_true rfl) (fun S C => ?_)
  refine r_aload_n C dX6_isMarked_0 rfl rfl ?_
  refine r_iload_n C dX6_isMarked_1 rfl rfl ?_
  refine r_callS C dX6_isMarked_2 (m_isCell σ τ cl) rfl kB_X6_isCell rfl kS_X6_isCell kl_X6_104 (by decide) (Nat.le_of_ble_eq_true rfl) (by decide) ?_
  rintro r9 σ' τ' ⟨rfl, rfl, rfl⟩
  refine r_ifeq (tgt := 12) C dX6_isMarked_5 (by decide) (fun c5 => ?_) (fun c5 => ?_)
  · have hC := isCB_f.mp (b2i_0.mp c5)
    refine r_iconst (v := 1) C dX6_isMarked_12 rfl ?_
    refine r_put (f := 0) C dX6_isMarked_13 ⟨by decide, by decide⟩ rfl rfl kU6 tyX6 tyX6_ok nmX6 (by decide) kf_X6_86 rfl rfl (by decide +kernel) (Nat.le_of_ble_eq_true rfl) (by simp [cel, up3]) ?_
    refine r_iconst (v := 0) C dX6_isMarked_16 rfl ?_
    refine r_istore_n C dX6_isMarked_17 rfl (by decide) rfl ?_
    refine r_iconst (v := 0) C dX6_isMarked_18 rfl ?_
    refine r_istore_n C dX6_isMarked_19 rfl (by decide) rfl ?_
    refine r_iload_n C dX6_isMarked_20 rfl rfl ?_
    refine r_bipush (v := 16) C dX6_isMarked_21 rfl ?_
    refine r_icmpge (tgt := 93) C dX6_isMarked_23 (by decide) (fun c23 => ?_) (fun c23 => ?_)
    · have n23 := Int32.not_lt.mpr c23
      exact absurd c23 (by decide)
    · have n23 := Int32.not_le.mp c23
      skip
      refine r_aload_n C dX6_isMarked_26 rfl rfl ?_
      refine r_get (f := 0) (v := .int 1) C dX6_isMarked_27 ⟨by decide, by decide⟩ rfl rfl kU6 (by decide) kf_X6_86 rfl (by simp [up3_at]) ?_
      refine r_ifne (tgt := 93) C dX6_isMarked_30 (by decide) (fun c30 => ?_) (fun c30 => ?_)
      · skip
        refine r_iload_n C dX6_isMarked_93 rfl rfl ?_
        exact r_zret C dX6_isMarked_94 rfl (by decide) (by decide) (Or.inl ⟨hC, rfl, rfl, rfl⟩)
      · exact absurd c30 (by decide)
  · have hC := isCB_t.mp (b2i_n.mp c5)
    obtain ⟨c, hc, rfl⟩ := isC_nI hC
    refine r_iconst (v := 0) C dX6_isMarked_8 rfl ?_
    refine r_goto (tgt := 13) C dX6_isMarked_9 (by decide) ?_
    refine r_put (f := 0) C dX6_isMarked_13 ⟨by decide, by decide⟩ rfl rfl kU6 tyX6 tyX6_ok nmX6 (by decide) kf_X6_86 rfl rfl (by decide +kernel) (Nat.le_of_ble_eq_true rfl) (by simp [cel, up3]) ?_
    refine r_iconst (v := 0) C dX6_isMarked_16 rfl ?_
    refine r_istore_n C dX6_isMarked_17 rfl (by decide) rfl ?_
    refine r_iconst (v := 0) C dX6_isMarked_18 rfl ?_
    refine r_istore_n C dX6_isMarked_19 rfl (by decide) rfl ?_
    have loop : ∀ m i, i ≤ 16 → 16 - i < m → S 0 (up3 σ 19 0 0 0) τ 20 [some (.ref (ad 19 0)), some (.int (nI c)), some (.int (b2i (anyB (mkB σ c) i))), some (.int (nI i)), none] [] := by
      intro m
      induction m with
      | zero => intro i _ hm; omega
      | succ m ihloop =>
        intro i hiloop hmloop
        refine r_iload_n C dX6_isMarked_20 rfl rfl ?_
        refine r_bipush (v := 16) C dX6_isMarked_21 rfl ?_
        refine r_icmpge (tgt := 93) C dX6_isMarked_23 (by decide) (fun c23 => ?_) (fun c23 => ?_)
        · have n23 := Int32.not_lt.mpr c23
          have hloope : i = 16 := by
            have := (nI_leI (a := 16) (by omega) (by omega)).mp c23
            omega
          subst hloope
          refine r_iload_n C dX6_isMarked_93 rfl rfl ?_
          exact r_zret C dX6_isMarked_94 rfl (by decide) (by first | exact b2i_01 _ | decide) (Or.inr ⟨c, hc, rfl, rfl, rfl, rfl⟩)
        · have n23 := Int32.not_le.mp c23
          have hloopl : i < 16 := (nI_ltI (b := 16) (by omega) (by omega)).mp n23
          have hil : i < 16 := hloopl
          refine r_aload_n C dX6_isMarked_26 rfl rfl ?_
          refine r_get (f := 0) (v := .int 0) C dX6_isMarked_27 ⟨by decide, by decide⟩ rfl rfl kU6 (by decide) kf_X6_86 rfl (by simp [up3_at]) ?_
          refine r_ifne (tgt := 93) C dX6_isMarked_30 (by decide) (fun c30 => ?_) (fun c30 => ?_)
          · exact absurd rfl c30
          · skip
            have j86 : ∀ b : Bool, anyB (mkB σ c) (i + 1) = b → S 0 (up3 σ 19 0 0 0) τ 86 [some (.ref (ad 19 0)), some (.int (nI c)), some (.int (b2i (anyB (mkB σ c) i))), some (.int (nI i)), none] [.int (b2i b)] := by
              intro b hb86
              refine r_istore_n C dX6_isMarked_86 rfl (by decide) rfl ?_
              refine r_iinc C dX6_isMarked_87 rfl rfl (by decide) rfl ?_
              refine r_goto (tgt := 20) C dX6_isMarked_90 (by decide) ?_
              exact r_swk (ihloop (i + 1) (by omega) (by omega)) rfl rfl (by rw [← hb86, ← nI_p1]; rfl) rfl
            have j60 : ∀ b : Bool, (decide (i = c) || bt (clR (mR σ) (mR σ c) 16) i) = b → S 0 (up3 σ 19 0 0 0) τ 60 [some (.ref (ad 19 0)), some (.int (nI c)), some (.int (b2i (anyB (mkB σ c) i))), some (.int (nI i)), none] [.int (b2i b)] := by
              intro b hb60
              refine r_istore C dX6_isMarked_60 (by decide) rfl ?_
              refine r_iload_n C dX6_isMarked_62 rfl rfl ?_
              refine r_ifne (tgt := 81) C dX6_isMarked_63 (by decide) (fun c63 => ?_) (fun c63 => ?_)
              · have h86 := mkB_l σ c i (b2i_n.mp c63)
                refine r_iconst (v := 1) C dX6_isMarked_81 rfl ?_
                refine r_goto (tgt := 86) C dX6_isMarked_82 (by decide) ?_
                refine r_drop C [4] ?_
                exact j86 _ h86
              · have h63 := b2i_0.mp c63
                refine r_iload C dX6_isMarked_66 rfl ?_
                refine r_ifeq (tgt := 85) C dX6_isMarked_68 (by decide) (fun c68 => ?_) (fun c68 => ?_)
                · have h68 := b2i_0.mp c68
                  have h86 := mkB_f σ c i h63 (by unfold mkB; rw [hb60, h68]; rfl)
                  refine r_iconst (v := 0) C dX6_isMarked_85 rfl ?_
                  refine r_drop C [4] ?_
                  exact j86 _ h86
                · have h68 := b2i_n.mp c68
                  refine r_aload_n C dX6_isMarked_71 rfl rfl ?_
                  refine r_get (f := 16) C dX6_isMarked_72 ⟨by decide, by decide⟩ rfl rfl kU6 (by decide) kf_X6_46 rfl rfl ?_
                  refine r_iload_n C dX6_isMarked_75 rfl rfl ?_
                  refine r_ialdv (v := σ 20 12 i) C dX6_isMarked_76 ⟨by decide, by decide⟩ rfl (vp_in_nI hil (by decide)) (by rw [nI_clamp (by omega)]; simp [up3_at]) ?_
                  refine r_iconst (v := 2) C dX6_isMarked_77 rfl ?_
                  refine r_icmpne (tgt := 85) C dX6_isMarked_78 (by decide) (fun c78 => ?_) (fun c78 => ?_)
                  · have h86 := mkB_f σ c i h63 (by unfold mkB; rw [hb60, h68, decide_eq_false c78]; rfl)
                    refine r_iconst (v := 0) C dX6_isMarked_85 rfl ?_
                    refine r_drop C [4] ?_
                    exact j86 _ h86
                  · have h86 := mkB_t σ c i (by unfold mkB; rw [hb60, h68, decide_eq_true c78]; rfl)
                    refine r_iconst (v := 1) C dX6_isMarked_81 rfl ?_
                    refine r_goto (tgt := 86) C dX6_isMarked_82 (by decide) ?_
                    refine r_drop C [4] ?_
                    exact j86 _ h86
            refine r_iload_n C dX6_isMarked_33 rfl rfl ?_
            refine r_iload_n C dX6_isMarked_34 rfl rfl ?_
            refine r_icmpeq (tgt := 55) C dX6_isMarked_35 (by decide) (fun c35 => ?_) (fun c35 => ?_)
            · have h60 : (decide (i = c) || bt (clR (mR σ) (mR σ c) 16) i) = true := by rw [show i = c from (nI_eq (by omega) (by omega)).mp c35]; simp
              refine r_iconst (v := 1) C dX6_isMarked_55 rfl ?_
              refine r_goto (tgt := 60) C dX6_isMarked_56 (by decide) ?_
              exact j60 _ h60
            · have hic : ¬ i = c := fun q => c35 (by rw [q])
              refine r_aload_n C dX6_isMarked_38 rfl rfl ?_
              refine r_aload_n C dX6_isMarked_39 rfl rfl ?_
              refine r_iload_n C dX6_isMarked_40 rfl rfl ?_
              refine r_callV C dX6_isMarked_41 (m_readBy (up3 σ 19 0 0 0) τ c hc (msK_up3 _ _ _ _ (by decide) (hm c hc))) rfl ⟨by decide, by decide⟩ rfl rfl kB_X6_readBy rfl kI_X6_readBy kV_X6_readBy kl_X6_108 (by decide) (Nat.le_of_ble_eq_true rfl) (by decide) ?_
              rintro r9 σ' τ' ⟨rfl, rfl, rfl⟩
              rw [mR_up3 _ _ _ _ _ (by decide)]
              refine r_callV C dX6_isMarked_44 (m_under (up3 σ 19 0 0 0) τ (mR σ c) (fun z hz => msK_up3 _ _ _ _ (by decide) (hm z hz))) rfl ⟨by decide, by decide⟩ rfl rfl kB_X6_under rfl kI_X6_under kV_X6_under kl_X6_115 (by decide) (Nat.le_of_ble_eq_true rfl) (by decide) ?_
              rintro r9 σ' τ' ⟨rfl, rfl, rfl⟩
              rw [mR_up3 _ _ _ _ _ (by decide)]
              refine r_iload_n C dX6_isMarked_47 rfl rfl ?_
              refine r_ishr C dX6_isMarked_48 ?_
              refine r_iconst (v := 1) C dX6_isMarked_49 rfl ?_
              refine r_iand C dX6_isMarked_50 ?_
              refine r_iconst (v := 1) C dX6_isMarked_51 rfl ?_
              refine r_icmpne (tgt := 59) C dX6_isMarked_52 (by decide) (fun c52 => ?_) (fun c52 => ?_)
              · have h60 : (decide (i = c) || bt (clR (mR σ) (mR σ c) 16) i) = false := by
                  rw [decide_eq_false hic, Bool.false_or]
                  cases hb9 : bt (clR (mR σ) (mR σ c) 16) i with
                  | false => rfl
                  | true => exact absurd ((bt_sh1 (by omega) _).mpr hb9) c52
                refine r_iconst (v := 0) C dX6_isMarked_59 rfl ?_
                exact j60 _ h60
              · have h60 : (decide (i = c) || bt (clR (mR σ) (mR σ c) 16) i) = true := by rw [(bt_sh1 (by omega) _).mp c52, Bool.or_true]
                refine r_iconst (v := 1) C dX6_isMarked_55 rfl ?_
                refine r_goto (tgt := 60) C dX6_isMarked_56 (by decide) ?_
                exact j60 _ h60
    exact loop (16 + 1) 0 (by omega) (by omega)
