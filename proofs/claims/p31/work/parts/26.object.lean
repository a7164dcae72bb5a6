/-! ===== what is unlocked is kept; locks and changes of the whole object: printed by g26.py ===== -/
theorem inB_ok {rd : Nat → Int32} {x : Nat} {ρ : List Nat} (h1 : ρ.Nodup) (h2 : ∀ x, x ∈ ρ → x < 16) : ∀ n, n ≤ 16 → (inB rd x ρ n).Nodup ∧ ∀ y, y ∈ inB rd x ρ n → y < 16
  | 0, _ => ⟨h1, h2⟩
  | n + 1, hn => by
    obtain ⟨a, b⟩ := inB_ok (rd := rd) (x := x) h1 h2 n (by omega)
    rcases Classical.em (bt (rd n) x = true ∧ ¬ n ∈ inB rd x ρ n) with q | q
    · rw [inB_t q.1 q.2]
      refine ⟨List.nodup_append.mpr ⟨a, by simp, fun u hu v hv e => by
        simp at hv
        subst hv; subst e
        exact q.2 hu⟩, fun y hy => ?_⟩
      rcases List.mem_append.mp hy with h | h
      · exact b y h
      · simp at h; omega
    · have : inB rd x ρ (n + 1) = inB rd x ρ n := if_neg q
      rw [this]
      exact ⟨a, b⟩
theorem bfs_ok {rd : Nat → Int32} : ∀ f i (ρ : List Nat), ρ.Nodup → (∀ x, x ∈ ρ → x < 16) → (bfs rd f i ρ).Nodup ∧ ∀ y, y ∈ bfs rd f i ρ → y < 16
  | 0, _, ρ, h1, h2 => ⟨h1, h2⟩
  | f + 1, i, ρ, h1, h2 => by
    cases hx : ρ[i]? with
    | none => rw [bfs_end hx]; exact ⟨h1, h2⟩
    | some x =>
      rw [bfs_go hx]
      obtain ⟨a, b⟩ := inB_ok (rd := rd) (x := x) h1 h2 16 (by omega)
      exact bfs_ok f (i + 1) _ a b
/-- the row of the desk, and how many are unlocked -/
def kS (σ : gSig) (g : Nat → Int32) (u : Nat) : gSig := up3 (upR σ 18 2 g) 17 0 4 (nI u)
theorem kS_row (σ : gSig) (g : Nat → Int32) (u j : Nat) (x : Int32) : up3 (kS σ g u) 18 2 j x = kS σ (upd g j x) u := by
  funext f' c' i'
  unfold kS up3 upR upd
  by_cases h1 : f' = 18
  · subst h1
    by_cases h2 : c' = 2
    · subst h2
      by_cases h3 : i' = j <;> simp [h3]
    · simp [h2]
  · simp [h1]
theorem kS_cnt (σ : gSig) (g : Nat → Int32) (u u' : Nat) : up3 (kS σ g u) 17 0 4 (nI u') = kS σ g u' := up3_up3 _ _ _ _ _ _
/-- the row of those that are unlocked -/
def unL (rd : Nat → Int32) (cell : Nat) (freed : Int32) : List Nat := (bfs rd 16 0 [cell]).filter (fun x => bt freed x)
set_option maxRecDepth 100000 in
set_option maxHeartbeats 4000000 in
theorem c_keepUnlocked {l : Launch} {D : va_G} {ad : Nat → Nat → Nat} {aC : Nat → ClassId} (σ : gSig) (τ : gTau) (cell : Nat) (freed : Int32) (hc : cell < 16) : CZ l D ad aC yX1_keepUnlocked cX1_keepUnlocked 7 none 2 [.ref (ad 17 0), .ref (ad 5 0), .int (nI cell), .int freed] σ τ (fun r σ' τ' => ∃ g, none = r ∧ kS σ g (unL (σ 7 3) cell freed).length = σ' ∧ τ = τ' ∧ onL g (unL (σ 7 3) cell freed)) := by
  refine CZ.of (own := RX1) (by decide +kernel) rfl (Nat.le_of_ble_eq_true rfl) (fun S C => ?_)
  refine r_aload_n C dX1_keepUnlocked_0 rfl rfl ?_
  refine r_iload_n C dX1_keepUnlocked_1 rfl rfl ?_
  refine r_aload_n C dX1_keepUnlocked_2 rfl rfl ?_
  refine r_get (f := 2) C dX1_keepUnlocked_3 ⟨by decide, by decide⟩ rfl rfl kU1 (by decide) kf_X1_18 rfl rfl ?_
  refine r_callV C dX1_keepUnlocked_6 (c_lineUp σ τ cell hc) rfl ⟨by decide, by decide⟩ rfl rfl kB_X3_lineUpReaders rfl kI_X3_lineUpReaders kV_X3_lineUpReaders kl_X1_25 (by decide) (Nat.le_of_ble_eq_true rfl) (by decide) ?_
  rintro r9 σ' τ' ⟨g0, rfl, rfl, rfl, hg0⟩
  obtain ⟨hnd, hlt⟩ := bfs_ok (rd := σ 7 3) 16 0 [cell] (by simp) (fun x hx => by simp at hx; omega)
  obtain ⟨ρ, hρ⟩ : ∃ z, z = bfs (σ 7 3) 16 0 [cell] := ⟨_, rfl⟩
  rw [← hρ] at hg0 hnd hlt ⊢
  have hlen := nodup_len hnd hlt
  refine r_istore C dX1_keepUnlocked_9 (by decide) rfl ?_
  refine r_aload_n C dX1_keepUnlocked_11 rfl rfl ?_
  refine r_iconst (v := 0) C dX1_keepUnlocked_12 rfl ?_
  refine r_put (f := 4) C dX1_keepUnlocked_13 ⟨by decide, by decide⟩ rfl rfl kU1 tyX1 tyX1_ok nmX1 (by decide) kf_X1_31 rfl rfl (by decide +kernel) (Nat.le_of_ble_eq_true rfl) (by simp [cel, up3]) ?_
  refine r_iconst (v := 0) C dX1_keepUnlocked_16 rfl ?_
  refine r_istore C dX1_keepUnlocked_17 (by decide) rfl ?_
  have lp : ∀ m i, i ≤ 16 → 16 - i < m → ∀ (g : Nat → Int32), onL g ((ρ.take i).filter (fun x => bt freed x)) → (∀ j x, i ≤ j → ρ[j]? = some x → g j = nI x) → S 0 (kS σ g (((ρ.take i).filter (fun x => bt freed x)).length)) τ 19 [some (.ref (ad 17 0)), some (.ref (ad 5 0)), some (.int (nI cell)), some (.int freed), some (.int (nI ρ.length)), some (.int (nI i)), none] [] := by
    intro m
    induction m with
    | zero => intro i _ hm; omega
    | succ m ih =>
      intro i hi hm g hg hgr
      have hul : ((ρ.take i).filter (fun x => bt freed x)).length ≤ i := Nat.le_trans (List.length_filter_le _ _) (by rw [List.length_take]; omega)
      refine r_iload C dX1_keepUnlocked_19 rfl ?_
      refine r_iload C dX1_keepUnlocked_21 rfl ?_
      refine r_icmpge (tgt := 78) C dX1_keepUnlocked_23 (by decide) (fun c23 => ?_) (fun c23 => ?_)
      · have n23 := Int32.not_lt.mpr c23
        have hfin : (ρ.take i) = ρ := List.take_of_length_le (by exact (nI_leI (by omega) (by omega)).mp c23)
        exact r_ret C dX1_keepUnlocked_78 rfl (by decide) ⟨g, by rfl, by rw [hfin, hρ]; rfl, rfl, by rw [hfin, hρ] at hg; exact hg⟩
      · have n23 := Int32.not_le.mp c23
        have hil : i < ρ.length := (nI_ltI (by omega) (by omega)).mp n23
        refine r_iload C dX1_keepUnlocked_26 rfl ?_
        refine r_bipush (v := 16) C dX1_keepUnlocked_28 rfl ?_
        refine r_icmpge (tgt := 78) C dX1_keepUnlocked_30 (by decide) (fun c30 => ?_) (fun c30 => ?_)
        · have n30 := Int32.not_lt.mpr c30
          exact absurd ((nI_leI (a := 16) (by decide) (by omega)).mp c30) (by omega)
        · have n30 := Int32.not_le.mp c30
          have hxi : ρ[i]? = some ρ[i] := List.getElem?_eq_getElem hil
          generalize ρ[i] = x at hxi
          have hx16 : x < 16 := hlt x (List.mem_of_getElem? hxi)
          have htk : ((ρ.take (i + 1)).filter (fun x => bt freed x)) = ((ρ.take i).filter (fun x => bt freed x)) ++ (if bt freed x then [x] else []) := by
            rw [List.take_succ, hxi, List.filter_append]
            congr 1
            cases h : bt freed x <;> simp [h]
          refine r_aload_n C dX1_keepUnlocked_33 rfl rfl ?_
          refine r_get (f := 2) C dX1_keepUnlocked_34 ⟨by decide, by decide⟩ rfl rfl kU1 (by decide) kf_X1_18 rfl rfl ?_
          refine r_iload C dX1_keepUnlocked_37 rfl ?_
          refine r_ialdv (v := nI x) C dX1_keepUnlocked_39 ⟨by decide, by decide⟩ rfl (vp_in_nI (show i < 16 by omega) (by decide)) (by rw [nI_clamp (by omega)]; show (upR σ 18 2 g) 18 2 i = _; rw [upR_self]; exact hgr i x (Nat.le_refl i) hxi) ?_
          refine r_istore C dX1_keepUnlocked_40 (by decide) rfl ?_
          refine r_iload_n C dX1_keepUnlocked_42 rfl rfl ?_
          refine r_iload C dX1_keepUnlocked_43 rfl ?_
          refine r_callSN C dX1_keepUnlocked_45 (c_has (kS σ g (((ρ.take i).filter (fun x => bt freed x)).length)) τ freed (nI x)) rfl kB_X5_has rfl kS_X5_has kl_X1_34 (by decide) (Nat.le_of_ble_eq_true rfl) (by decide) ?_
          rintro r9 σ' τ' ⟨rfl, rfl, rfl⟩
          rw [hasB_bt hx16]
          refine r_ifeq (tgt := 72) C dX1_keepUnlocked_48 (by decide) (fun c48 => ?_) (fun c48 => ?_)
          · have h48 := b2i_0.mp c48
            rw [h48] at htk
            have hst2 : kS σ g (((ρ.take i).filter (fun x => bt freed x)) ++ []).length = kS σ g ((ρ.take i).filter (fun x => bt freed x)).length := by rw [List.append_nil]
            have hg2 : onL g ((ρ.take (i + 1)).filter (fun x => bt freed x)) := by rw [htk]; show onL g (_ ++ []); rw [List.append_nil]; exact hg
            have hgr2 : ∀ j x, i + 1 ≤ j → ρ[j]? = some x → g j = nI x := fun j x hj h => hgr j x (by omega) h
            refine r_iinc C dX1_keepUnlocked_72 rfl rfl (by decide) rfl ?_
            refine r_goto (tgt := 19) C dX1_keepUnlocked_75 (by decide) ?_
            refine r_drop C [6] ?_
            exact r_swk (ih (i + 1) (by omega) (by omega) _ hg2 hgr2) (by rw [htk]; exact hst2) rfl (by rw [← nI_p1]; rfl) rfl
          · have h48 := b2i_n.mp c48
            rw [h48] at htk
            refine r_aload_n C dX1_keepUnlocked_51 rfl rfl ?_
            refine r_get (f := 2) C dX1_keepUnlocked_52 ⟨by decide, by decide⟩ rfl rfl kU1 (by decide) kf_X1_18 rfl rfl ?_
            refine r_aload_n C dX1_keepUnlocked_55 rfl rfl ?_
            refine r_get (f := 4) (v := .int (nI ((ρ.take i).filter (fun x => bt freed x)).length)) C dX1_keepUnlocked_56 ⟨by decide, by decide⟩ rfl rfl kU1 (by decide) kf_X1_31 rfl (by simp [kS, up3_at]) ?_
            refine r_iload C dX1_keepUnlocked_59 rfl ?_
            refine r_iastv C dX1_keepUnlocked_61 ⟨by decide, by decide⟩ (fun _ => rfl) (vp_in_nI (show ((ρ.take i).filter (fun x => bt freed x)).length < 16 by omega) (by decide)) (nI_clamp (by omega)) ?_
            rw [kS_row]
            refine r_aload_n C dX1_keepUnlocked_62 rfl rfl ?_
            refine r_dup C dX1_keepUnlocked_63 rfl ?_
            refine r_get (f := 4) (v := .int (nI ((ρ.take i).filter (fun x => bt freed x)).length)) C dX1_keepUnlocked_64 ⟨by decide, by decide⟩ rfl rfl kU1 (by decide) kf_X1_31 rfl (by simp [kS, up3_at]) ?_
            refine r_iconst (v := 1) C dX1_keepUnlocked_67 rfl ?_
            refine r_iadd C dX1_keepUnlocked_68 ?_
            rw [nI_1]
            refine r_put (f := 4) C dX1_keepUnlocked_69 ⟨by decide, by decide⟩ rfl rfl kU1 tyX1 tyX1_ok nmX1 (by decide) kf_X1_31 rfl rfl (by decide +kernel) (Nat.le_of_ble_eq_true rfl) (by simp [cel, up3]) ?_
            rw [kS_cnt]
            have hg2 : onL (upd g ((ρ.take i).filter (fun x => bt freed x)).length (nI x)) ((ρ.take (i + 1)).filter (fun x => bt freed x)) := by rw [htk]; exact onL_push hg x
            have hgr2 : ∀ j y, i + 1 ≤ j → ρ[j]? = some y → (upd g ((ρ.take i).filter (fun x => bt freed x)).length (nI x)) j = nI y := fun j y hj h => by
              unfold upd
              rw [if_neg (by omega)]
              exact hgr j y (by omega) h
            have hst2 : kS σ (upd g ((ρ.take i).filter (fun x => bt freed x)).length (nI x)) (((ρ.take i).filter (fun x => bt freed x)) ++ (if true = true then [x] else [])).length = kS σ (upd g ((ρ.take i).filter (fun x => bt freed x)).length (nI x)) (((ρ.take i).filter (fun x => bt freed x)).length + 1) := by
              rw [if_pos rfl, List.length_append, List.length_singleton]
            refine r_iinc C dX1_keepUnlocked_72 rfl rfl (by decide) rfl ?_
            refine r_goto (tgt := 19) C dX1_keepUnlocked_75 (by decide) ?_
            refine r_drop C [6] ?_
            exact r_swk (ih (i + 1) (by omega) (by omega) _ hg2 hgr2) (by rw [htk]; exact hst2) rfl (by rw [← nI_p1]; rfl) rfl
  refine r_swk (lp 17 0 (by omega) (by omega) g0 (fun j x h => by simp at h) (fun j x _ h => hg0 j x h)) ?_ rfl rfl rfl
  simp [kS, nI_0]
def lcC (σ : gSig) (o : Nat → Nat) : Int32 := lkF (σ 7 3) (σ 13 0 6) (wvF (σ 18 1) (σ 17 0 3) 16) o 16
set_option maxRecDepth 100000 in
set_option maxHeartbeats 4000000 in
theorem c_lockedCells {l : Launch} {D : va_G} {ad : Nat → Nat → Nat} {aC : Nat → ClassId} (σ : gSig) (τ : gTau) (o : Nat → Nat) (hO : ordI (σ 7 5) o 16) : CZ l D ad aC yX5_lockedCells cX5_lockedCells 1 (some .int) 2 [.ref (ad 0 0)] σ τ (gEq (some (.int (lcC σ o))) σ τ) := by
  refine CZ.of (own := RX5) (by decide +kernel) rfl (Nat.le_of_ble_eq_true rfl) (fun S C => ?_)
  refine r_aload_n C dX5_lockedCells_0 rfl rfl ?_
  refine r_get (f := 1) C dX5_lockedCells_1 ⟨by decide, by decide⟩ rfl rfl kU5 (by decide) kf_X5_19 rfl rfl ?_
  refine r_aload_n C dX5_lockedCells_4 rfl rfl ?_
  refine r_get (f := 3) C dX5_lockedCells_5 ⟨by decide, by decide⟩ rfl rfl kU5 (by decide) kf_X5_33 rfl rfl ?_
  refine r_get (f := 6) C dX5_lockedCells_8 ⟨by decide, by decide⟩ rfl rfl kU4 (by decide) kf_X5_138 rfl rfl ?_
  refine r_aload_n C dX5_lockedCells_11 rfl rfl ?_
  refine r_get (f := 4) C dX5_lockedCells_12 ⟨by decide, by decide⟩ rfl rfl kU5 (by decide) kf_X5_40 rfl rfl ?_
  refine r_callV C dX5_lockedCells_15 (c_waived σ τ) rfl ⟨by decide, by decide⟩ rfl rfl kB_X1_waivedCells rfl kI_X1_waivedCells kV_X1_waivedCells kl_X5_228 (by decide) (Nat.le_of_ble_eq_true rfl) (by decide) ?_
  rintro r9 σ' τ' ⟨rfl, rfl, rfl⟩
  refine r_callV C dX5_lockedCells_18 (c_sLocked σ τ (σ 13 0 6) (wvF (σ 18 1) (σ 17 0 3) 16) o hO) rfl ⟨by decide, by decide⟩ rfl rfl kB_X3_lockedCells rfl kI_X3_lockedCells kV_X3_lockedCells kl_X5_248 (by decide) (Nat.le_of_ble_eq_true rfl) (by decide) ?_
  rintro r9 σ' τ' ⟨rfl, rfl, rfl⟩
  exact r_iret C dX5_lockedCells_21 rfl (by decide) ⟨rfl, rfl, rfl⟩
def chM (σ : gSig) (cell : Nat) : Int32 := croF (σ 7 4) cell 16 ||| b1 cell
def fcS (σ : gSig) (cell : Nat) : gSig := up3 (up3 σ 18 1 cell (-1)) 13 0 5 (σ 13 0 5 &&& (chM σ cell ^^^ (-1)))
set_option maxRecDepth 100000 in
set_option maxHeartbeats 4000000 in
theorem c_followChange {l : Launch} {D : va_G} {ad : Nat → Nat → Nat} {aC : Nat → ClassId} (σ : gSig) (τ : gTau) (cell : Nat) (hc : cell < 16) : CZ l D ad aC yX5_followChange cX5_followChange 2 (some .int) 2 [.ref (ad 0 0), .int (nI cell)] σ τ (gEq (some (.int (bcJ (σ 13 0 5 &&& chM σ cell)))) (fcS σ cell) τ) := by
  refine CZ.of (own := RX5) (by decide +kernel) rfl (Nat.le_of_ble_eq_true rfl) (fun S C => ?_)
  refine r_aload_n C dX5_followChange_0 rfl rfl ?_
  refine r_get (f := 4) C dX5_followChange_1 ⟨by decide, by decide⟩ rfl rfl kU5 (by decide) kf_X5_40 rfl rfl ?_
  refine r_get (f := 1) C dX5_followChange_4 ⟨by decide, by decide⟩ rfl rfl kU1 (by decide) kf_X5_173 rfl rfl ?_
  refine r_iload_n C dX5_followChange_7 rfl rfl ?_
  refine r_iconst (v := (-1)) C dX5_followChange_8 rfl ?_
  refine r_iastv C dX5_followChange_9 ⟨by decide, by decide⟩ (fun _ => rfl) (vp_in_nI hc (by decide)) (nI_clamp (by omega)) ?_
  refine r_aload_n C dX5_followChange_10 rfl rfl ?_
  refine r_get (f := 3) C dX5_followChange_11 ⟨by decide, by decide⟩ rfl rfl kU5 (by decide) kf_X5_33 rfl rfl ?_
  refine r_aload_n C dX5_followChange_14 rfl rfl ?_
  refine r_get (f := 1) C dX5_followChange_15 ⟨by decide, by decide⟩ rfl rfl kU5 (by decide) kf_X5_19 rfl rfl ?_
  refine r_iload_n C dX5_followChange_18 rfl rfl ?_
  refine r_callV C dX5_followChange_19 (c_cellsRestingOn (up3 σ 18 1 cell (-1)) τ cell hc) rfl ⟨by decide, by decide⟩ rfl rfl kB_X3_cellsRestingOn rfl kI_X3_cellsRestingOn kV_X3_cellsRestingOn kl_X5_250 (by decide) (Nat.le_of_ble_eq_true rfl) (by decide) ?_
  rintro r9 σ' τ' ⟨rfl, rfl, rfl⟩
  refine r_iconst (v := 1) C dX5_followChange_22 rfl ?_
  refine r_iload_n C dX5_followChange_23 rfl rfl ?_
  refine r_ishl C dX5_followChange_24 ?_
  refine r_ior C dX5_followChange_25 ?_
  refine r_callV C dX5_followChange_26 (c_untry (up3 σ 18 1 cell (-1)) τ (croF ((up3 σ 18 1 cell (-1)) 7 4) cell 16 ||| b1 cell)) rfl ⟨by decide, by decide⟩ rfl rfl kB_X4_untry rfl kI_X4_untry kV_X4_untry kl_X5_125 (by decide) (Nat.le_of_ble_eq_true rfl) (by decide) ?_
  rintro r9 σ' τ' ⟨rfl, rfl, rfl⟩
  exact r_iret C dX5_followChange_29 rfl (by decide) ⟨rfl, rfl, rfl⟩
