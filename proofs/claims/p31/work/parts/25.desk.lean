/-! ===== the desk: waivers, the row of readers, what is unlocked: printed by g25.py ===== -/
/-- the cells with a waiver that holds -/
def wvF (ld : Nat → Int32) (day : Int32) : Nat → Int32
  | 0 => 0
  | i + 1 => if day ≤ ld i then wvF ld day i ||| b1 i else wvF ld day i
theorem wvF_t {ld : Nat → Int32} {day : Int32} {i : Nat} (h : day ≤ ld i) : wvF ld day (i + 1) = wvF ld day i ||| b1 i := if_pos h
theorem wvF_f {ld : Nat → Int32} {day : Int32} {i : Nat} (h : ¬ day ≤ ld i) : wvF ld day (i + 1) = wvF ld day i := if_neg h
/-- the readers of x, put behind the row, in rising order, that are not in it -/
def inB (rd : Nat → Int32) (x : Nat) (ρ : List Nat) : Nat → List Nat
  | 0 => ρ
  | j + 1 => if bt (rd j) x = true ∧ ¬ j ∈ inB rd x ρ j then inB rd x ρ j ++ [j] else inB rd x ρ j
theorem inB_t {rd : Nat → Int32} {x : Nat} {ρ : List Nat} {j : Nat} (h1 : bt (rd j) x = true) (h2 : ¬ j ∈ inB rd x ρ j) : inB rd x ρ (j + 1) = inB rd x ρ j ++ [j] := if_pos ⟨h1, h2⟩
theorem inB_f {rd : Nat → Int32} {x : Nat} {ρ : List Nat} {j : Nat} (h : bt (rd j) x = false ∨ j ∈ inB rd x ρ j) : inB rd x ρ (j + 1) = inB rd x ρ j := if_neg (fun q => by
  rcases h with h | h
  · rw [h] at q; exact absurd q.1 (by decide)
  · exact q.2 h)
def bfs (rd : Nat → Int32) : Nat → Nat → List Nat → List Nat
  | 0, _, ρ => ρ
  | f + 1, i, ρ => match ρ[i]? with
    | none => ρ
    | some x => bfs rd f (i + 1) (inB rd x ρ 16)
theorem bfs_end {rd : Nat → Int32} {i : Nat} {ρ : List Nat} (h : ρ[i]? = none) : ∀ f, bfs rd f i ρ = ρ
  | 0 => rfl
  | f + 1 => by unfold bfs; rw [h]
theorem bfs_go {rd : Nat → Int32} {i f x : Nat} {ρ : List Nat} (h : ρ[i]? = some x) : bfs rd (f + 1) i ρ = bfs rd f (i + 1) (inB rd x ρ 16) := by
  conv => lhs; unfold bfs
  rw [h]
/-- what stands in a row of ints -/
def onL (g : Nat → Int32) (ρ : List Nat) : Prop := ∀ (j x : Nat), ρ[j]? = some x → g j = nI x
/-- a row of different cells, and the set of them -/
def rwL (P : Int32) (ρ : List Nat) : Prop := ρ.Nodup ∧ (∀ x, x ∈ ρ → x < 16) ∧ ∀ c, c < 16 → (bt P c = true ↔ c ∈ ρ)
theorem nodup_len {ρ : List Nat} (h1 : ρ.Nodup) (h2 : ∀ x, x ∈ ρ → x < 16) : ρ.length ≤ 16 := by
  refine fb_holes 16 ρ.length (fun i => ρ.getD i 0) (fun i hi => ?_) (fun i j hij hj e => ?_)
  · have : ρ.getD i 0 = ρ[i] := by rw [List.getD_eq_getElem?_getD, List.getElem?_eq_getElem hi]; rfl
    rw [this]
    exact h2 _ (List.getElem_mem hi)
  · have hi : i < ρ.length := by omega
    have e1 : ρ.getD i 0 = ρ[i] := by rw [List.getD_eq_getElem?_getD, List.getElem?_eq_getElem hi]; rfl
    have e2 : ρ.getD j 0 = ρ[j] := by rw [List.getD_eq_getElem?_getD, List.getElem?_eq_getElem hj]; rfl
    rw [e1, e2] at e
    have : ρ[i]? = ρ[j]? := by rw [List.getElem?_eq_getElem hi, List.getElem?_eq_getElem hj, e]
    have := (List.getElem?_inj hi h1).mp this
    omega
theorem nodup_full {ρ : List Nat} (h1 : ρ.Nodup) (h2 : ∀ x, x ∈ ρ → x < 16) (h3 : ρ.length = 16) {c : Nat} (hc : c < 16) : c ∈ ρ := by
  rcases Classical.em (c ∈ ρ) with q | q
  · exact q
  · have := nodup_len (ρ := ρ ++ [c]) (List.nodup_append.mpr ⟨h1, by simp, fun a ha b hb e => by
      simp at hb
      subst hb; subst e
      exact q ha⟩) (fun x hx => by
        rcases List.mem_append.mp hx with h | h
        · exact h2 x h
        · simp at h; omega)
    rw [List.length_append, h3] at this
    simp at this
theorem onL_push {g : Nat → Int32} {ρ : List Nat} (h : onL g ρ) (c : Nat) : onL (upd g ρ.length (nI c)) (ρ ++ [c]) := by
  intro j x hj
  unfold upd
  by_cases hl : j < ρ.length
  · rw [List.getElem?_append_left hl] at hj
    rw [if_neg (by omega)]
    exact h j x hj
  · rw [List.getElem?_append_right (by omega)] at hj
    have h1 := (List.getElem?_eq_some_iff.mp hj).1
    have h2 : j = ρ.length := by simp at h1; omega
    subst h2
    rw [if_pos rfl]
    rw [Nat.sub_self] at hj
    cases hj
    rfl
theorem rwL_push {P : Int32} {ρ : List Nat} (h : rwL P ρ) {c : Nat} (hc : c < 16) (h2 : ¬ c ∈ ρ) : rwL (P ||| b1 c) (ρ ++ [c]) := by
  obtain ⟨a, b, d⟩ := h
  refine ⟨List.nodup_append.mpr ⟨a, by simp, fun x hx y hy e => by
    simp at hy
    subst hy; subst e
    exact h2 hx⟩, fun x hx => ?_, fun x hx => ?_⟩
  · rcases List.mem_append.mp hx with q | q
    · exact b x q
    · simp at q; omega
  · rw [b_or, Bool.or_eq_true, d x hx, bt_b1 (by omega), List.mem_append]
    simp
set_option maxRecDepth 100000 in
set_option maxHeartbeats 4000000 in
theorem c_waived {l : Launch} {D : va_G} {ad : Nat → Nat → Nat} {aC : Nat → ClassId} (σ : gSig) (τ : gTau)  : CZ l D ad aC yX1_waivedCells cX1_waivedCells 3 (some .int) 0 [.ref (ad 17 0)] σ τ (gEq (some (.int (wvF (σ 18 1) (σ 17 0 3) 16))) σ τ) := by
  refine CZ.of (own := RX1) (by decide +kernel) rfl (Nat.le_of_ble_eq_true rfl) (fun S C => ?_)
  refine r_iconst (v := 0) C dX1_waivedCells_0 rfl ?_
  refine r_istore_n C dX1_waivedCells_1 rfl (by decide) rfl ?_
  refine r_iconst (v := 0) C dX1_waivedCells_2 rfl ?_
  refine r_istore_n C dX1_waivedCells_3 rfl (by decide) rfl ?_
  have loop : ∀ m i, i ≤ 16 → 16 - i < m → S 0 σ τ 4 [some (.ref (ad 17 0)), some (.int (wvF (σ 18 1) (σ 17 0 3) i)), some (.int (nI i))] [] := by
    intro m
    induction m with
    | zero => intro i _ hm; omega
    | succ m ihloop =>
      intro i hiloop hmloop
      refine r_iload_n C dX1_waivedCells_4 rfl rfl ?_
      refine r_bipush (v := 16) C dX1_waivedCells_5 rfl ?_
      refine r_icmpge (tgt := 35) C dX1_waivedCells_7 (by decide) (fun c7 => ?_) (fun c7 => ?_)
      · have n7 := Int32.not_lt.mpr c7
        have hloope : i = 16 := by
          have := (nI_leI (a := 16) (by omega) (by omega)).mp c7
          omega
        subst hloope
        refine r_iload_n C dX1_waivedCells_35 rfl rfl ?_
        exact r_iret C dX1_waivedCells_36 rfl (by decide) ⟨rfl, rfl, rfl⟩
      · have n7 := Int32.not_le.mp c7
        have hloopl : i < 16 := (nI_ltI (b := 16) (by omega) (by omega)).mp n7
        refine r_aload_n C dX1_waivedCells_10 rfl rfl ?_
        refine r_get (f := 1) C dX1_waivedCells_11 ⟨by decide, by decide⟩ rfl rfl kU1 (by decide) kf_X1_15 rfl rfl ?_
        refine r_iload_n C dX1_waivedCells_14 rfl rfl ?_
        refine r_ialdv (v := σ 18 1 i) C dX1_waivedCells_15 ⟨by decide, by decide⟩ rfl (vp_in_nI hloopl (by decide)) (by rw [nI_clamp (by omega)]) ?_
        refine r_aload_n C dX1_waivedCells_16 rfl rfl ?_
        refine r_get (f := 3) C dX1_waivedCells_17 ⟨by decide, by decide⟩ rfl rfl kU1 (by decide) kf_X1_21 rfl rfl ?_
        refine r_icmplt (tgt := 29) C dX1_waivedCells_20 (by decide) (fun c20 => ?_) (fun c20 => ?_)
        · have n20 := Int32.not_le.mpr c20
          refine r_iinc C dX1_waivedCells_29 rfl rfl (by decide) rfl ?_
          refine r_goto (tgt := 4) C dX1_waivedCells_32 (by decide) ?_
          exact r_swk (ihloop (i + 1) (by omega) (by omega)) rfl rfl (by first | (rw [wvF_t n20, ← nI_p1]; rfl) | (rw [wvF_f n20, ← nI_p1]; rfl)) rfl
        · have n20 := Int32.not_lt.mp c20
          refine r_iload_n C dX1_waivedCells_23 rfl rfl ?_
          refine r_iconst (v := 1) C dX1_waivedCells_24 rfl ?_
          refine r_iload_n C dX1_waivedCells_25 rfl rfl ?_
          refine r_ishl C dX1_waivedCells_26 ?_
          refine r_ior C dX1_waivedCells_27 ?_
          refine r_istore_n C dX1_waivedCells_28 rfl (by decide) rfl ?_
          refine r_iinc C dX1_waivedCells_29 rfl rfl (by decide) rfl ?_
          refine r_goto (tgt := 4) C dX1_waivedCells_32 (by decide) ?_
          exact r_swk (ihloop (i + 1) (by omega) (by omega)) rfl rfl (by first | (rw [wvF_t n20, ← nI_p1]; rfl) | (rw [wvF_f n20, ← nI_p1]; rfl)) rfl
  exact loop (16 + 1) 0 (by omega) (by omega)
set_option maxRecDepth 100000 in
set_option maxHeartbeats 4000000 in
theorem c_lineUp {l : Launch} {D : va_G} {ad : Nat → Nat → Nat} {aC : Nat → ClassId} (σ : gSig) (τ : gTau) (cell : Nat) (hc : cell < 16) : CZ l D ad aC yX3_lineUpReaders cX3_lineUpReaders 7 (some .int) 1 [.ref (ad 5 0), .int (nI cell), .ref (ad 18 2)] σ τ (fun r σ' τ' => ∃ g, some (.int (nI (bfs (σ 7 3) 16 0 [cell]).length)) = r ∧ upR σ 18 2 g = σ' ∧ τ = τ' ∧ onL g (bfs (σ 7 3) 16 0 [cell])) := by
  refine CZ.of (own := RX3) (by decide +kernel) rfl (Nat.le_of_ble_eq_true rfl) (fun S C => ?_)
  refine r_aload_n C dX3_lineUpReaders_0 rfl rfl ?_
  refine r_iconst (v := 0) C dX3_lineUpReaders_1 rfl ?_
  refine r_iload_n C dX3_lineUpReaders_2 rfl rfl ?_
  refine r_iastv C dX3_lineUpReaders_3 ⟨by decide, by decide⟩ (fun _ => rfl) (vp_in_nI (n := 0) (by decide) (by decide)) (j := 0) rfl ?_
  rw [up3_eq]
  refine r_iconst (v := 1) C dX3_lineUpReaders_4 rfl ?_
  refine r_istore_n C dX3_lineUpReaders_5 rfl (by decide) rfl ?_
  refine r_iconst (v := 1) C dX3_lineUpReaders_6 rfl ?_
  refine r_iload_n C dX3_lineUpReaders_7 rfl rfl ?_
  refine r_ishl C dX3_lineUpReaders_8 ?_
  refine r_istore C dX3_lineUpReaders_9 (by decide) rfl ?_
  refine r_iconst (v := 0) C dX3_lineUpReaders_11 rfl ?_
  refine r_istore C dX3_lineUpReaders_12 (by decide) rfl ?_
  have lp1 : ∀ m i, i ≤ 16 → 16 - i < m → ∀ (ρ : List Nat) (g : Nat → Int32) (P : Int32), onL g ρ → rwL P ρ → bfs (σ 7 3) 16 0 [cell] = bfs (σ 7 3) (16 - i) i ρ → S 0 (upR σ 18 2 g) τ 14 [some (.ref (ad 5 0)), some (.int (nI cell)), some (.ref (ad 18 2)), some (.int (nI ρ.length)), some (.int P), some (.int (nI i)), none] [] := by
    intro m
    induction m with
    | zero => intro i _ hm; omega
    | succ m ih1 =>
      intro i hi hm ρ g P hg hP hb
      have hlen := nodup_len hP.1 hP.2.1
      refine r_iload C dX3_lineUpReaders_14 rfl ?_
      refine r_iload_n C dX3_lineUpReaders_16 rfl rfl ?_
      refine r_icmpge (tgt := 99) C dX3_lineUpReaders_17 (by decide) (fun c17 => ?_) (fun c17 => ?_)
      · have n17 := Int32.not_lt.mpr c17
        have hil : ρ.length ≤ i := (nI_leI (by omega) (by omega)).mp c17
        have hres : bfs (σ 7 3) 16 0 [cell] = ρ := by rw [hb, bfs_end (List.getElem?_eq_none hil)]
        refine r_iload_n C dX3_lineUpReaders_99 rfl rfl ?_
        exact r_iret C dX3_lineUpReaders_100 rfl (by decide) ⟨g, by rw [hres], rfl, rfl, by rw [hres]; exact hg⟩
      · have n17 := Int32.not_le.mp c17
        have hil : i < ρ.length := (nI_ltI (by omega) (by omega)).mp n17
        refine r_iload C dX3_lineUpReaders_20 rfl ?_
        refine r_bipush (v := 16) C dX3_lineUpReaders_22 rfl ?_
        refine r_icmpge (tgt := 99) C dX3_lineUpReaders_24 (by decide) (fun c24 => ?_) (fun c24 => ?_)
        · have n24 := Int32.not_lt.mpr c24
          exact absurd ((nI_leI (a := 16) (by decide) (by omega)).mp c24) (by omega)
        · have n24 := Int32.not_le.mp c24
          obtain ⟨kz, hkz⟩ : ∃ z, 16 - i = z + 1 := ⟨16 - i - 1, by omega⟩
          have hkz2 : kz = 16 - (i + 1) := by omega
          have hxi : ρ[i]? = some ρ[i] := List.getElem?_eq_getElem hil
          generalize ρ[i] = x at hxi
          have hx16 : x < 16 := hP.2.1 x (List.mem_of_getElem? hxi)
          have hbx : bfs (σ 7 3) 16 0 [cell] = bfs (σ 7 3) (16 - (i + 1)) (i + 1) (inB (σ 7 3) x ρ 16) := by rw [hb, hkz, bfs_go hxi, hkz2]
          refine r_iconst (v := 0) C dX3_lineUpReaders_27 rfl ?_
          refine r_istore C dX3_lineUpReaders_28 (by decide) rfl ?_
          have lp2 : ∀ m j, j ≤ 16 → 16 - j < m → ∀ (g2 : Nat → Int32) (P2 : Int32), onL g2 (inB (σ 7 3) x ρ j) → rwL P2 (inB (σ 7 3) x ρ j) → g2 i = nI x → i < (inB (σ 7 3) x ρ j).length → S 0 (upR σ 18 2 g2) τ 30 [some (.ref (ad 5 0)), some (.int (nI cell)), some (.ref (ad 18 2)), some (.int (nI (inB (σ 7 3) x ρ j).length)), some (.int P2), some (.int (nI i)), some (.int (nI j))] [] := by
            intro m
            induction m with
            | zero => intro j _ hm; omega
            | succ m ih2 =>
              intro j hj hm g2 P2 hg2 hP2 hgi hil2
              have hlen2 := nodup_len hP2.1 hP2.2.1
              refine r_iload C dX3_lineUpReaders_30 rfl ?_
              refine r_bipush (v := 16) C dX3_lineUpReaders_32 rfl ?_
              refine r_icmpge (tgt := 93) C dX3_lineUpReaders_34 (by decide) (fun c34 => ?_) (fun c34 => ?_)
              · have n34 := Int32.not_lt.mpr c34
                have hj16 : j = 16 := by
                  have := (nI_leI (a := 16) (by omega) (by omega)).mp c34
                  omega
                subst hj16
                have hb2 := hbx
                refine r_iinc C dX3_lineUpReaders_93 rfl rfl (by decide) rfl ?_
                refine r_goto (tgt := 14) C dX3_lineUpReaders_96 (by decide) ?_
                refine r_drop C [6] ?_
                exact r_swk (ih1 (i + 1) (by omega) (by omega) _ _ _ hg2 hP2 hb2) rfl rfl (by rw [← nI_p1]; rfl) rfl
              · have n34 := Int32.not_le.mp c34
                have hjl : j < 16 := (nI_ltI (b := 16) (by omega) (by omega)).mp n34
                refine r_iload_n C dX3_lineUpReaders_37 rfl rfl ?_
                refine r_bipush (v := 16) C dX3_lineUpReaders_38 rfl ?_
                refine r_icmpge (tgt := 87) C dX3_lineUpReaders_40 (by decide) (fun c40 => ?_) (fun c40 => ?_)
                · have n40 := Int32.not_lt.mpr c40
                  have hfull : (inB (σ 7 3) x ρ j).length = 16 := by
                    have := (nI_leI (a := 16) (by decide) (by omega)).mp c40
                    omega
                  have hin := inB_f (ρ := ρ) (x := x) (rd := σ 7 3) (j := j) (Or.inr (nodup_full hP2.1 hP2.2.1 hfull hjl))
                  have hg3 : onL g2 (inB (σ 7 3) x ρ (j + 1)) := by rw [hin]; exact hg2
                  have hP3 : rwL P2 (inB (σ 7 3) x ρ (j + 1)) := by rw [hin]; exact hP2
                  have hgi3 := hgi
                  have hil3 : i < (inB (σ 7 3) x ρ (j + 1)).length := by rw [hin]; exact hil2
                  have hL3 : [some (Value.ref (ad 5 0)), some (.int (nI cell)), some (.ref (ad 18 2)), some (.int (nI (inB (σ 7 3) x ρ (j + 1)).length)), some (.int P2), some (.int (nI i)), some (.int (nI (j + 1)))] = [some (.ref (ad 5 0)), some (.int (nI cell)), some (.ref (ad 18 2)), some (.int (nI (inB (σ 7 3) x ρ j).length)), some (.int P2), some (.int (nI i)), some (.int (nI j + Int32.ofInt 1))] := by rw [hin, ← nI_p1 j]
                  refine r_iinc C dX3_lineUpReaders_87 rfl rfl (by decide) rfl ?_
                  refine r_goto (tgt := 30) C dX3_lineUpReaders_90 (by decide) ?_
                  exact r_swk (ih2 (j + 1) (by omega) (by omega) _ _ hg3 hP3 hgi3 hil3) rfl rfl hL3 rfl
                · have n40 := Int32.not_le.mp c40
                  have hcl : (inB (σ 7 3) x ρ j).length < 16 := (nI_ltI (by omega) (by decide)).mp n40
                  refine r_aload_n C dX3_lineUpReaders_43 rfl rfl ?_
                  refine r_get (f := 4) C dX3_lineUpReaders_44 ⟨by decide, by decide⟩ rfl rfl kU3 (by decide) kf_X3_27 rfl rfl ?_
                  refine r_iload C dX3_lineUpReaders_47 rfl ?_
                  refine r_ialdv (v := σ 7 3 j) C dX3_lineUpReaders_49 ⟨by decide, by decide⟩ rfl (vp_in_nI hjl (by decide)) (by rw [nI_clamp (by omega)]; rfl) ?_
                  refine r_aload_n C dX3_lineUpReaders_50 rfl rfl ?_
                  refine r_iload C dX3_lineUpReaders_51 rfl ?_
                  refine r_ialdv (v := nI x) C dX3_lineUpReaders_53 ⟨by decide, by decide⟩ rfl (vp_in_nI (show i < 16 by omega) (by decide)) (by rw [nI_clamp (by omega), upR_self]; exact hgi) ?_
                  refine r_callSN C dX3_lineUpReaders_54 (c_has (upR σ 18 2 g2) τ (σ 7 3 j) (nI x)) rfl kB_X5_has rfl kS_X5_has kl_X3_46 (by decide) (Nat.le_of_ble_eq_true rfl) (by decide) ?_
                  rintro r9 σ' τ' ⟨rfl, rfl, rfl⟩
                  rw [hasB_bt hx16]
                  refine r_ifeq (tgt := 87) C dX3_lineUpReaders_57 (by decide) (fun c57 => ?_) (fun c57 => ?_)
                  · have h57 := b2i_0.mp c57
                    have hin := inB_f (ρ := ρ) (x := x) (rd := σ 7 3) (j := j) (Or.inl h57)
                    have hg3 : onL g2 (inB (σ 7 3) x ρ (j + 1)) := by rw [hin]; exact hg2
                    have hP3 : rwL P2 (inB (σ 7 3) x ρ (j + 1)) := by rw [hin]; exact hP2
                    have hgi3 := hgi
                    have hil3 : i < (inB (σ 7 3) x ρ (j + 1)).length := by rw [hin]; exact hil2
                    have hL3 : [some (Value.ref (ad 5 0)), some (.int (nI cell)), some (.ref (ad 18 2)), some (.int (nI (inB (σ 7 3) x ρ (j + 1)).length)), some (.int P2), some (.int (nI i)), some (.int (nI (j + 1)))] = [some (.ref (ad 5 0)), some (.int (nI cell)), some (.ref (ad 18 2)), some (.int (nI (inB (σ 7 3) x ρ j).length)), some (.int P2), some (.int (nI i)), some (.int (nI j + Int32.ofInt 1))] := by rw [hin, ← nI_p1 j]
                    refine r_iinc C dX3_lineUpReaders_87 rfl rfl (by decide) rfl ?_
                    refine r_goto (tgt := 30) C dX3_lineUpReaders_90 (by decide) ?_
                    exact r_swk (ih2 (j + 1) (by omega) (by omega) _ _ hg3 hP3 hgi3 hil3) rfl rfl hL3 rfl
                  · have h57 := b2i_n.mp c57
                    refine r_iload C dX3_lineUpReaders_60 rfl ?_
                    refine r_iload C dX3_lineUpReaders_62 rfl ?_
                    refine r_callSN C dX3_lineUpReaders_64 (c_has (upR σ 18 2 g2) τ P2 (nI j)) rfl kB_X5_has rfl kS_X5_has kl_X3_46 (by decide) (Nat.le_of_ble_eq_true rfl) (by decide) ?_
                    rintro r9 σ' τ' ⟨rfl, rfl, rfl⟩
                    rw [hasB_bt hjl]
                    refine r_ifne (tgt := 87) C dX3_lineUpReaders_67 (by decide) (fun c67 => ?_) (fun c67 => ?_)
                    · have h67 := b2i_n.mp c67
                      have hin := inB_f (ρ := ρ) (x := x) (rd := σ 7 3) (j := j) (Or.inr ((hP2.2.2 j hjl).mp h67))
                      have hg3 : onL g2 (inB (σ 7 3) x ρ (j + 1)) := by rw [hin]; exact hg2
                      have hP3 : rwL P2 (inB (σ 7 3) x ρ (j + 1)) := by rw [hin]; exact hP2
                      have hgi3 := hgi
                      have hil3 : i < (inB (σ 7 3) x ρ (j + 1)).length := by rw [hin]; exact hil2
                      have hL3 : [some (Value.ref (ad 5 0)), some (.int (nI cell)), some (.ref (ad 18 2)), some (.int (nI (inB (σ 7 3) x ρ (j + 1)).length)), some (.int P2), some (.int (nI i)), some (.int (nI (j + 1)))] = [some (.ref (ad 5 0)), some (.int (nI cell)), some (.ref (ad 18 2)), some (.int (nI (inB (σ 7 3) x ρ j).length)), some (.int P2), some (.int (nI i)), some (.int (nI j + Int32.ofInt 1))] := by rw [hin, ← nI_p1 j]
                      refine r_iinc C dX3_lineUpReaders_87 rfl rfl (by decide) rfl ?_
                      refine r_goto (tgt := 30) C dX3_lineUpReaders_90 (by decide) ?_
                      exact r_swk (ih2 (j + 1) (by omega) (by omega) _ _ hg3 hP3 hgi3 hil3) rfl rfl hL3 rfl
                    · have h67 := b2i_0.mp c67
                      have hnin : ¬ j ∈ inB (σ 7 3) x ρ j := fun q => by rw [(hP2.2.2 j hjl).mpr q] at h67; cases h67
                      refine r_aload_n C dX3_lineUpReaders_70 rfl rfl ?_
                      refine r_iload_n C dX3_lineUpReaders_71 rfl rfl ?_
                      refine r_iload C dX3_lineUpReaders_72 rfl ?_
                      refine r_iastv C dX3_lineUpReaders_74 ⟨by decide, by decide⟩ (fun _ => rfl) (vp_in_nI hcl (by decide)) (nI_clamp (by omega)) ?_
                      rw [up3_upR]
                      have hin := inB_t (ρ := ρ) (x := x) (rd := σ 7 3) (j := j) h57 hnin
                      have hg3 : onL (upd g2 (inB (σ 7 3) x ρ j).length (nI j)) (inB (σ 7 3) x ρ (j + 1)) := by rw [hin]; exact onL_push hg2 j
                      have hP3 : rwL (P2 ||| b1 j) (inB (σ 7 3) x ρ (j + 1)) := by rw [hin]; exact rwL_push hP2 hjl hnin
                      have hgi3 : upd g2 (inB (σ 7 3) x ρ j).length (nI j) i = nI x := by unfold upd; rw [if_neg (by omega)]; exact hgi
                      have hil3 : i < (inB (σ 7 3) x ρ (j + 1)).length := by rw [hin, List.length_append]; omega
                      have hL3 : [some (Value.ref (ad 5 0)), some (.int (nI cell)), some (.ref (ad 18 2)), some (.int (nI (inB (σ 7 3) x ρ (j + 1)).length)), some (.int (P2 ||| b1 j)), some (.int (nI i)), some (.int (nI (j + 1)))] = [some (.ref (ad 5 0)), some (.int (nI cell)), some (.ref (ad 18 2)), some (.int (nI (inB (σ 7 3) x ρ j).length + Int32.ofInt 1)), some (.int (P2 ||| b1 j)), some (.int (nI i)), some (.int (nI j + Int32.ofInt 1))] := by
                        rw [hin, List.length_append, List.length_singleton, ← nI_p1 j, ← nI_p1 (inB (σ 7 3) x ρ j).length]
                      refine r_iinc C dX3_lineUpReaders_75 rfl rfl (by decide) rfl ?_
                      refine r_iload C dX3_lineUpReaders_78 rfl ?_
                      refine r_iconst (v := 1) C dX3_lineUpReaders_80 rfl ?_
                      refine r_iload C dX3_lineUpReaders_81 rfl ?_
                      refine r_ishl C dX3_lineUpReaders_83 ?_
                      refine r_ior C dX3_lineUpReaders_84 ?_
                      refine r_istore C dX3_lineUpReaders_85 (by decide) rfl ?_
                      refine r_iinc C dX3_lineUpReaders_87 rfl rfl (by decide) rfl ?_
                      refine r_goto (tgt := 30) C dX3_lineUpReaders_90 (by decide) ?_
                      exact r_swk (ih2 (j + 1) (by omega) (by omega) _ _ hg3 hP3 hgi3 hil3) rfl rfl hL3 rfl
          exact lp2 17 0 (by omega) (by omega) g P hg hP (hg i x hxi) hil
  refine r_swk (lp1 17 0 (by omega) (by omega) [cell] (upd (σ 18 2) 0 (nI cell)) (b1 cell) ?_ ?_ rfl) rfl rfl rfl rfl
  · have := onL_push (g := σ 18 2) (ρ := []) (fun j x h => by simp at h) cell
    exact this
  · have := rwL_push (P := 0) (ρ := []) ⟨List.nodup_nil, fun x h => by simp at h, fun c hc => by rw [b_0]; simp⟩ hc (by simp)
    rw [show (0 : Int32) ||| b1 cell = b1 cell from b_ext (fun i _ => by rw [b_or, b_0, Bool.false_or])] at this
    exact this
