/-! ===== trials, first half: printed by g22.py ===== -/
theorem r_aaldA {l : Launch} {D : va_G} {ad : Nat → Nat → Nat} {aC : Nat → ClassId} {cc : ByteArray} {own : String} {nL : Nat} {rt : Option FieldType} {d u : Nat} {X : Prop} {PV : Option Value → gSig → gTau → Prop} {PX : String → gSig → gTau → Prop} {S : gS} {n : Nat} {σ : gSig} {τ : gTau} {pc : Nat} {L : gLoc} {st : List Value}
    (C : Cx l D ad aC cc own nL rt d u X PV PX S) {fm c0 t0 len fa j : Nat} {ct : ClassId} {E : FieldType} {i : Int32} (hd : decode cc pc = .ok (.aaload, 1)) (hok : gok fm c0) (hcel : cel ad aC σ τ fm c0 = .inl (ct, len, .inr (.inr (.inr (.inr (fun j => some (ad fa j))))))) (ht : (gty aC)[t0]? = some (ct, .array E)) (hin : vp_in i len) (hj : i.toNatClampNeg = j) (k : S n σ τ (pc + 1) L (.ref (ad fa j) :: st)) : S n σ τ pc L (.int i :: .ref (ad fm c0) :: st) := by
  obtain ⟨p, e, s, m, args, below, meth, c, Q, hx, hb, hml, hown, hts, hr, hlk, hK, hN, hI, hQ, hX, rfl⟩ := C
  intro H locs ls hP hS hl
  obtain ⟨q0, hg, -⟩ := Wd_get (ad := ad) (aC := aC) hok
  have he := hg σ τ
  rw [hcel] at he
  have hlt : i.toNatClampNeg < len := Nat.not_le.mp fun q => hin (Or.inr q)
  subst hj
  exact W.aald (v := .ref (ad fa i.toNatClampNeg)) (ty := .array E) hx hb (hP q0 _ he) ((hK.2 t0 _ ht).1 len (fun j => va_rf (some (ad fa j)))) rfl (fun q => by cases q) (by show ¬ (i < 0 ∨ (arrV _ _ _).slots.size ≤ _); rw [arrV_size]; exact hin) (by show (arrV _ _ _).slots[_]? = _; rw [arrV_read _ _ hlt]; rfl) rfl rfl hd (k H locs ls hP hS hl)
theorem up3_id {σ : gSig} {f c i : Nat} {x : Int32} (h : σ f c i = x) : up3 σ f c i x = σ := by
  funext f' c' i'
  unfold up3
  split
  · rename_i q; rw [q.1, q.2.1, q.2.2, h]
  · rfl
theorem up3_up3 (σ : gSig) (f c i : Nat) (x y : Int32) : up3 (up3 σ f c i x) f c i y = up3 σ f c i y := by
  funext f' c' i'
  unfold up3
  split <;> simp_all
/-- a row of a trial, and the number drawn last -/
def rwS (σ : gSig) (row : Nat → Int32) (d : Nat) : gSig := up3 (upR σ 14 0 row) 13 0 7 (nI d)
theorem rwS_d (σ : gSig) (row : Nat → Int32) (d d' : Nat) : up3 (rwS σ row d) 13 0 7 (nI d') = rwS σ row d' := up3_up3 _ _ _ _ _ _
theorem rwS_row (σ : gSig) (row : Nat → Int32) (d c : Nat) (x : Int32) : up3 (rwS σ row d) 14 0 c x = rwS σ (upd row c x) d := by
  funext f' c' i'
  unfold rwS up3 upR upd
  by_cases h1 : f' = 14
  · subst h1
    by_cases h2 : c' = 0
    · subst h2
      by_cases h3 : i' = c <;> simp [h3]
    · simp [h2]
  · simp [h1]
theorem rwS_id (σ : gSig) (d : Nat) (h : σ 13 0 7 = nI d) : rwS σ (σ 14 0) d = σ := by
  unfold rwS
  rw [upR_id]
  exact up3_id h
abbrev inpC (σ : gSig) : Nat → Bool := fun z => bt (σ 5 0 8) z
theorem frF_d {inp : Nat → Bool} {lo hi : Nat → Int32} {a : Nat} {row : Nat → Int32} {d : Nat} (hd : d < 7875) : ∀ n, (frF inp lo hi a row d n).2 < 7875
  | 0 => hd
  | n + 1 => by
    unfold frF
    split
    · exact nxD_lt (frF_d hd n)
    · exact frF_d hd n
theorem frF_t {inp : Nat → Bool} {lo hi : Nat → Int32} {a : Nat} {row : Nat → Int32} {d c : Nat} (h : inp c = true) : frF inp lo hi a row d (c + 1) = (upd (frF inp lo hi a row d c).1 c (rvV a (lo c) (hi c) (nxD a (frF inp lo hi a row d c).2)), nxD a (frF inp lo hi a row d c).2) := if_pos h
theorem frF_f {inp : Nat → Bool} {lo hi : Nat → Int32} {a : Nat} {row : Nat → Int32} {d c : Nat} (h : inp c = false) : frF inp lo hi a row d (c + 1) = frF inp lo hi a row d c := if_neg (by rw [h]; decide)
set_option maxRecDepth 100000 in
set_option maxHeartbeats 4000000 in
theorem c_untry {l : Launch} {D : va_G} {ad : Nat → Nat → Nat} {aC : Nat → ClassId} (σ : gSig) (τ : gTau) (cs : Int32) : CZ l D ad aC yX4_untry cX4_untry 3 (some .int) 1 [.ref (ad 13 0), .int cs] σ τ (gEq (some (.int (bcJ (σ 13 0 5 &&& cs)))) (up3 σ 13 0 5 (σ 13 0 5 &&& (cs ^^^ (-1)))) τ) := by
  refine CZ.of (own := RX4) (by decide +kernel) rfl (Nat.le_of_ble_eq_true rfl) (fun S C => ?_)
  refine r_aload_n C dX4_untry_0 rfl rfl ?_
  refine r_get (f := 5) C dX4_untry_1 ⟨by decide, by decide⟩ rfl rfl kU4 (by decide) kf_X4_29 rfl rfl ?_
  refine r_iload_n C dX4_untry_4 rfl rfl ?_
  refine r_iand C dX4_untry_5 ?_
  refine r_istore_n C dX4_untry_6 rfl (by decide) rfl ?_
  refine r_aload_n C dX4_untry_7 rfl rfl ?_
  refine r_dup C dX4_untry_8 rfl ?_
  refine r_get (f := 5) C dX4_untry_9 ⟨by decide, by decide⟩ rfl rfl kU4 (by decide) kf_X4_29 rfl rfl ?_
  refine r_iload_n C dX4_untry_12 rfl rfl ?_
  refine r_iconst (v := (-1)) C dX4_untry_13 rfl ?_
  refine r_ixor C dX4_untry_14 ?_
  refine r_iand C dX4_untry_15 ?_
  refine r_put (f := 5) C dX4_untry_16 ⟨by decide, by decide⟩ rfl rfl kU4 tyX4 tyX4_ok nmX4 (by decide) kf_X4_29 rfl rfl (by decide +kernel) (Nat.le_of_ble_eq_true rfl) (by simp [cel, up3]) ?_
  refine r_iload_n C dX4_untry_19 rfl rfl ?_
  refine r_callS C dX4_untry_20 (c_bitCount (up3 σ 13 0 5 (σ 13 0 5 &&& (cs ^^^ (-1)))) τ (σ 13 0 5 &&& cs)) rfl kB_J6_bitCount_0f7a4 rfl kS_J6_bitCount_0f7a4 kl_X4_33 (by decide) (Nat.le_of_ble_eq_true rfl) (by decide) ?_
  rintro r9 σ' τ' ⟨rfl, rfl, rfl⟩
  exact r_iret C dX4_untry_23 rfl (by decide) ⟨rfl, rfl, rfl⟩
set_option maxRecDepth 100000 in
set_option maxHeartbeats 4000000 in
theorem c_rowValue {l : Launch} {D : va_G} {ad : Nat → Nat → Nat} {aC : Nat → ClassId} (σ : gSig) (τ : gTau) (a d : Nat) (lo hi : Int32) (ha : a < 20) (hd : d < 7875) (hd0 : σ 13 0 7 = nI d) (hr : (-1000000 : Int32) ≤ lo ∧ lo ≤ hi ∧ hi ≤ 1000000) : CZ l D ad aC yX4_rowValue cX4_rowValue 5 (some .int) 1 [.ref (ad 13 0), .int (nI a), .int lo, .int hi] σ τ (gEq (some (.int (rvV a lo hi (nxD a d)))) (up3 σ 13 0 7 (nI (nxD a d))) τ) := by
  refine CZ.of (own := RX4) (by decide +kernel) rfl (Nat.le_of_ble_eq_true rfl) (fun S C => ?_)
  refine r_iload_n C dX4_rowValue_0 rfl rfl ?_
  refine r_ifne (tgt := 6) C dX4_rowValue_1 (by decide) (fun c1 => ?_) (fun c1 => ?_)
  · have ha0 : ¬ a = 0 := fun q => c1 (by rw [q]; rfl)
    refine r_iload_n C dX4_rowValue_6 rfl rfl ?_
    refine r_iconst (v := 1) C dX4_rowValue_7 rfl ?_
    refine r_icmpne (tgt := 13) C dX4_rowValue_8 (by decide) (fun c8 => ?_) (fun c8 => ?_)
    · have ha1 : ¬ a = 1 := fun q => c8 (by rw [q]; rfl)
      have hnx : nxD a d = (421 * d + 1663) % 7875 := by unfold nxD; rw [if_neg (by omega)]
      obtain ⟨z, hz1, hz2, hz3, hz4⟩ := rg_size hr
      refine r_aload_n C dX4_rowValue_13 rfl rfl ?_
      refine r_sipush (v := 421) C dX4_rowValue_14 rfl ?_
      refine r_aload_n C dX4_rowValue_17 rfl rfl ?_
      refine r_get (f := 7) (v := .int (nI d)) C dX4_rowValue_18 ⟨by decide, by decide⟩ rfl rfl kU4 (by decide) kf_X4_39 rfl (by rw [← hd0]; rfl) ?_
      refine r_imul C dX4_rowValue_21 ?_
      refine r_sipush (v := 1663) C dX4_rowValue_22 rfl ?_
      refine r_iadd C dX4_rowValue_25 ?_
      refine r_sipush (v := 7875) C dX4_rowValue_26 rfl ?_
      refine r_callS C dX4_rowValue_29 (c_floorMod σ τ (421 * nI d + 1663) 7875 (by decide)) rfl kB_J9_floorMod_7cf53 rfl kS_J9_floorMod_7cf53 kl_X4_80 (by decide) (Nat.le_of_ble_eq_true rfl) (by decide) ?_
      rintro r9 σ' τ' ⟨rfl, rfl, rfl⟩
      rw [nx_drawn hd, ← hnx]
      refine r_put (f := 7) C dX4_rowValue_32 ⟨by decide, by decide⟩ rfl rfl kU4 tyX4 tyX4_ok nmX4 (by decide) kf_X4_39 rfl rfl (by decide +kernel) (Nat.le_of_ble_eq_true rfl) (by simp [cel, up3]) ?_
      refine r_iload_n C dX4_rowValue_35 rfl rfl ?_
      refine r_iload_n C dX4_rowValue_36 rfl rfl ?_
      refine r_isub C dX4_rowValue_37 ?_
      refine r_iconst (v := 1) C dX4_rowValue_38 rfl ?_
      refine r_iadd C dX4_rowValue_39 ?_
      rw [hz3]
      refine r_istore C dX4_rowValue_40 (by decide) rfl ?_
      refine r_iload C dX4_rowValue_42 rfl ?_
      refine r_iconst (v := 1) C dX4_rowValue_44 rfl ?_
      refine r_icmpge (tgt := 52) C dX4_rowValue_45 (by decide) (fun c45 => ?_) (fun c45 => ?_)
      · have n45 := Int32.not_lt.mpr c45
        refine r_iload_n C dX4_rowValue_52 rfl rfl ?_
        refine r_aload_n C dX4_rowValue_53 rfl rfl ?_
        refine r_get (f := 7) (v := .int (nI (nxD a d))) C dX4_rowValue_54 ⟨by decide, by decide⟩ rfl rfl kU4 (by decide) kf_X4_39 rfl (by simp [up3_at]) ?_
        refine r_iload C dX4_rowValue_57 rfl ?_
        refine r_irem C dX4_rowValue_59 (fun q => by have := (nI_eq (b := 0) (by omega) (by decide)).mp q; omega) ?_
        refine r_iadd C dX4_rowValue_60 ?_
        exact r_iret C dX4_rowValue_61 rfl (by decide) ⟨by unfold rvV; rw [if_neg ha0, if_neg ha1, hz3], rfl, rfl⟩
      · have n45 := Int32.not_le.mp c45
        exact absurd ((nI_leI (a := 1) (by decide) (by omega)).mpr hz1) c45
    · have ha1 : a = 1 := (nI_eq (by omega) (by decide)).mp c8
      have hret : rvV a lo hi (nxD a d) = hi := by unfold rvV; rw [if_neg ha0, if_pos ha1]
      have hnx : nxD a d = d := by unfold nxD; rw [if_pos (by omega)]
      refine r_iload_n C dX4_rowValue_11 rfl rfl ?_
      exact r_iret C dX4_rowValue_12 rfl (by decide) ⟨by rw [hret], by rw [hnx]; exact up3_id hd0, rfl⟩
  · have ha0 : a = 0 := (nI_eq (by omega) (by decide)).mp c1
    have hret : rvV a lo hi (nxD a d) = lo := by unfold rvV; rw [if_pos ha0]
    have hnx : nxD a d = d := by unfold nxD; rw [if_pos (by omega)]
    refine r_iload_n C dX4_rowValue_4 rfl rfl ?_
    exact r_iret C dX4_rowValue_5 rfl (by decide) ⟨by rw [hret], by rw [hnx]; exact up3_id hd0, rfl⟩
set_option maxRecDepth 100000 in
set_option maxHeartbeats 4000000 in
theorem c_fillRow {l : Launch} {D : va_G} {ad : Nat → Nat → Nat} {aC : Nat → ClassId} (σ : gSig) (τ : gTau) (a d : Nat) (ha : a < 20) (hd : d < 7875) (hd0 : σ 13 0 7 = nI d) (hrg : rgK (inpC σ) (σ 7 0) (σ 7 1)) : CZ l D ad aC yX4_fillRow cX4_fillRow 4 none 2 [.ref (ad 13 0), .int (nI a), .ref (ad 5 0)] σ τ (gEq none (rwS σ (frF (inpC σ) (σ 7 0) (σ 7 1) a (σ 14 0) d 16).1 (frF (inpC σ) (σ 7 0) (σ 7 1) a (σ 14 0) d 16).2) τ) := by
  refine CZ.of (own := RX4) (by decide +kernel) rfl (Nat.le_of_ble_eq_true rfl) (fun S C => ?_)
  refine r_iconst (v := 0) C dX4_fillRow_0 rfl ?_
  refine r_istore_n C dX4_fillRow_1 rfl (by decide) rfl ?_
  have loop : ∀ m c, c ≤ 16 → 16 - c < m → S 0 (rwS σ (frF (inpC σ) (σ 7 0) (σ 7 1) a (σ 14 0) d c).1 (frF (inpC σ) (σ 7 0) (σ 7 1) a (σ 14 0) d c).2) τ 2 [some (.ref (ad 13 0)), some (.int (nI a)), some (.ref (ad 5 0)), some (.int (nI c))] [] := by
    intro m
    induction m with
    | zero => intro c _ hm; omega
    | succ m ihloop =>
      intro c hiloop hmloop
      refine r_iload_n C dX4_fillRow_2 rfl rfl ?_
      refine r_bipush (v := 16) C dX4_fillRow_3 rfl ?_
      refine r_icmpge (tgt := 45) C dX4_fillRow_5 (by decide) (fun c5 => ?_) (fun c5 => ?_)
      · have n5 := Int32.not_lt.mpr c5
        have hloope : c = 16 := by
          have := (nI_leI (a := 16) (by omega) (by omega)).mp c5
          omega
        subst hloope
        exact r_ret C dX4_fillRow_45 rfl (by decide) ⟨rfl, rfl, rfl⟩
      · have n5 := Int32.not_le.mp c5
        have hloopl : c < 16 := (nI_ltI (b := 16) (by omega) (by omega)).mp n5
        refine r_aload_n C dX4_fillRow_8 rfl rfl ?_
        refine r_iload_n C dX4_fillRow_9 rfl rfl ?_
        refine r_callV C dX4_fillRow_10 (c_isInput (rwS σ (frF (inpC σ) (σ 7 0) (σ 7 1) a (σ 14 0) d c).1 (frF (inpC σ) (σ 7 0) (σ 7 1) a (σ 14 0) d c).2) τ (nI c)) rfl ⟨by decide, by decide⟩ rfl rfl kB_X3_isInput rfl kI_X3_isInput kV_X3_isInput kl_X4_64 (by decide) (Nat.le_of_ble_eq_true rfl) (by decide) ?_
        rintro r9 σ' τ' ⟨rfl, rfl, rfl⟩
        rw [show hasB ((rwS σ (frF (inpC σ) (σ 7 0) (σ 7 1) a (σ 14 0) d c).1 (frF (inpC σ) (σ 7 0) (σ 7 1) a (σ 14 0) d c).2) 5 0 8) (nI c) = bt (σ 5 0 8) c from hasB_bt hloopl _]
        refine r_ifeq (tgt := 39) C dX4_fillRow_13 (by decide) (fun c13 => ?_) (fun c13 => ?_)
        · have h13 : inpC σ c = false := b2i_0.mp c13
          have hstep := frF_f (lo := σ 7 0) (hi := σ 7 1) (a := a) (row := σ 14 0) (d := d) h13
          refine r_iinc C dX4_fillRow_39 rfl rfl (by decide) rfl ?_
          refine r_goto (tgt := 2) C dX4_fillRow_42 (by decide) ?_
          exact r_swk (ihloop (c + 1) (by omega) (by omega)) (by rw [hstep]) rfl (by rw [← nI_p1]; rfl) rfl
        · have h13 : inpC σ c = true := b2i_n.mp c13
          have hstep := frF_t (lo := σ 7 0) (hi := σ 7 1) (a := a) (row := σ 14 0) (d := d) h13
          refine r_aload_n C dX4_fillRow_16 rfl rfl ?_
          refine r_get (f := 0) C dX4_fillRow_17 ⟨by decide, by decide⟩ rfl rfl kU4 (by decide) kf_X4_9 rfl rfl ?_
          refine r_iload_n C dX4_fillRow_20 rfl rfl ?_
          refine r_aload_n C dX4_fillRow_21 rfl rfl ?_
          refine r_iload_n C dX4_fillRow_22 rfl rfl ?_
          refine r_aload_n C dX4_fillRow_23 rfl rfl ?_
          refine r_get (f := 1) C dX4_fillRow_24 ⟨by decide, by decide⟩ rfl rfl kU3 (by decide) kf_X4_70 rfl rfl ?_
          refine r_iload_n C dX4_fillRow_27 rfl rfl ?_
          refine r_ialdv (v := σ 7 0 c) C dX4_fillRow_28 ⟨by decide, by decide⟩ rfl (vp_in_nI hloopl (by decide)) (by rw [nI_clamp (by omega)]; rfl) ?_
          refine r_aload_n C dX4_fillRow_29 rfl rfl ?_
          refine r_get (f := 2) C dX4_fillRow_30 ⟨by decide, by decide⟩ rfl rfl kU3 (by decide) kf_X4_73 rfl rfl ?_
          refine r_iload_n C dX4_fillRow_33 rfl rfl ?_
          refine r_ialdv (v := σ 7 1 c) C dX4_fillRow_34 ⟨by decide, by decide⟩ rfl (vp_in_nI hloopl (by decide)) (by rw [nI_clamp (by omega)]; rfl) ?_
          refine r_callV C dX4_fillRow_35 (c_rowValue (rwS σ (frF (inpC σ) (σ 7 0) (σ 7 1) a (σ 14 0) d c).1 (frF (inpC σ) (σ 7 0) (σ 7 1) a (σ 14 0) d c).2) τ a (frF (inpC σ) (σ 7 0) (σ 7 1) a (σ 14 0) d c).2 (σ 7 0 c) (σ 7 1 c) ha (frF_d hd c) (by unfold rwS; simp [up3_at]) (hrg c hloopl h13)) rfl ⟨by decide, by decide⟩ rfl rfl kB_X4_rowValue rfl kI_X4_rowValue kV_X4_rowValue kl_X4_76 (by decide) (Nat.le_of_ble_eq_true rfl) (by decide) ?_
          rintro r9 σ' τ' ⟨rfl, rfl, rfl⟩
          rw [rwS_d]
          refine r_iastv C dX4_fillRow_38 ⟨by decide, by decide⟩ (fun _ => rfl) (vp_in_nI hloopl (by decide)) (nI_clamp (by omega)) ?_
          rw [rwS_row]
          refine r_iinc C dX4_fillRow_39 rfl rfl (by decide) rfl ?_
          refine r_goto (tgt := 2) C dX4_fillRow_42 (by decide) ?_
          exact r_swk (ihloop (c + 1) (by omega) (by omega)) (by rw [hstep]) rfl (by rw [← nI_p1]; rfl) rfl
  refine r_swk (loop 17 0 (by omega) (by omega)) ?_ rfl rfl rfl
  exact rwS_id σ d hd0
def kfS (σ : gSig) (cell : Nat) (b t inp : Int32) : gSig := upR (up3 (up3 (up3 (up3 (up3 σ 13 0 5 (σ 13 0 5 &&& (b1 cell ^^^ (-1)))) 13 0 6 (σ 13 0 6 ||| b1 cell)) 14 1 cell b) 14 2 cell t) 14 3 cell inp) 16 cell (va_cpy (σ 14 0) (σ 16 cell) 0 0 16)
theorem kl_copy4 : Jvm.Cond.methodLink RX4 58 arraycopyName ∈ wsG := wsG_of (by decide +kernel) (by decide +kernel)
def kpS (σ : gSig) (cell : Nat) : gSig := up3 (up3 σ 13 0 6 (σ 13 0 6 &&& (b1 cell ^^^ (-1)))) 13 0 5 (σ 13 0 5 ||| b1 cell)
/-- which property was broken -/
def brS (σ : gSig) (b : Int32) : gSig := up3 σ 13 0 8 b
set_option maxRecDepth 100000 in
set_option maxHeartbeats 4000000 in
theorem c_keepFailed {l : Launch} {D : va_G} {ad : Nat → Nat → Nat} {aC : Nat → ClassId} (σ : gSig) (τ : gTau) (cell : Nat) (t inp : Int32) (hc : cell < 16) : CZ l D ad aC yX4_keepFailed cX4_keepFailed 4 none 1 [.ref (ad 13 0), .int (nI cell), .int t, .int inp] σ τ (gEq none (kfS σ cell (σ 13 0 8) t inp) τ) := by
  refine CZ.of (own := RX4) (by decide +kernel) rfl (Nat.le_of_ble_eq_true rfl) (fun S C => ?_)
  refine r_aload_n C dX4_keepFailed_0 rfl rfl ?_
  refine r_dup C dX4_keepFailed_1 rfl ?_
  refine r_get (f := 5) C dX4_keepFailed_2 ⟨by decide, by decide⟩ rfl rfl kU4 (by decide) kf_X4_29 rfl rfl ?_
  refine r_iconst (v := 1) C dX4_keepFailed_5 rfl ?_
  refine r_iload_n C dX4_keepFailed_6 rfl rfl ?_
  refine r_ishl C dX4_keepFailed_7 ?_
  refine r_iconst (v := (-1)) C dX4_keepFailed_8 rfl ?_
  refine r_ixor C dX4_keepFailed_9 ?_
  refine r_iand C dX4_keepFailed_10 ?_
  refine r_put (f := 5) C dX4_keepFailed_11 ⟨by decide, by decide⟩ rfl rfl kU4 tyX4 tyX4_ok nmX4 (by decide) kf_X4_29 rfl rfl (by decide +kernel) (Nat.le_of_ble_eq_true rfl) (by simp [cel, up3]) ?_
  refine r_aload_n C dX4_keepFailed_14 rfl rfl ?_
  refine r_dup C dX4_keepFailed_15 rfl ?_
  refine r_get (f := 6) (v := .int (σ 13 0 6)) C dX4_keepFailed_16 ⟨by decide, by decide⟩ rfl rfl kU4 (by decide) kf_X4_55 rfl (by simp [up3_at]) ?_
  refine r_iconst (v := 1) C dX4_keepFailed_19 rfl ?_
  refine r_iload_n C dX4_keepFailed_20 rfl rfl ?_
  refine r_ishl C dX4_keepFailed_21 ?_
  refine r_ior C dX4_keepFailed_22 ?_
  refine r_put (f := 6) C dX4_keepFailed_23 ⟨by decide, by decide⟩ rfl rfl kU4 tyX4 tyX4_ok nmX4 (by decide) kf_X4_55 rfl rfl (by decide +kernel) (Nat.le_of_ble_eq_true rfl) (by simp [cel, up3]) ?_
  refine r_aload_n C dX4_keepFailed_26 rfl rfl ?_
  refine r_get (f := 1) C dX4_keepFailed_27 ⟨by decide, by decide⟩ rfl rfl kU4 (by decide) kf_X4_15 rfl rfl ?_
  refine r_iload_n C dX4_keepFailed_30 rfl rfl ?_
  refine r_aload_n C dX4_keepFailed_31 rfl rfl ?_
  refine r_get (f := 8) (v := .int (σ 13 0 8)) C dX4_keepFailed_32 ⟨by decide, by decide⟩ rfl rfl kU4 (by decide) kf_X4_52 rfl (by simp [up3_at]) ?_
  refine r_iastv C dX4_keepFailed_35 ⟨by decide, by decide⟩ (fun _ => rfl) (vp_in_nI hc (by decide)) (nI_clamp (by omega)) ?_
  refine r_aload_n C dX4_keepFailed_36 rfl rfl ?_
  refine r_get (f := 2) C dX4_keepFailed_37 ⟨by decide, by decide⟩ rfl rfl kU4 (by decide) kf_X4_18 rfl rfl ?_
  refine r_iload_n C dX4_keepFailed_40 rfl rfl ?_
  refine r_iload_n C dX4_keepFailed_41 rfl rfl ?_
  refine r_iastv C dX4_keepFailed_42 ⟨by decide, by decide⟩ (fun _ => rfl) (vp_in_nI hc (by decide)) (nI_clamp (by omega)) ?_
  refine r_aload_n C dX4_keepFailed_43 rfl rfl ?_
  refine r_get (f := 3) C dX4_keepFailed_44 ⟨by decide, by decide⟩ rfl rfl kU4 (by decide) kf_X4_21 rfl rfl ?_
  refine r_iload_n C dX4_keepFailed_47 rfl rfl ?_
  refine r_iload_n C dX4_keepFailed_48 rfl rfl ?_
  refine r_iastv C dX4_keepFailed_49 ⟨by decide, by decide⟩ (fun _ => rfl) (vp_in_nI hc (by decide)) (nI_clamp (by omega)) ?_
  refine r_aload_n C dX4_keepFailed_50 rfl rfl ?_
  refine r_get (f := 0) C dX4_keepFailed_51 ⟨by decide, by decide⟩ rfl rfl kU4 (by decide) kf_X4_9 rfl rfl ?_
  refine r_iconst (v := 0) C dX4_keepFailed_54 rfl ?_
  refine r_aload_n C dX4_keepFailed_55 rfl rfl ?_
  refine r_get (f := 4) C dX4_keepFailed_56 ⟨by decide, by decide⟩ rfl rfl kU4 (by decide) kf_X4_26 rfl rfl ?_
  refine r_iload_n C dX4_keepFailed_59 rfl rfl ?_
  refine r_aaldA (t0 := 5) C dX4_keepFailed_60 ⟨by decide, by decide⟩ rfl rfl (vp_in_nI hc (by decide)) (nI_clamp (by omega)) ?_
  refine r_iconst (v := 0) C dX4_keepFailed_61 rfl ?_
  refine r_bipush (v := 16) C dX4_keepFailed_62 rfl ?_
  refine r_copy (fm := 14) (fm1 := 16) C dX4_keepFailed_64 kl_copy4 kn_copy ks_copy ki_copy ⟨by decide, by decide⟩ ⟨by decide, hc⟩ rfl (fun _ => rfl) (by decide) (by decide) (by decide) (by decide) (by decide) (by decide) (by decide +kernel) ?_
  exact r_ret C dX4_keepFailed_67 rfl (by decide) ⟨rfl, rfl, rfl⟩
set_option maxRecDepth 100000 in
set_option maxHeartbeats 4000000 in
theorem c_keepPassed {l : Launch} {D : va_G} {ad : Nat → Nat → Nat} {aC : Nat → ClassId} (σ : gSig) (τ : gTau) (cell : Nat) : CZ l D ad aC yX4_keepPassed cX4_keepPassed 2 none 1 [.ref (ad 13 0), .int (nI cell)] σ τ (gEq none (kpS σ cell) τ) := by
  refine CZ.of (own := RX4) (by decide +kernel) rfl (Nat.le_of_ble_eq_true rfl) (fun S C => ?_)
  refine r_aload_n C dX4_keepPassed_0 rfl rfl ?_
  refine r_dup C dX4_keepPassed_1 rfl ?_
  refine r_get (f := 6) C dX4_keepPassed_2 ⟨by decide, by decide⟩ rfl rfl kU4 (by decide) kf_X4_55 rfl rfl ?_
  refine r_iconst (v := 1) C dX4_keepPassed_5 rfl ?_
  refine r_iload_n C dX4_keepPassed_6 rfl rfl ?_
  refine r_ishl C dX4_keepPassed_7 ?_
  refine r_iconst (v := (-1)) C dX4_keepPassed_8 rfl ?_
  refine r_ixor C dX4_keepPassed_9 ?_
  refine r_iand C dX4_keepPassed_10 ?_
  refine r_put (f := 6) C dX4_keepPassed_11 ⟨by decide, by decide⟩ rfl rfl kU4 tyX4 tyX4_ok nmX4 (by decide) kf_X4_55 rfl rfl (by decide +kernel) (Nat.le_of_ble_eq_true rfl) (by simp [cel, up3]) ?_
  refine r_aload_n C dX4_keepPassed_14 rfl rfl ?_
  refine r_dup C dX4_keepPassed_15 rfl ?_
  refine r_get (f := 5) (v := .int (σ 13 0 5)) C dX4_keepPassed_16 ⟨by decide, by decide⟩ rfl rfl kU4 (by decide) kf_X4_29 rfl (by simp [up3_at]) ?_
  refine r_iconst (v := 1) C dX4_keepPassed_19 rfl ?_
  refine r_iload_n C dX4_keepPassed_20 rfl rfl ?_
  refine r_ishl C dX4_keepPassed_21 ?_
  refine r_ior C dX4_keepPassed_22 ?_
  refine r_put (f := 5) C dX4_keepPassed_23 ⟨by decide, by decide⟩ rfl rfl kU4 tyX4 tyX4_ok nmX4 (by decide) kf_X4_29 rfl rfl (by decide +kernel) (Nat.le_of_ble_eq_true rfl) (by simp [cel, up3]) ?_
  exact r_ret C dX4_keepPassed_26 rfl (by decide) ⟨rfl, rfl, rfl⟩
