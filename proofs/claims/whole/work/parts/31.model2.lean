/-! ===== the law's model, second part: orders, changes, drafts, enter: printed by g31.py ===== -/
theorem mR_eq {σ σ' : gSig} (h2 : σ' 20 2 = σ 20 2) (h3 : σ' 20 3 = σ 20 3) (h4 : σ' 20 4 = σ 20 4) : mR σ' = mR σ := by
  funext c
  unfold mR mL
  have e1 : mK σ' c = mK σ c := by funext k; unfold mK; rw [h3, h4]
  have e2 : mN σ' c = mN σ c := by funext k; unfold mN; rw [h4]
  rw [e1, e2, h2]
theorem msK_eq {σ σ' : gSig} {c : Nat} (h2 : σ' 20 2 = σ 20 2) (h3 : σ' 20 3 = σ 20 3) (h4 : σ' 20 4 = σ 20 4) (h : msK σ c) : msK σ' c := by
  unfold msK mL at *
  rw [h2, h3, h4]
  exact h
theorem mR_upR (σ : gSig) (f c : Nat) (g : Nat → Int32) (h : f ≠ 20 ∨ (c ≠ 2 ∧ c ≠ 3 ∧ c ≠ 4)) : mR (upR σ f c g) = mR σ := by
  have hh : ∀ j, (j = 2 ∨ j = 3 ∨ j = 4) → (upR σ f c g) 20 j = σ 20 j := fun j hj => upR_ne _ _ _ _ (fun q => by
    have q1 := congrArg Prod.fst q
    have q2 := congrArg Prod.snd q
    dsimp only at q1 q2
    omega)
  exact mR_eq (hh 2 (by decide)) (hh 3 (by decide)) (hh 4 (by decide))
theorem msK_upR {σ : gSig} (f c : Nat) (g : Nat → Int32) {d : Nat} (h : f ≠ 20 ∨ (c ≠ 2 ∧ c ≠ 3 ∧ c ≠ 4)) (hm : msK σ d) : msK (upR σ f c g) d := by
  have hh : ∀ j, (j = 2 ∨ j = 3 ∨ j = 4) → (upR σ f c g) 20 j = σ 20 j := fun j hj => upR_ne _ _ _ _ (fun q => by
    have q1 := congrArg Prod.fst q
    have q2 := congrArg Prod.snd q
    dsimp only at q1 q2
    omega)
  exact msK_eq (hh 2 (by decide)) (hh 3 (by decide)) (hh 4 (by decide)) hm
theorem mR_up3 (σ : gSig) (f c i : Nat) (x : Int32) (h : f ≠ 20 ∨ (c ≠ 2 ∧ c ≠ 3 ∧ c ≠ 4)) : mR (up3 σ f c i x) = mR σ := by rw [up3_eq, mR_upR _ _ _ _ h]
theorem msK_up3 {σ : gSig} (f c i : Nat) (x : Int32) {d : Nat} (h : f ≠ 20 ∨ (c ≠ 2 ∧ c ≠ 3 ∧ c ≠ 4)) (hm : msK σ d) : msK (up3 σ f c i x) d := by rw [up3_eq]; exact msK_upR _ _ _ h hm
theorem nI_m1 (n : Nat) : nI (n + 1) + Int32.ofInt (-1) = nI n := by
  rw [← nI_p1, Int32.add_assoc]
  exact Int32.add_zero _
/-- the least cell that can be laid next, among those from n on -/
def orB (rd : Nat → Int32) (P b : Int32) (n : Nat) : Prop := (b = -1 ∧ ∀ c, n ≤ c → c < 16 → bt P c = false → ¬ rd c &&& (P ^^^ (-1)) = 0) ∨ ∃ c, c < 16 ∧ b = nI c ∧ bt P c = false ∧ rd c &&& (P ^^^ (-1)) = 0
theorem orB_no {rd : Nat → Int32} {P b : Int32} {n : Nat} (h : orB rd P b (n + 1)) (hn : bt P n = true ∨ ¬ rd n &&& (P ^^^ (-1)) = 0) : orB rd P b n := by
  rcases h with ⟨h1, h2⟩ | h
  · refine Or.inl ⟨h1, fun c hc hc2 h3 => ?_⟩
    by_cases e : c = n
    · subst e
      rcases hn with hn | hn
      · rw [hn] at h3; cases h3
      · exact hn
    · exact h2 c (by omega) hc2 h3
  · exact Or.inr h
def orQ (σ : gSig) (τ : gTau) : Option Value → gSig → gTau → Prop := fun r σ' τ' => ∃ (ord : Nat → Int32) (o : Nat → Nat), none = r ∧ upR σ 20 19 ord = σ' ∧ τ = τ' ∧ ordI ord o 16 ∧ ordT (mR σ) o 16 ∧ ordJ o 16 ∧ ordS o
set_option maxRecDepth 100000 in
set_option maxHeartbeats 4000000 in
theorem m_orders {l : Launch} {D : va_G} {ad : Nat → Nat → Nat} {aC : Nat → ClassId} (σ : gSig) (τ : gTau) (rk : Nat → Nat) (hm : ∀ c, c < 16 → msK σ c) (hrk : ∀ c d, c < 16 → d < 16 → bt (mR σ c) d = true → rk d < rk c) : CZ l D ad aC yX6_orders cX6_orders 5 none 1 [.ref (ad 19 0)] σ τ (orQ σ τ) := by
  refine CZ.of (own := RX6) (by decide +kernel) rfl (Nat.le_of_ble_eq_true rfl) (fun S C => ?_)
  refine r_iconst (v := 0) C dX6_orders_0 rfl ?_
  refine r_istore_n C dX6_orders_1 rfl (by decide) rfl ?_
  refine r_iconst (v := 0) C dX6_orders_2 rfl ?_
  refine r_istore_n C dX6_orders_3 rfl (by decide) rfl ?_
  have lp1 : ∀ m k, k ≤ 16 → 16 - k < m → ∀ (P : Int32) (ord ro : Nat → Int32) (o : Nat → Nat), arK (mR σ) k P ord ro o → S 0 (upR σ 20 19 ord) τ 4 [some (.ref (ad 19 0)), some (.int P), some (.int (nI k)), none, none] [] := by
    intro m
    induction m with
    | zero => intro k _ hm; omega
    | succ m ih1 =>
      intro k hk hmk P ord ro o hA
      refine r_iload_n C dX6_orders_4 rfl rfl ?_
      refine r_bipush (v := 16) C dX6_orders_5 rfl ?_
      refine r_icmpge (tgt := 75) C dX6_orders_7 (by decide) (fun c7 => ?_) (fun c7 => ?_)
      · have n7 := Int32.not_lt.mpr c7
        have hk16 : k = 16 := by
          have := (nI_leI (a := 16) (by omega) (by omega)).mp c7
          omega
        subst hk16
        exact r_ret C dX6_orders_75 rfl (by decide) ⟨ord, o, rfl, rfl, rfl, (arK_end hA).1, (arK_end hA).2.1, (arK_end hA).2.2.1, (arK_end hA).2.2.2.1⟩
      · have n7 := Int32.not_le.mp c7
        have hkl : k < 16 := (nI_ltI (b := 16) (by omega) (by omega)).mp n7
        obtain ⟨z9, hz9, hp9⟩ := arK_open hA hkl
        obtain ⟨cs, hcs, hcs1, hcs2⟩ := ar_next (P := P) (fun c hc => mR_m16 (hm c hc)) hrk (rk z9 + 1) z9 hz9 (by omega) hp9
        have hMR : mR (upR σ 20 19 ord) = mR σ := mR_upR _ _ _ _ (by decide)
        refine r_iconst (v := (-1)) C dX6_orders_10 rfl ?_
        refine r_istore_n C dX6_orders_11 rfl (by decide) rfl ?_
        refine r_bipush (v := 15) C dX6_orders_12 rfl ?_
        refine r_istore C dX6_orders_14 (by decide) rfl ?_
        have lp2 : ∀ m n, n ≤ 16 → n < m → ∀ b : Int32, orB (mR σ) P b n → S 0 (upR σ 20 19 ord) τ 16 [some (.ref (ad 19 0)), some (.int P), some (.int (nI k)), some (.int b), some (.int (nI n + Int32.ofInt (-1)))] [] := by
          intro m
          induction m with
          | zero => intro n _ hm; omega
          | succ m ih2 =>
            intro n hn hmn b hB
            refine r_iload C dX6_orders_16 rfl ?_
            refine r_iflt (tgt := 56) C dX6_orders_18 (by decide) (fun c18 => ?_) (fun c18 => ?_)
            · have hn0 : n = 0 := by
                cases n with
                | zero => rfl
                | succ q => rw [nI_m1] at c18; exact absurd c18 (nI_pos (by omega))
              subst hn0
              obtain ⟨c, hc, rfl, hc1, hc2⟩ : ∃ c, c < 16 ∧ b = nI c ∧ bt P c = false ∧ (mR σ) c &&& (P ^^^ (-1)) = 0 := by
                rcases hB with ⟨-, q⟩ | q
                · exact absurd hcs2 (q cs (by omega) hcs hcs1)
                · exact q
              have hA3 := arK_push hA hkl hc hc1 hc2 (mR_m16 (hm c hc))
              refine r_aload_n C dX6_orders_56 rfl rfl ?_
              refine r_get (f := 24) C dX6_orders_57 ⟨by decide, by decide⟩ rfl rfl kU6 (by decide) kf_X6_67 rfl rfl ?_
              refine r_iload_n C dX6_orders_60 rfl rfl ?_
              refine r_iload_n C dX6_orders_61 rfl rfl ?_
              refine r_iastv C dX6_orders_62 ⟨by decide, by decide⟩ (fun _ => rfl) (vp_in_nI hkl (by decide)) (nI_clamp (by omega)) ?_
              rw [up3_upR]
              refine r_iload_n C dX6_orders_63 rfl rfl ?_
              refine r_iconst (v := 1) C dX6_orders_64 rfl ?_
              refine r_iload_n C dX6_orders_65 rfl rfl ?_
              refine r_ishl C dX6_orders_66 ?_
              refine r_ior C dX6_orders_67 ?_
              refine r_istore_n C dX6_orders_68 rfl (by decide) rfl ?_
              refine r_iinc C dX6_orders_69 rfl rfl (by decide) rfl ?_
              refine r_goto (tgt := 4) C dX6_orders_72 (by decide) ?_
              refine r_drop C [3, 4] ?_
              exact r_swk (ih1 (k + 1) (by omega) (by omega) _ _ _ _ hA3) rfl rfl (by rw [← nI_p1]; rfl) rfl
            · obtain ⟨q, rfl⟩ : ∃ q, n = q + 1 := by
                cases n with
                | zero => exact absurd (by decide) c18
                | succ q => exact ⟨q, rfl⟩
              rw [nI_m1]
              have hq : q < 16 := by omega
              refine r_iload_n C dX6_orders_21 rfl rfl ?_
              refine r_iload C dX6_orders_22 rfl ?_
              refine r_ishr C dX6_orders_24 ?_
              refine r_iconst (v := 1) C dX6_orders_25 rfl ?_
              refine r_iand C dX6_orders_26 ?_
              refine r_ifne (tgt := 48) C dX6_orders_27 (by decide) (fun c27 => ?_) (fun c27 => ?_)
              · have h27 : bt P q = true := by
                  cases hb : bt P q with
                  | true => rfl
                  | false => exact absurd ((bt_sh0 (by omega) _).mpr hb) c27
                have hB2 := orB_no hB (Or.inl h27)
                refine r_iload_n C dX6_orders_48 rfl rfl ?_
                refine r_istore_n C dX6_orders_49 rfl (by decide) rfl ?_
                refine r_iinc C dX6_orders_50 rfl rfl (by decide) rfl ?_
                refine r_goto (tgt := 16) C dX6_orders_53 (by decide) ?_
                exact r_swk (ih2 q (by omega) (by omega) _ hB2) rfl rfl rfl rfl
              · have h27 := (bt_sh0 (by omega) _).mp c27
                refine r_aload_n C dX6_orders_30 rfl rfl ?_
                refine r_iload C dX6_orders_31 rfl ?_
                refine r_callV C dX6_orders_33 (m_readBy (upR σ 20 19 ord) τ q hq (msK_upR _ _ _ (by decide) (hm q hq))) rfl ⟨by decide, by decide⟩ rfl rfl kB_X6_readBy rfl kI_X6_readBy kV_X6_readBy kl_X6_108 (by decide) (Nat.le_of_ble_eq_true rfl) (by decide) ?_
                rintro r9 σ' τ' ⟨rfl, rfl, rfl⟩
                rw [hMR]
                refine r_iload_n C dX6_orders_36 rfl rfl ?_
                refine r_iconst (v := (-1)) C dX6_orders_37 rfl ?_
                refine r_ixor C dX6_orders_38 ?_
                refine r_iand C dX6_orders_39 ?_
                refine r_ifne (tgt := 48) C dX6_orders_40 (by decide) (fun c40 => ?_) (fun c40 => ?_)
                · have hB2 := orB_no hB (Or.inr c40)
                  refine r_iload_n C dX6_orders_48 rfl rfl ?_
                  refine r_istore_n C dX6_orders_49 rfl (by decide) rfl ?_
                  refine r_iinc C dX6_orders_50 rfl rfl (by decide) rfl ?_
                  refine r_goto (tgt := 16) C dX6_orders_53 (by decide) ?_
                  exact r_swk (ih2 q (by omega) (by omega) _ hB2) rfl rfl rfl rfl
                · have hB2 : orB (mR σ) P (nI q) q := Or.inr ⟨q, hq, rfl, h27, c40⟩
                  refine r_iload C dX6_orders_43 rfl ?_
                  refine r_goto (tgt := 49) C dX6_orders_45 (by decide) ?_
                  refine r_istore_n C dX6_orders_49 rfl (by decide) rfl ?_
                  refine r_iinc C dX6_orders_50 rfl rfl (by decide) rfl ?_
                  refine r_goto (tgt := 16) C dX6_orders_53 (by decide) ?_
                  exact r_swk (ih2 q (by omega) (by omega) _ hB2) rfl rfl rfl rfl
        exact lp2 17 16 (by omega) (by omega) (-1) (Or.inl ⟨rfl, fun c h1 h2 => absurd h2 (by omega)⟩)
  refine r_swk (lp1 17 0 (by omega) (by omega) 0 (σ 20 19) (fun _ => 0) (fun _ => 0) (arK_0 _ _ _ _)) ?_ rfl rfl rfl
  rw [upR_id]
def chB (σ : gSig) (cell i : Nat) : Bool := (decide (i = cell) || bt (clR (mR σ) (mR σ i) 16) cell) && decide (σ 20 12 i = 1)
def vdF (σ : gSig) (cell n : Nat) : Nat → Int32 := fun i => if i < n ∧ chB σ cell i = true then 0 else σ 20 12 i
def cnF (σ : gSig) (cell : Nat) : Nat → Int32
  | 0 => 0
  | n + 1 => cnF σ cell n + (if chB σ cell n then 1 else 0)
theorem vdF_0 (σ : gSig) (cell : Nat) : vdF σ cell 0 = σ 20 12 := by funext i; exact if_neg (fun q => Nat.not_lt_zero _ q.1)
theorem vdF_n (σ : gSig) (cell n i : Nat) (h : n ≤ i) : vdF σ cell n i = σ 20 12 i := if_neg (fun q => absurd q.1 (by omega))
theorem vdF_s (σ : gSig) (cell n : Nat) : upd (vdF σ cell n) n (if chB σ cell n then 0 else σ 20 12 n) = vdF σ cell (n + 1) := by
  funext i
  unfold upd vdF
  by_cases h : i = n
  · subst h
    rw [if_pos rfl]
    cases hb : chB σ cell i with
    | true => rw [if_pos rfl, if_pos ⟨by omega, rfl⟩]
    | false => rw [if_neg (by decide), if_neg (fun q => by cases q.2)]
  · rw [if_neg h]
    by_cases h2 : i < n
    · simp [h2, show i < n + 1 by omega]
    · simp [h2, show ¬ i < n + 1 by omega]
/-- what a change leaves -/
def mcS (σ : gSig) (cell : Nat) (ord : Nat → Int32) (n : Nat) : gSig := upR (upR (up3 σ 20 17 cell (-1)) 20 19 ord) 20 12 (vdF σ cell n)
theorem mcS_R (σ : gSig) (cell : Nat) (ord : Nat → Int32) (n : Nat) : mR (mcS σ cell ord n) = mR σ := by
  unfold mcS
  rw [mR_upR _ _ _ _ (by decide), mR_upR _ _ _ _ (by decide), mR_up3 _ _ _ _ _ (by decide)]
theorem mcS_K {σ : gSig} {cell : Nat} {ord : Nat → Int32} {n c : Nat} (h : msK σ c) : msK (mcS σ cell ord n) c := msK_upR _ _ _ (by decide) (msK_upR _ _ _ (by decide) (msK_up3 _ _ _ _ (by decide) h))
theorem mcS_0 (σ : gSig) (cell : Nat) (ord : Nat → Int32) : mcS σ cell ord 0 = upR (up3 σ 20 17 cell (-1)) 20 19 ord := by
  unfold mcS
  rw [vdF_0]
  have : σ 20 12 = (upR (up3 σ 20 17 cell (-1)) 20 19 ord) 20 12 := by rw [upR_ne _ _ _ _ (by decide), up3_ne _ _ _ _ _ (by decide)]
  rw [this, upR_id]
theorem mcS_s (σ : gSig) (cell : Nat) (ord : Nat → Int32) (n : Nat) : up3 (mcS σ cell ord n) 20 12 n (if chB σ cell n then 0 else σ 20 12 n) = mcS σ cell ord (n + 1) := by
  unfold mcS
  rw [up3_upR, vdF_s]
theorem mcS_v (σ : gSig) (cell : Nat) (ord : Nat → Int32) (n : Nat) : (mcS σ cell ord n) 20 12 n = σ 20 12 n := by
  unfold mcS
  rw [upR_self, vdF_n _ _ _ _ (Nat.le_refl n)]
def mcQ (σ : gSig) (τ : gTau) (cell : Nat) : Option Value → gSig → gTau → Prop := fun r σ' τ' => ∃ (ord : Nat → Int32) (o : Nat → Nat), some (.int (cnF σ cell 16)) = r ∧ mcS σ cell ord 16 = σ' ∧ τ = τ' ∧ ordI ord o 16 ∧ ordT (mR σ) o 16 ∧ ordJ o 16 ∧ ordS o
set_option maxRecDepth 100000 in
set_option maxHeartbeats 4000000 in
theorem m_changes {l : Launch} {D : va_G} {ad : Nat → Nat → Nat} {aC : Nat → ClassId} (σ : gSig) (τ : gTau) (cell : Nat) (hc : cell < 16) (rk : Nat → Nat) (hm : ∀ c, c < 16 → msK σ c) (hrk : ∀ c d, c < 16 → d < 16 → bt (mR σ c) d = true → rk d < rk c) : CZ l D ad aC yX6_changes cX6_changes 5 (some .int) 2 [.ref (ad 19 0), .int (nI cell)] σ τ (mcQ σ τ cell) := by
  refine CZ.of (own := RX6) (by decide +kernel) rfl (Nat.le_of_ble_eq_true rfl) (fun S C => ?_)
  refine r_iconst (v := 0) C dX6_changes_0 rfl ?_
  refine r_istore_n C dX6_changes_1 rfl (by decide) rfl ?_
  refine r_aload_n C dX6_changes_2 rfl rfl ?_
  refine r_get (f := 21) C dX6_changes_3 ⟨by decide, by decide⟩ rfl rfl kU6 (by decide) kf_X6_61 rfl rfl ?_
  refine r_iload_n C dX6_changes_6 rfl rfl ?_
  refine r_iconst (v := (-1)) C dX6_changes_7 rfl ?_
  refine r_iastv C dX6_changes_8 ⟨by decide, by decide⟩ (fun _ => rfl) (vp_in_nI hc (by decide)) (nI_clamp (by omega)) ?_
  refine r_aload_n C dX6_changes_9 rfl rfl ?_
  have e17 := mR_up3 σ 20 17 cell (-1) (by decide)
  refine r_callV C dX6_changes_10 (m_orders (up3 σ 20 17 cell (-1)) τ rk (fun c hc => msK_up3 _ _ _ _ (by decide) (hm c hc)) (by rw [e17]; exact hrk)) rfl ⟨by decide, by decide⟩ rfl rfl kB_X6_orders rfl kI_X6_orders kV_X6_orders kl_X6_112 (by decide) (Nat.le_of_ble_eq_true rfl) (by decide) ?_
  rintro r9 σ' τ' ⟨ord, o, rfl, rfl, rfl, hI, hT, hJ, hS⟩
  rw [e17] at hT
  rw [← mcS_0]
  refine r_iconst (v := 0) C dX6_changes_13 rfl ?_
  refine r_istore_n C dX6_changes_14 rfl (by decide) rfl ?_
  have loop : ∀ m i, i ≤ 16 → 16 - i < m → S 0 (mcS σ cell ord i) τ 15 [some (.ref (ad 19 0)), some (.int (nI cell)), some (.int (cnF σ cell i)), some (.int (nI i)), none] [] := by
    intro m
    induction m with
    | zero => intro i _ hm; omega
    | succ m ihloop =>
      intro i hiloop hmloop
      refine r_iload_n C dX6_changes_15 rfl rfl ?_
      refine r_bipush (v := 16) C dX6_changes_16 rfl ?_
      refine r_icmpge (tgt := 100) C dX6_changes_18 (by decide) (fun c18 => ?_) (fun c18 => ?_)
      · have n18 := Int32.not_lt.mpr c18
        have hloope : i = 16 := by
          have := (nI_leI (a := 16) (by omega) (by omega)).mp c18
          omega
        subst hloope
        refine r_iload_n C dX6_changes_100 rfl rfl ?_
        exact r_iret C dX6_changes_101 rfl (by decide) ⟨ord, o, rfl, rfl, rfl, hI, hT, hJ, hS⟩
      · have n18 := Int32.not_le.mp c18
        have hloopl : i < 16 := (nI_ltI (b := 16) (by omega) (by omega)).mp n18
        have j58 : ∀ b : Bool, chB σ cell i = b → S 0 (mcS σ cell ord i) τ 58 [some (.ref (ad 19 0)), some (.int (nI cell)), some (.int (cnF σ cell i)), some (.int (nI i)), none] [.int (b2i b)] := by
          intro b hb
          refine r_istore C dX6_changes_58 (by decide) rfl ?_
          have j80 : ∀ v, (if b then 0 else σ 20 12 i) = v → S 0 (mcS σ cell ord i) τ 80 [some (.ref (ad 19 0)), some (.int (nI cell)), some (.int (cnF σ cell i)), some (.int (nI i)), some (.int (b2i b))] [.int v, .int (nI i), .ref (ad 20 12)] := by
            intro v hv
            refine r_iastv C dX6_changes_80 ⟨by decide, by decide⟩ (fun _ => rfl) (vp_in_nI hloopl (by decide)) (nI_clamp (by omega)) ?_
            rw [← hv, ← hb, mcS_s]
            have j92 : ∀ w, (if chB σ cell i then (1 : Int32) else 0) = w → S 0 (mcS σ cell ord (i + 1)) τ 92 [some (.ref (ad 19 0)), some (.int (nI cell)), some (.int (cnF σ cell i)), some (.int (nI i)), some (.int (b2i (chB σ cell i)))] [.int w, .int (cnF σ cell i)] := by
              intro w hw
              refine r_iadd C dX6_changes_92 ?_
              refine r_istore_n C dX6_changes_93 rfl (by decide) rfl ?_
              refine r_iinc C dX6_changes_94 rfl rfl (by decide) rfl ?_
              refine r_goto (tgt := 15) C dX6_changes_97 (by decide) ?_
              refine r_drop C [4] ?_
              exact r_swk (ihloop (i + 1) (by omega) (by omega)) rfl rfl (by rw [← nI_p1, ← hw]; rfl) rfl
            refine r_iload_n C dX6_changes_81 rfl rfl ?_
            refine r_iload C dX6_changes_82 rfl ?_
            refine r_ifeq (tgt := 91) C dX6_changes_84 (by decide) (fun c84 => ?_) (fun c84 => ?_)
            · have hw : (if chB σ cell i then (1 : Int32) else 0) = 0 := by rw [b2i_0.mp c84]; rfl
              refine r_iconst (v := 0) C dX6_changes_91 rfl ?_
              exact j92 _ hw
            · have hw : (if chB σ cell i then (1 : Int32) else 0) = 1 := by rw [b2i_n.mp c84]; rfl
              refine r_iconst (v := 1) C dX6_changes_87 rfl ?_
              refine r_goto (tgt := 92) C dX6_changes_88 (by decide) ?_
              exact j92 _ hw
          refine r_aload_n C dX6_changes_60 rfl rfl ?_
          refine r_get (f := 16) C dX6_changes_61 ⟨by decide, by decide⟩ rfl rfl kU6 (by decide) kf_X6_46 rfl rfl ?_
          refine r_iload_n C dX6_changes_64 rfl rfl ?_
          refine r_iload C dX6_changes_65 rfl ?_
          refine r_ifeq (tgt := 74) C dX6_changes_67 (by decide) (fun c67 => ?_) (fun c67 => ?_)
          · have hv : (if b then 0 else σ 20 12 i) = σ 20 12 i := by rw [b2i_0.mp c67]; rfl
            refine r_aload_n C dX6_changes_74 rfl rfl ?_
            refine r_get (f := 16) C dX6_changes_75 ⟨by decide, by decide⟩ rfl rfl kU6 (by decide) kf_X6_46 rfl rfl ?_
            refine r_iload_n C dX6_changes_78 rfl rfl ?_
            refine r_ialdv (v := σ 20 12 i) C dX6_changes_79 ⟨by decide, by decide⟩ rfl (vp_in_nI hloopl (by decide)) (by rw [nI_clamp (by omega)]; exact mcS_v _ _ _ _) ?_
            exact j80 _ hv
          · have hv : (if b then 0 else σ 20 12 i) = 0 := by rw [b2i_n.mp c67]; rfl
            refine r_iconst (v := 0) C dX6_changes_70 rfl ?_
            refine r_goto (tgt := 80) C dX6_changes_71 (by decide) ?_
            exact j80 _ hv
        refine r_iload_n C dX6_changes_21 rfl rfl ?_
        refine r_iload_n C dX6_changes_22 rfl rfl ?_
        refine r_icmpeq (tgt := 43) C dX6_changes_23 (by decide) (fun c23 => ?_) (fun c23 => ?_)
        · have hic : decide (i = cell) = true := decide_eq_true ((nI_eq (by omega) (by omega)).mp c23)
          have hor : (decide (i = cell) || bt (clR (mR σ) (mR σ i) 16) cell) = true := by rw [hic]; rfl
          refine r_aload_n C dX6_changes_43 rfl rfl ?_
          refine r_get (f := 16) C dX6_changes_44 ⟨by decide, by decide⟩ rfl rfl kU6 (by decide) kf_X6_46 rfl rfl ?_
          refine r_iload_n C dX6_changes_47 rfl rfl ?_
          refine r_ialdv (v := σ 20 12 i) C dX6_changes_48 ⟨by decide, by decide⟩ rfl (vp_in_nI hloopl (by decide)) (by rw [nI_clamp (by omega)]; exact mcS_v _ _ _ _) ?_
          refine r_iconst (v := 1) C dX6_changes_49 rfl ?_
          refine r_icmpne (tgt := 57) C dX6_changes_50 (by decide) (fun c50 => ?_) (fun c50 => ?_)
          · have hch : chB σ cell i = false := by unfold chB; rw [decide_eq_false c50, Bool.and_false]
            refine r_iconst (v := 0) C dX6_changes_57 rfl ?_
            exact j58 _ hch
          · have hch : chB σ cell i = true := by unfold chB; rw [decide_eq_true c50, hor]; rfl
            refine r_iconst (v := 1) C dX6_changes_53 rfl ?_
            refine r_goto (tgt := 58) C dX6_changes_54 (by decide) ?_
            exact j58 _ hch
        · have hic : decide (i = cell) = false := decide_eq_false (fun q => c23 (by rw [q]))
          refine r_aload_n C dX6_changes_26 rfl rfl ?_
          refine r_aload_n C dX6_changes_27 rfl rfl ?_
          refine r_iload_n C dX6_changes_28 rfl rfl ?_
          refine r_callV C dX6_changes_29 (m_readBy (mcS σ cell ord i) τ i hloopl (mcS_K (hm i hloopl))) rfl ⟨by decide, by decide⟩ rfl rfl kB_X6_readBy rfl kI_X6_readBy kV_X6_readBy kl_X6_108 (by decide) (Nat.le_of_ble_eq_true rfl) (by decide) ?_
          rintro r9 σ' τ' ⟨rfl, rfl, rfl⟩
          rw [mcS_R]
          refine r_callV C dX6_changes_32 (m_under (mcS σ cell ord i) τ (mR σ i) (fun c hc => mcS_K (hm c hc))) rfl ⟨by decide, by decide⟩ rfl rfl kB_X6_under rfl kI_X6_under kV_X6_under kl_X6_115 (by decide) (Nat.le_of_ble_eq_true rfl) (by decide) ?_
          rintro r9 σ' τ' ⟨rfl, rfl, rfl⟩
          rw [mcS_R]
          refine r_iload_n C dX6_changes_35 rfl rfl ?_
          refine r_ishr C dX6_changes_36 ?_
          refine r_iconst (v := 1) C dX6_changes_37 rfl ?_
          refine r_iand C dX6_changes_38 ?_
          refine r_iconst (v := 1) C dX6_changes_39 rfl ?_
          refine r_icmpne (tgt := 57) C dX6_changes_40 (by decide) (fun c40 => ?_) (fun c40 => ?_)
          · have hu : bt (clR (mR σ) (mR σ i) 16) cell = false := by
              cases hb : bt (clR (mR σ) (mR σ i) 16) cell with
              | false => rfl
              | true => exact absurd ((bt_sh1 (by omega) _).mpr hb) c40
            have hch : chB σ cell i = false := by unfold chB; rw [hic, hu]; rfl
            refine r_iconst (v := 0) C dX6_changes_57 rfl ?_
            exact j58 _ hch
          · have hor : (decide (i = cell) || bt (clR (mR σ) (mR σ i) 16) cell) = true := by rw [(bt_sh1 (by omega) _).mp c40, Bool.or_true]
            refine r_aload_n C dX6_changes_43 rfl rfl ?_
            refine r_get (f := 16) C dX6_changes_44 ⟨by decide, by decide⟩ rfl rfl kU6 (by decide) kf_X6_46 rfl rfl ?_
            refine r_iload_n C dX6_changes_47 rfl rfl ?_
            refine r_ialdv (v := σ 20 12 i) C dX6_changes_48 ⟨by decide, by decide⟩ rfl (vp_in_nI hloopl (by decide)) (by rw [nI_clamp (by omega)]; exact mcS_v _ _ _ _) ?_
            refine r_iconst (v := 1) C dX6_changes_49 rfl ?_
            refine r_icmpne (tgt := 57) C dX6_changes_50 (by decide) (fun c50 => ?_) (fun c50 => ?_)
            · have hch : chB σ cell i = false := by unfold chB; rw [decide_eq_false c50, Bool.and_false]
              refine r_iconst (v := 0) C dX6_changes_57 rfl ?_
              exact j58 _ hch
            · have hch : chB σ cell i = true := by unfold chB; rw [decide_eq_true c50, hor]; rfl
              refine r_iconst (v := 1) C dX6_changes_53 rfl ?_
              refine r_goto (tgt := 58) C dX6_changes_54 (by decide) ?_
              exact j58 _ hch
  exact loop (16 + 1) 0 (by omega) (by omega)
