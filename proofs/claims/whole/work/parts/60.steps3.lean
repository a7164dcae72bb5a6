/-! ===== the steps show, pass, waive, tell: printed by g60.py ===== -/
theorem i_pos {x : Int32} (h : ¬ x < 0) {n : Nat} (h2 : x ≤ nI n) (hn : n < 2 ^ 31) : ∃ k, k ≤ n ∧ x = nI k := by
  have h1 := mt (fa_lt x 0).mpr h
  have h3 := (fa_le x (nI n)).mp h2
  rw [nI_toInt hn] at h3
  rw [show (0 : Int32).toInt = 0 by decide] at h1
  refine ⟨x.toInt.toNat, by omega, (fa_eq _ _).mpr ?_⟩
  rw [nI_toInt (by omega)]
  omega
theorem Rel4 {σ : gSig} (h : Rel σ) (s4 : Nat → Nat → Int32) : Rel (upF σ 4 s4) := by
  obtain ⟨a9, b9, c9, d9, e9, f9⟩ := h
  exact ⟨rDr_of (σ := σ) rfl rfl rfl rfl rfl rfl rfl rfl a9, rSh_of (σ := σ) (fun _ _ => rfl) (fun _ _ => rfl) (fun _ _ => rfl) rfl rfl rfl rfl rfl rfl rfl rfl rfl rfl rfl rfl b9, rPr_of (σ := σ) (fun _ _ => rfl) rfl rfl rfl rfl rfl c9, rVe_of (σ := σ) rfl rfl rfl rfl rfl rfl rfl rfl rfl rfl rfl d9, rDk_of (σ := σ) rfl rfl rfl rfl rfl rfl rfl rfl e9, rUn_of (σ := σ) rfl rfl rfl rfl f9⟩
theorem RelA {σ : gSig} (h : Rel σ) (vs fs st : Nat → Int32) : Rel (maS (up3 σ 19 0 0 0) vs fs st) := by
  obtain ⟨a9, b9, c9, d9, e9, f9⟩ := h
  exact ⟨rDr_of (σ := σ) rfl rfl rfl rfl rfl rfl rfl rfl a9, rSh_of (σ := σ) (fun _ _ => rfl) (fun _ _ => rfl) (fun _ _ => rfl) rfl rfl rfl rfl rfl rfl rfl rfl rfl rfl rfl rfl b9, rPr_of (σ := σ) (fun _ _ => rfl) rfl rfl rfl rfl rfl c9, rVe_of (σ := σ) rfl rfl rfl rfl rfl rfl rfl rfl rfl rfl rfl d9, rDk_of (σ := σ) rfl rfl rfl rfl rfl rfl rfl rfl e9, rUn_of (σ := σ) rfl rfl rfl rfl f9⟩
theorem s_show {σ σ1 σ2 : gSig} {τ τ1 τ2 : gTau} {cl : Int32} {k0 b : Int32} (hR : Rel σ) {o o' : Nat → Nat} (hK : shK σ o) (hM : moK σ o') (h1 : wrQ [xIOB, xISE, xARI] (fun r σ' τ' => ∃ c, c < 16 ∧ cl = nI c ∧ bt (lcC σ o) c = false ∧ ∃ v, gV σ (σ 7 2) c = some v ∧ ∃ s4 t8, some (.int v) = r ∧ upF σ 4 s4 = σ' ∧ upT τ 8 t8 = τ') (fun E σ' τ' => ((E = xIOB ∧ ¬ isC cl) ∨ (E = xISE ∧ ∃ c, c < 16 ∧ cl = nI c ∧ bt (lcC σ o) c = true) ∨ (E = xARI ∧ ∃ c, c < 16 ∧ cl = nI c ∧ bt (lcC σ o) c = false ∧ gV σ (σ 7 2) c = none)) ∧ ∃ s4 t8, upF σ 4 s4 = σ' ∧ upT τ 8 t8 = τ') (some (.int k0)) σ1 τ1) (h2 : (fun r σ' τ' => (¬ isC cl ∧ thQ σ1 τ1 1 r σ' τ') ∨ ∃ c, c < 16 ∧ cl = nI c ∧ ((bt (lkF (mR σ1) (flM σ1) (wvM σ1) o' 16) c = true ∧ thQ σ1 τ1 2 r σ' τ') ∨ (bt (lkF (mR σ1) (flM σ1) (wvM σ1) o' 16) c = false ∧ ∃ vs fs st, (mV σ1 (σ1 20 7) c = none ∧ gEq (some (.int 0)) (up3 (maS (up3 σ1 19 0 0 0) vs fs st) 19 0 0 3) τ1 r σ' τ') ∨ ∃ v, mV σ1 (σ1 20 7) c = some v ∧ gEq (some (.int v)) (maS (up3 σ1 19 0 0 0) vs fs st) τ1 r σ' τ'))) (some (.int b)) σ2 τ2) : Stq k0 b σ2 τ2 := by
  obtain ⟨a9, b9, c9, d9, e9, f9⟩ := id hR
  have hA : Ag σ (σ 7 2) (σ 20 7) := fun z hz _ => (e9.2.2 z hz).1
  rcases h1 with ⟨x, τ', ⟨c, hc, rfl, hb1, v, hv, s4, t8, hx, rfl, rfl⟩, hk0, rfl⟩ | ⟨E, i, hi, ⟨hp, s4, t8, rfl, rfl⟩, hk0⟩
  · rcases h2 with ⟨hn, -⟩ | ⟨c2, hc2, e2, h2⟩
    · exact no_C hc rfl hn
    · obtain rfl := nI_one hc hc2 e2
      rw [rel_lk hR hK hM] at hb1
      have hv2 : mV σ (σ 20 7) c = some v := (rel_V b9 hA c hc).symm.trans hv
      rcases h2 with ⟨h3, -⟩ | ⟨-, vs, fs, st, h2⟩
      · cases hb1.symm.trans h3
      · rcases h2 with ⟨h3, -⟩ | ⟨w, h3, hb, rfl, rfl⟩
        · cases hv2.symm.trans h3
        · cases hv2.symm.trans h3
          cases hk0
          exact st_ok (RelA (Rel4 hR s4) vs fs st) rfl hx hb rfl
  · rcases hp with ⟨rfl, hn⟩ | ⟨rfl, c, hc, rfl, hb1⟩ | ⟨rfl, c, hc, rfl, hb1, hv⟩
    · obtain rfl := cs_ix (by decide) hi 0 rfl
      rcases h2 with ⟨-, h2⟩ | ⟨c2, hc2, e2, -⟩
      · exact st_thr (Rel4 hR s4) 0 (by decide) hk0 h2 rfl
      · exact no_C hc2 e2 hn
    · obtain rfl := cs_ix (by decide) hi 1 rfl
      rw [rel_lk hR hK hM] at hb1
      rcases h2 with ⟨hn, -⟩ | ⟨c2, hc2, e2, h2⟩
      · exact no_C hc rfl hn
      · obtain rfl := nI_one hc hc2 e2
        rcases h2 with ⟨-, h2⟩ | ⟨h3, -⟩
        · exact st_thr (Rel4 hR s4) 1 (by decide) hk0 h2 rfl
        · cases hb1.symm.trans h3
    · obtain rfl := cs_ix (by decide) hi 2 rfl
      rw [rel_lk hR hK hM] at hb1
      have hv2 : mV σ (σ 20 7) c = none := (rel_V b9 hA c hc).symm.trans hv
      rcases h2 with ⟨hn, -⟩ | ⟨c2, hc2, e2, h2⟩
      · exact no_C hc rfl hn
      · obtain rfl := nI_one hc hc2 e2
        rcases h2 with ⟨h3, -⟩ | ⟨-, vs, fs, st, h2⟩
        · cases hb1.symm.trans h3
        · rcases h2 with ⟨-, h2⟩ | ⟨w, h3, -⟩
          · exact st_thr (RelA (Rel4 hR s4) vs fs st) 2 (by decide) hk0 h2 rfl
          · cases hv2.symm.trans h3
theorem s_pass {σ σ1 σ2 : gSig} {τ τ1 τ2 : gTau} {dy : Int32} {k0 b : Int32} (hR : Rel σ) {o o' : Nat → Nat} (hK : shK σ o) (hM : moK σ o') (h1 : wrQ [xIAE, xISE] (fun r σ' τ' => (1 ≤ dy ∧ dy ≤ 100) ∧ σ 17 0 3 + dy ≤ 10000 ∧ gEq (some (.int (bcJ (lcC (up3 σ 17 0 3 (σ 17 0 3 + dy)) o)))) (up3 σ 17 0 3 (σ 17 0 3 + dy)) τ r σ' τ') (fun E σ' τ' => ((E = xIAE ∧ ¬ (1 ≤ dy ∧ dy ≤ 100)) ∨ (E = xISE ∧ (1 ≤ dy ∧ dy ≤ 100) ∧ 10000 < σ 17 0 3 + dy)) ∧ σ = σ' ∧ τ = τ') (some (.int k0)) σ1 τ1) (h2 : (fun r σ' τ' => (¬ ((1 : Int32) ≤ dy ∧ dy ≤ 100) ∧ thQ σ1 τ1 1 r σ' τ') ∨ (((1 : Int32) ≤ dy ∧ dy ≤ 100) ∧ ¬ σ1 19 0 1 + dy ≤ 10000 ∧ thQ σ1 τ1 2 r σ' τ') ∨ (((1 : Int32) ≤ dy ∧ dy ≤ 100) ∧ σ1 19 0 1 + dy ≤ 10000 ∧ gEq (some (.int (btF (lkF (mR σ1) (flM σ1) (wvM (up3 (up3 σ1 19 0 0 0) 19 0 1 (σ1 19 0 1 + dy))) o' 16) 16))) (up3 (up3 σ1 19 0 0 0) 19 0 1 (σ1 19 0 1 + dy)) τ1 r σ' τ')) (some (.int b)) σ2 τ2) : Stq k0 b σ2 τ2 := by
  obtain ⟨a9, b9, c9, d9, e9, f9⟩ := id hR
  have e1 : σ 17 0 3 = σ 19 0 1 := e9.2.1
  rcases h1 with ⟨x, τ', ⟨h12, h3, hx, rfl, rfl⟩, hk0, rfl⟩ | ⟨E, i, hi, ⟨hp, rfl, rfl⟩, hk0⟩
  · rcases h2 with ⟨hn, -⟩ | ⟨-, hn, -⟩ | ⟨-, -, hb, rfl, rfl⟩
    · exact absurd h12 hn
    · rw [e1] at h3; exact absurd h3 hn
    · cases hk0
      have hR' : Rel (up3 (up3 (up3 σ 17 0 3 (σ 17 0 3 + dy)) 19 0 0 0) 19 0 1 ((up3 σ 17 0 3 (σ 17 0 3 + dy)) 19 0 1 + dy)) := by
        refine ⟨rDr_of (σ := σ) rfl rfl rfl rfl rfl rfl rfl rfl a9, rSh_of (σ := σ) (fun _ _ => rfl) (fun _ _ => rfl) (fun _ _ => rfl) rfl rfl rfl rfl rfl rfl rfl rfl rfl rfl rfl rfl b9, rPr_of (σ := σ) (fun _ _ => rfl) rfl rfl rfl rfl rfl c9, rVe_of (σ := σ) rfl rfl rfl rfl rfl rfl rfl rfl rfl rfl rfl d9, ?_, rUn_of (σ := σ) rfl rfl rfl rfl f9⟩
        obtain ⟨⟨dd, g1, g2⟩, g3, g4⟩ := e9
        obtain ⟨k, hk, rfl⟩ := i_pos (x := dy) (Int32.not_lt.mpr (Int32.le_trans (by decide) h12.1)) (n := 100) h12.2 (by decide)
        refine ⟨⟨dd + k, ?_, ?_⟩, ?_, g4⟩
        · rw [g2, nI_add] at h3
          exact (nI_leI (b := 10000) (by omega) (by decide)).mp h3
        · show σ 17 0 3 + nI k = _
          rw [g2, nI_add]
        · show σ 17 0 3 + nI k = σ 19 0 1 + nI k
          rw [g3]
      refine st_ok hR' rfl hx ?_ rfl
      rw [← hb]
      refine congrArg (fun z => some (Value.int z)) ?_
      have hK' : shK (up3 (up3 (up3 σ 17 0 3 (σ 17 0 3 + dy)) 19 0 0 0) 19 0 1 ((up3 σ 17 0 3 (σ 17 0 3 + dy)) 19 0 1 + dy)) o := shK_of16 (σ := σ) (fun _ _ => rfl) (fun _ _ => rfl) (fun _ _ => rfl) rfl rfl rfl rfl hK
      have e9 := rel_lk hR' hK' (moK_of (σ := σ) rfl rfl rfl rfl hM)
      have e8 := bcJ_btF (rel_lk16 hK')
      rw [e9] at e8
      exact (congrArg bcJ e9).trans e8
  · rcases hp with ⟨rfl, hn⟩ | ⟨rfl, h12, h3⟩
    · obtain rfl := cs_ix (by decide) hi 0 rfl
      rcases h2 with ⟨-, h2⟩ | ⟨h9, -⟩ | ⟨h9, -⟩
      · exact st_thr hR 0 (by decide) hk0 h2 rfl
      · exact absurd h9 hn
      · exact absurd h9 hn
    · obtain rfl := cs_ix (by decide) hi 1 rfl
      rcases h2 with ⟨h9, -⟩ | ⟨-, -, h2⟩ | ⟨-, h9, -⟩
      · exact absurd h12 h9
      · exact st_thr hR 1 (by decide) hk0 h2 rfl
      · rw [e1] at h3; exact absurd h3 (Int32.not_lt.mpr h9)
theorem s_waive {σ σ1 σ2 : gSig} {τ τ1 τ2 : gTau} {cl ow dy : Int32} {k0 b : Int32} (hR : Rel σ) {o o' : Nat → Nat} (hK : shK σ o) (hM : moK σ o') (h1 : wrQ [xIOB, xIAE, xISE] (fun r σ' τ' => ∃ c, c < 16 ∧ cl = nI c ∧ (ow = σ 18 0 c ∧ ¬ dy < 0 ∧ dy ≤ 30) ∧ bt (lcC σ o) c = true ∧ gEq (some (.int (bcJ (lcC (up3 σ 18 1 c (σ 17 0 3 + dy)) o)))) (up3 σ 18 1 c (σ 17 0 3 + dy)) τ r σ' τ') (fun E σ' τ' => ((E = xIOB ∧ ¬ isC cl) ∨ (E = xIAE ∧ ∃ c, c < 16 ∧ cl = nI c ∧ ¬ (ow = σ 18 0 c ∧ ¬ dy < 0 ∧ dy ≤ 30)) ∨ (E = xISE ∧ ∃ c, c < 16 ∧ cl = nI c ∧ (ow = σ 18 0 c ∧ ¬ dy < 0 ∧ dy ≤ 30) ∧ bt (lcC σ o) c = false)) ∧ σ = σ' ∧ τ = τ') (some (.int k0)) σ1 τ1) (h2 : (fun r σ' τ' => (¬ isC cl ∧ thQ σ1 τ1 1 r σ' τ') ∨ ∃ c, c < 16 ∧ cl = nI c ∧ ((¬ (ow = σ1 20 8 c ∧ ((0 : Int32) ≤ dy ∧ dy ≤ 30)) ∧ thQ σ1 τ1 2 r σ' τ') ∨ ((ow = σ1 20 8 c ∧ ((0 : Int32) ≤ dy ∧ dy ≤ 30)) ∧ bt (lkF (mR σ1) (flM σ1) (wvM σ1) o' 16) c = false ∧ thQ σ1 τ1 3 r σ' τ') ∨ ((ow = σ1 20 8 c ∧ ((0 : Int32) ≤ dy ∧ dy ≤ 30)) ∧ bt (lkF (mR σ1) (flM σ1) (wvM σ1) o' 16) c = true ∧ gEq (some (.int (btF (lkF (mR σ1) (flM σ1) ((fun z => wvM (up3 (up3 σ1 19 0 0 0) 20 17 z (σ1 19 0 1 + dy))) c) o' 16) 16))) (up3 (up3 σ1 19 0 0 0) 20 17 c (σ1 19 0 1 + dy)) τ1 r σ' τ'))) (some (.int b)) σ2 τ2) : Stq k0 b σ2 τ2 := by
  obtain ⟨a9, b9, c9, d9, e9, f9⟩ := id hR
  have e1 : σ 17 0 3 = σ 19 0 1 := e9.2.1
  have go : ∀ c, c < 16 → ((ow = σ 18 0 c ∧ ¬ dy < 0 ∧ dy ≤ 30) ↔ (ow = σ 20 8 c ∧ ((0 : Int32) ≤ dy ∧ dy ≤ 30))) := fun c hc => by
    rw [(e9.2.2 c hc).2.1, Int32.not_lt]
  rcases h1 with ⟨x, τ', ⟨c, hc, rfl, h12, hb1, hx, rfl, rfl⟩, hk0, rfl⟩ | ⟨E, i, hi, ⟨hp, rfl, rfl⟩, hk0⟩
  · rcases h2 with ⟨hn, -⟩ | ⟨c2, hc2, e2, h2⟩
    · exact no_C hc rfl hn
    · obtain rfl := nI_one hc hc2 e2
      rw [rel_lk hR hK hM] at hb1
      rcases h2 with ⟨h3, -⟩ | ⟨-, h3, -⟩ | ⟨-, -, hb, rfl, rfl⟩
      · exact absurd ((go c hc).mp h12) h3
      · cases hb1.symm.trans h3
      · cases hk0
        have hR' : Rel (up3 (up3 (up3 σ 18 1 c (σ 17 0 3 + dy)) 19 0 0 0) 20 17 c ((up3 σ 18 1 c (σ 17 0 3 + dy)) 19 0 1 + dy)) := by
          refine ⟨rDr_of (σ := σ) rfl rfl rfl rfl rfl rfl rfl rfl a9, rSh_of (σ := σ) (fun _ _ => rfl) (fun _ _ => rfl) (fun _ _ => rfl) rfl rfl rfl rfl rfl rfl rfl rfl rfl rfl rfl rfl b9, rPr_of (σ := σ) (fun _ _ => rfl) rfl rfl rfl rfl rfl c9, rVe_of (σ := σ) rfl rfl rfl rfl rfl rfl rfl rfl rfl rfl rfl d9, ?_, rUn_of (σ := σ) rfl rfl rfl rfl f9⟩
          obtain ⟨g1, g3, g4⟩ := e9
          refine ⟨g1, g3, fun z hz => ⟨(g4 z hz).1, (g4 z hz).2.1, ?_⟩⟩
          show (up3 σ 18 1 c (σ 17 0 3 + dy)) 18 1 z = (up3 σ 20 17 c (σ 19 0 1 + dy)) 20 17 z
          rw [up3_i2, up3_i2, g3]
          by_cases q : z = c
          · rw [if_pos q, if_pos q]
          · rw [if_neg q, if_neg q]; exact (g4 z hz).2.2
        refine st_ok hR' rfl hx ?_ rfl
        rw [← hb]
        refine congrArg (fun z => some (Value.int z)) ?_
        have hK' : shK (up3 (up3 (up3 σ 18 1 c (σ 17 0 3 + dy)) 19 0 0 0) 20 17 c ((up3 σ 18 1 c (σ 17 0 3 + dy)) 19 0 1 + dy)) o := shK_of16 (σ := σ) (fun _ _ => rfl) (fun _ _ => rfl) (fun _ _ => rfl) rfl rfl rfl rfl hK
        have e9 := rel_lk hR' hK' (moK_of (σ := σ) rfl rfl rfl rfl hM)
        have e8 := bcJ_btF (rel_lk16 hK')
        rw [e9] at e8
        exact (congrArg bcJ e9).trans e8
  · rcases hp with ⟨rfl, hn⟩ | ⟨rfl, c, hc, rfl, h12⟩ | ⟨rfl, c, hc, rfl, h12, hb1⟩
    · obtain rfl := cs_ix (by decide) hi 0 rfl
      rcases h2 with ⟨-, h2⟩ | ⟨c2, hc2, e2, -⟩
      · exact st_thr hR 0 (by decide) hk0 h2 rfl
      · exact no_C hc2 e2 hn
    · obtain rfl := cs_ix (by decide) hi 1 rfl
      rcases h2 with ⟨hn, -⟩ | ⟨c2, hc2, e2, h2⟩
      · exact no_C hc rfl hn
      · obtain rfl := nI_one hc hc2 e2
        rcases h2 with ⟨-, h2⟩ | ⟨h3, -⟩ | ⟨h3, -⟩
        · exact st_thr hR 1 (by decide) hk0 h2 rfl
        · exact absurd ((go c hc).mpr h3) h12
        · exact absurd ((go c hc).mpr h3) h12
    · obtain rfl := cs_ix (by decide) hi 2 rfl
      rw [rel_lk hR hK hM] at hb1
      rcases h2 with ⟨hn, -⟩ | ⟨c2, hc2, e2, h2⟩
      · exact no_C hc rfl hn
      · obtain rfl := nI_one hc hc2 e2
        rcases h2 with ⟨h3, -⟩ | ⟨-, -, h2⟩ | ⟨-, h3, -⟩
        · exact absurd ((go c hc).mp h12) h3
        · exact st_thr hR 2 (by decide) hk0 h2 rfl
        · cases hb1.symm.trans h3
theorem tell_pr {σ : gSig} {c q : Nat} {kd nn v : Int32} (hP : rPr σ) (hc : c < 16) (hq : σ 10 c 2 = nI q) (hq4 : q < 4) (hk : ¬ kd < 0 ∧ kd ≤ 3) (hn : kd = 2 ∨ kd = 3 → isC nn) : rPr (mtS (up3 (teS σ c q kd nn) 19 0 0 0) c q kd nn v) := by
  intro z hz
  obtain ⟨q2, h1, h2, h3⟩ := hP z hz
  have e10 : (mtS (up3 (teS σ c q kd nn) 19 0 0 0) c q kd nn v) 10 z 2 = if z = c then nI (q + 1) else σ 10 z 2 := by simp [mtS, teS, addS, up3_at]
  have e11 : ∀ p, (mtS (up3 (teS σ c q kd nn) 19 0 0 0) c q kd nn v) 11 z p = if z = c ∧ p = q then kd else σ 11 z p := fun p => by simp [mtS, teS, addS, up3_at]
  have e12 : ∀ p, (mtS (up3 (teS σ c q kd nn) 19 0 0 0) c q kd nn v) 12 z p = if z = c ∧ p = q then nn else σ 12 z p := fun p => by simp [mtS, teS, addS, up3_at]
  have m9 : (mtS (up3 (teS σ c q kd nn) 19 0 0 0) c q kd nn v) 20 9 z = if z = c then nI (q + 1) else σ 20 9 z := by simp [mtS, teS, addS, up3_at]
  have m10 : ∀ p, p < 4 → (mtS (up3 (teS σ c q kd nn) 19 0 0 0) c q kd nn v) 20 10 (4 * z + p) = if z = c ∧ p = q then kd else σ 20 10 (4 * z + p) := fun p hp => by
    have e : (4 * z + p = 4 * c + q) ↔ (z = c ∧ p = q) := by omega
    simp [mtS, teS, addS, up3_at, e]
  have m11 : ∀ p, p < 4 → (mtS (up3 (teS σ c q kd nn) 19 0 0 0) c q kd nn v) 20 11 (4 * z + p) = if z = c ∧ p = q then nn else σ 20 11 (4 * z + p) := fun p hp => by
    have e : (4 * z + p = 4 * c + q) ↔ (z = c ∧ p = q) := by omega
    simp [mtS, teS, addS, up3_at, e]
  have hq24 := h1.2.1
  by_cases ez : z = c
  · subst ez
    have e : q2 = q := (nI_eq (by omega) (by omega)).mp (h1.1.symm.trans hq)
    subst e
    refine ⟨q2 + 1, ⟨by rw [e10, if_pos rfl], by omega, fun p hp => ?_⟩, ⟨by rw [m9, if_pos rfl], by omega, fun p hp => ?_⟩, fun p hp => ?_⟩
    · rw [e11, e12]
      by_cases ep : p = q2
      · simp only [ep, and_self, if_true]; exact ⟨hk, hn⟩
      · simp only [ep, and_false, if_false]; exact h1.2.2 p (by omega)
    · rw [m10 p (by omega), m11 p (by omega)]
      by_cases ep : p = q2
      · simp only [ep, and_self, if_true]; exact ⟨hk, hn⟩
      · simp only [ep, and_false, if_false]; exact h2.2.2 p (by omega)
    · rw [e11, e12, m10 p (by omega), m11 p (by omega)]
      by_cases ep : p = q2
      · simp only [ep, and_self, if_true]
      · simp only [ep, and_false, if_false]; exact h3 p (by omega)
  · refine ⟨q2, ⟨by rw [e10, if_neg ez]; exact h1.1, hq24, fun p hp => ?_⟩, ⟨by rw [m9, if_neg ez]; exact h2.1, hq24, fun p hp => ?_⟩, fun p hp => ?_⟩
    · rw [e11, e12]
      simp only [ez, false_and, if_false]; exact h1.2.2 p hp
    · rw [m10 p (by omega), m11 p (by omega)]
      simp only [ez, false_and, if_false]; exact h2.2.2 p hp
    · rw [e11, e12, m10 p (by omega), m11 p (by omega)]
      simp only [ez, false_and, if_false]; exact h3 p hp
theorem bt_clr {c i : Nat} (hc : c < 32) (hi : i < 32) (x : Int32) : bt (x &&& (b1 c ^^^ (-1))) i = (bt x i && !decide (i = c)) := by rw [b_and, bt_not _ hi, bt_b1 hc]
theorem tell_ve {σ : gSig} {c q : Nat} {kd nn : Int32} (hV : rVe σ) (hc : c < 16) : rVe (mtS (up3 (teS σ c q kd nn) 19 0 0 0) c q kd nn (if σ 20 12 c = 1 then 0 else σ 20 12 c)) := by
  obtain ⟨g1, g2, g3⟩ := hV
  refine ⟨m16_and g1 _, g2, fun z hz => ?_⟩
  obtain ⟨h1, h2, h3, h4⟩ := g3 z hz
  have e5 : (mtS (up3 (teS σ c q kd nn) 19 0 0 0) c q kd nn (if σ 20 12 c = 1 then 0 else σ 20 12 c)) 13 0 5 = σ 13 0 5 &&& (b1 c ^^^ (-1)) := by simp [mtS, teS, addS, up3_at]
  have e6 : (mtS (up3 (teS σ c q kd nn) 19 0 0 0) c q kd nn (if σ 20 12 c = 1 then 0 else σ 20 12 c)) 13 0 6 = σ 13 0 6 := rfl
  have m12 : (mtS (up3 (teS σ c q kd nn) 19 0 0 0) c q kd nn (if σ 20 12 c = 1 then 0 else σ 20 12 c)) 20 12 z = if z = c then (if σ 20 12 c = 1 then 0 else σ 20 12 c) else σ 20 12 z := by simp [mtS, teS, addS, up3_at]
  refine ⟨fun q => ?_, ?_, h3, h4⟩
  · rw [e5, bt_clr (by omega) (by omega), h1 q, Bool.false_and]
  · unfold veC
    rw [e5, e6, m12, bt_clr (by omega) (by omega)]
    by_cases ez : z = c
    · subst ez
      rw [if_pos rfl, h2, decide_eq_true rfl, Bool.not_true, Bool.and_false]
      unfold veC
      cases bt (σ 13 0 6) z with
      | true => simp
      | false => cases bt (σ 13 0 5) z <;> simp
    · rw [if_neg ez, h2, decide_eq_false ez, Bool.not_false, Bool.and_true]
      rfl
theorem s_tell {σ σ1 σ2 : gSig} {τ τ1 τ2 : gTau} {cl kd nn : Int32} {k0 b : Int32} (hR : Rel σ)  (h1 : wrQ [xIOB, xIAE, xISE] (fun r σ' τ' => ∃ c, c < 16 ∧ cl = nI c ∧ (kd = 2 ∨ kd = 3 → isC nn) ∧ (¬ kd < 0 ∧ kd ≤ 3) ∧ ∃ q, σ 10 c 2 = nI q ∧ q < 4 ∧ gEq (some (.int (nI (q + 1)))) (teS σ c q kd nn) τ r σ' τ') (fun E σ' τ' => ((E = xIOB ∧ (¬ isC cl ∨ (kd = 2 ∨ kd = 3) ∧ ¬ isC nn)) ∨ (E = xIAE ∧ ∃ c, c < 16 ∧ cl = nI c ∧ (kd = 2 ∨ kd = 3 → isC nn) ∧ ¬ (¬ kd < 0 ∧ kd ≤ 3)) ∨ (E = xISE ∧ ∃ c, c < 16 ∧ cl = nI c ∧ (kd = 2 ∨ kd = 3 → isC nn) ∧ (¬ kd < 0 ∧ kd ≤ 3) ∧ ∃ q, σ 10 c 2 = nI q ∧ q = 4)) ∧ σ = σ' ∧ τ = τ') (some (.int k0)) σ1 τ1) (h2 : (fun r σ' τ' => ((¬ isC cl ∨ (kd = 2 ∨ kd = 3) ∧ ¬ isC nn) ∧ thQ σ1 τ1 1 r σ' τ') ∨ (isC cl ∧ ((kd = 2 ∨ kd = 3) → isC nn) ∧ ¬ ((0 : Int32) ≤ kd ∧ kd ≤ 3) ∧ thQ σ1 τ1 2 r σ' τ') ∨ ∃ c, c < 16 ∧ cl = nI c ∧ ((kd = 2 ∨ kd = 3) → isC nn) ∧ ((0 : Int32) ≤ kd ∧ kd ≤ 3) ∧ ∃ q, σ1 20 9 c = nI q ∧ ((q = 4 ∧ thQ σ1 τ1 3 r σ' τ') ∨ (q < 4 ∧ gEq (some (.int (nI (q + 1)))) (mtS (up3 σ1 19 0 0 0) c q kd nn (if σ1 20 12 c = 1 then 0 else σ1 20 12 c)) τ1 r σ' τ'))) (some (.int b)) σ2 τ2) : Stq k0 b σ2 τ2 := by
  obtain ⟨a9, b9, c9, d9, e9, f9⟩ := id hR
  rcases h1 with ⟨x, τ', ⟨c, hc, rfl, hn, hk, q, hq, hq4, hx, rfl, rfl⟩, hk0, rfl⟩ | ⟨E, i, hi, ⟨hp, rfl, rfl⟩, hk0⟩
  · have hb16 : isC (nI c) := isC_of hc
    obtain ⟨q2, p1, p2, -⟩ := c9 c hc
    have e : q2 = q := (nI_eq (by have := p1.2.1; omega) (by omega)).mp (p1.1.symm.trans hq)
    subst e
    rcases h2 with ⟨h3, -⟩ | ⟨-, -, h3, -⟩ | ⟨c2, hc2, e2, -, -, q3, hq3, h2⟩
    · rcases h3 with h3 | ⟨h3, h4⟩
      · exact absurd hb16 h3
      · exact absurd (hn h3) h4
    · exact absurd ⟨Int32.not_lt.mp hk.1, hk.2⟩ h3
    · obtain rfl := nI_one hc hc2 e2
      have e0 : (teS σ c q2 kd nn) 20 9 c = σ 20 9 c := rfl
      rw [e0] at hq3
      rcases h2 with ⟨rfl, -⟩ | ⟨h3, hb, rfl, rfl⟩
      · exact absurd ((nI_eq (by omega) (by decide)).mp (p2.1.symm.trans hq3)) (by omega)
      · have e : q2 = q3 := (nI_eq (by omega) (by omega)).mp (p2.1.symm.trans hq3)
        subst e
        cases hk0
        exact st_ok (σ2 := mtS (up3 (teS σ c q2 kd nn) 19 0 0 0) c q2 kd nn (if σ 20 12 c = 1 then 0 else σ 20 12 c)) ⟨rDr_of (σ := σ) rfl rfl rfl rfl rfl rfl rfl rfl a9, rSh_of (σ := σ) (fun _ _ => rfl) (fun _ _ => rfl) (fun _ _ => rfl) rfl rfl rfl rfl rfl rfl rfl rfl rfl rfl rfl rfl b9, tell_pr c9 hc hq hq4 hk hn, tell_ve d9 hc, rDk_of (σ := σ) rfl rfl rfl rfl rfl rfl rfl rfl e9, rUn_of (σ := σ) rfl rfl rfl rfl f9⟩ rfl hx hb rfl
  · rcases hp with ⟨rfl, hn⟩ | ⟨rfl, c, hc, rfl, hn, hk⟩ | ⟨rfl, c, hc, rfl, hn, hk, q, hq, rfl⟩
    · obtain rfl := cs_ix (by decide) hi 0 rfl
      rcases h2 with ⟨-, h2⟩ | ⟨h3, h4, -⟩ | ⟨c2, hc2, e2, h4, -⟩
      · exact st_thr hR 0 (by decide) hk0 h2 rfl
      · rcases hn with hn | ⟨n1, n2⟩
        · exact absurd h3 hn
        · exact absurd (h4 n1) n2
      · rcases hn with hn | ⟨n1, n2⟩
        · exact no_C hc2 e2 hn
        · exact absurd (h4 n1) n2
    · obtain rfl := cs_ix (by decide) hi 1 rfl
      have hk2 : ¬ ((0 : Int32) ≤ kd ∧ kd ≤ 3) := fun z => hk ⟨Int32.not_lt.mpr z.1, z.2⟩
      rcases h2 with ⟨h3, -⟩ | ⟨-, -, -, h2⟩ | ⟨c2, hc2, e2, -, h3, -⟩
      · rcases h3 with h3 | ⟨h3, h4⟩
        · exact absurd (isC_of hc) h3
        · exact absurd (hn h3) h4
      · exact st_thr hR 1 (by decide) hk0 h2 rfl
      · exact absurd h3 hk2
    · obtain rfl := cs_ix (by decide) hi 2 rfl
      obtain ⟨q2, p1, p2, -⟩ := c9 c hc
      rcases h2 with ⟨h3, -⟩ | ⟨-, -, h3, -⟩ | ⟨c2, hc2, e2, -, -, q3, hq3, h2⟩
      · rcases h3 with h3 | ⟨h3, h4⟩
        · exact absurd (isC_of hc) h3
        · exact absurd (hn h3) h4
      · exact absurd ⟨Int32.not_lt.mp hk.1, hk.2⟩ h3
      · obtain rfl := nI_one hc hc2 e2
        rcases h2 with ⟨-, h2⟩ | ⟨h3, -⟩
        · exact st_thr hR 2 (by decide) hk0 h2 rfl
        · exfalso
          have e5 : q2 = 4 := (nI_eq (by have := p2.2.1; omega) (by decide)).mp (p1.1.symm.trans hq)
          have e4 : q2 = q3 := (nI_eq (by have := p2.2.1; omega) (by omega)).mp (p2.1.symm.trans hq3)
          omega
