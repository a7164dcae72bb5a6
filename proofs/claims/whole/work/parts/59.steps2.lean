/-! ===== the steps of the cells, properties, owners, locks asked: printed by g59.py ===== -/
theorem msK_le {σ : gSig} {c : Nat} (h : msK σ c) : σ 20 2 c ≤ 0 ↔ mIn σ c = true := by
  unfold mIn
  rw [decide_eq_true_iff, h.1]
  have := h.2.1
  rw [show (0 : Int32) = nI 0 from rfl, nI_leI (by omega) (by decide), nI_eq (by omega) (by decide)]
  omega
theorem rel_in {σ : gSig} (h : rSh σ) {c : Nat} (hc : c < 16) : σ 20 2 c ≤ 0 ↔ bt (σ 5 0 8) c = true := by
  obtain ⟨-, ⟨o, hM⟩, -, hC⟩ := h
  rw [msK_le (hM.2.2.2.2.1 c hc), (hC c hc).1]
theorem up3_if (σ : gSig) (f c i : Nat) (x : Int32) (c' : Nat) : (up3 σ f c i x) f c' i = if c' = c then x else σ f c' i := by
  simp [up3_at]
theorem up3_i2 (σ : gSig) (f r c : Nat) (x : Int32) (z : Nat) : (up3 σ f r c x) f r z = if z = c then x else σ f r z := by
  simp [up3_at]
theorem s_set {σ σ1 σ2 : gSig} {τ τ1 τ2 : gTau} {cl v : Int32} {k0 b : Int32} (hR : Rel σ)  (h1 : wrQ [xIOB, xISE, xIAE] (fun r σ' τ' => ∃ c, c < 16 ∧ cl = nI c ∧ bt (σ 5 0 8) c = true ∧ (σ 7 0 c ≤ v ∧ v ≤ σ 7 1 c) ∧ gEq (some (.int (σ 7 2 c))) (up3 σ 7 2 c v) τ r σ' τ') (fun E σ' τ' => ((E = xIOB ∧ ¬ isC cl) ∨ (E = xISE ∧ ∃ c, c < 16 ∧ cl = nI c ∧ bt (σ 5 0 8) c = false) ∨ (E = xIAE ∧ ∃ c, c < 16 ∧ cl = nI c ∧ bt (σ 5 0 8) c = true ∧ ¬ (σ 7 0 c ≤ v ∧ v ≤ σ 7 1 c))) ∧ σ = σ' ∧ τ = τ') (some (.int k0)) σ1 τ1) (h2 : (fun r σ' τ' => (¬ isC cl ∧ thQ σ1 τ1 1 r σ' τ') ∨ ∃ c, c < 16 ∧ cl = nI c ∧ ((¬ σ1 20 2 c ≤ 0 ∧ thQ σ1 τ1 2 r σ' τ') ∨ (σ1 20 2 c ≤ 0 ∧ ¬ (σ1 20 5 c ≤ v ∧ v ≤ σ1 20 6 c) ∧ thQ σ1 τ1 3 r σ' τ') ∨ (σ1 20 2 c ≤ 0 ∧ (σ1 20 5 c ≤ v ∧ v ≤ σ1 20 6 c) ∧ gEq (some (.int (σ1 20 7 c))) (up3 (up3 σ1 19 0 0 0) 20 7 c v) τ1 r σ' τ'))) (some (.int b)) σ2 τ2) : Stq k0 b σ2 τ2 := by
  obtain ⟨a9, b9, c9, d9, e9, f9⟩ := id hR
  rcases h1 with ⟨x, τ', ⟨c, hc, rfl, hb1, hr, hx, rfl, rfl⟩, hk0, rfl⟩ | ⟨E, i, hi, ⟨hp, rfl, rfl⟩, hk0⟩
  · rcases h2 with ⟨hn, -⟩ | ⟨c2, hc2, e2, h2⟩
    · exact no_C hc rfl hn
    · obtain rfl := nI_one hc hc2 e2
      have h9 : σ 20 2 c ≤ 0 := (rel_in b9 hc).mpr hb1
      obtain ⟨-, e5, e6, -⟩ := b9.2.2.2 c hc
      rcases h2 with ⟨h3, -⟩ | ⟨-, h3, -⟩ | ⟨-, -, hb, rfl, rfl⟩
      · exact absurd h9 h3
      · rw [e5, e6] at hr; exact absurd hr h3
      · cases hk0
        refine st_ok ⟨rDr_of (σ := σ) rfl rfl rfl rfl rfl rfl rfl rfl a9, rSh_of (σ := σ) (fun _ _ => rfl) (fun _ _ => rfl) (fun _ _ => rfl) rfl rfl rfl rfl rfl rfl rfl rfl rfl rfl rfl rfl b9, rPr_of (σ := σ) (fun _ _ => rfl) rfl rfl rfl rfl rfl c9, rVe_of (σ := σ) rfl rfl rfl rfl rfl rfl rfl rfl rfl rfl rfl d9, ?_, rUn_of (σ := σ) rfl rfl rfl rfl f9⟩ rfl hx ?_ rfl
        · obtain ⟨g1, g2, g3⟩ := e9
          refine ⟨g1, g2, fun z hz => ⟨?_, (g3 z hz).2⟩⟩
          show (up3 _ 7 2 c v) 7 2 z = (up3 _ 20 7 c v) 20 7 z
          rw [up3_i2, up3_i2]
          by_cases q : z = c
          · rw [if_pos q, if_pos q]
          · rw [if_neg q, if_neg q]; exact (g3 z hz).1
        · rw [← hb]
          exact congrArg (fun z => some (Value.int z)) (e9.2.2 c hc).1
  · rcases hp with ⟨rfl, hn⟩ | ⟨rfl, c, hc, rfl, hb1⟩ | ⟨rfl, c, hc, rfl, hb1, hr⟩
    · obtain rfl := cs_ix (by decide) hi 0 rfl
      rcases h2 with ⟨-, h2⟩ | ⟨c2, hc2, e2, -⟩
      · exact st_thr hR 0 (by decide) hk0 h2 rfl
      · exact no_C hc2 e2 hn
    · obtain rfl := cs_ix (by decide) hi 1 rfl
      rcases h2 with ⟨hn, -⟩ | ⟨c2, hc2, e2, h2⟩
      · exact no_C hc rfl hn
      · obtain rfl := nI_one hc hc2 e2
        have h9 : ¬ σ 20 2 c ≤ 0 := fun q => by rw [(rel_in b9 hc).mp q] at hb1; cases hb1
        rcases h2 with ⟨-, h2⟩ | ⟨h3, -⟩ | ⟨h3, -⟩
        · exact st_thr hR 1 (by decide) hk0 h2 rfl
        · exact absurd h3 h9
        · exact absurd h3 h9
    · obtain rfl := cs_ix (by decide) hi 2 rfl
      rcases h2 with ⟨hn, -⟩ | ⟨c2, hc2, e2, h2⟩
      · exact no_C hc rfl hn
      · obtain rfl := nI_one hc hc2 e2
        have h9 : σ 20 2 c ≤ 0 := (rel_in b9 hc).mpr hb1
        obtain ⟨-, e5, e6, -⟩ := b9.2.2.2 c hc
        rcases h2 with ⟨h3, -⟩ | ⟨-, -, h2⟩ | ⟨-, h3, -⟩
        · exact absurd h9 h3
        · exact st_thr hR 2 (by decide) hk0 h2 rfl
        · rw [e5, e6] at hr; exact absurd h3 hr
theorem s_reads {σ σ1 σ2 : gSig} {τ τ1 τ2 : gTau} {cl : Int32} {k0 b : Int32} (hR : Rel σ)  (h1 : wrQ [xIOB] (fun r σ' τ' => ∃ c, c < 16 ∧ cl = nI c ∧ gEq (some (.int (σ 7 3 c))) σ τ r σ' τ') (fun E σ' τ' => (E = xIOB ∧ ¬ isC cl) ∧ σ = σ' ∧ τ = τ') (some (.int k0)) σ1 τ1) (h2 : (fun r σ' τ' => (¬ isC cl ∧ thQ σ1 τ1 1 r σ' τ') ∨ ∃ c, c < 16 ∧ cl = nI c ∧ gEq (some (.int (mR σ1 c))) (up3 σ1 19 0 0 0) τ1 r σ' τ') (some (.int b)) σ2 τ2) : Stq k0 b σ2 τ2 := by
  obtain ⟨a9, b9, c9, d9, e9, f9⟩ := id hR
  rcases h1 with ⟨x, τ', ⟨c, hc, rfl, hx, rfl, rfl⟩, hk0, rfl⟩ | ⟨E, i, hi, ⟨⟨rfl, hn⟩, rfl, rfl⟩, hk0⟩
  · rcases h2 with ⟨hn, -⟩ | ⟨c2, hc2, e2, hb, rfl, rfl⟩
    · exact no_C hc rfl hn
    · obtain rfl := nI_one hc hc2 e2
      cases hk0
      refine st_ok (Rel_t 0 hR) rfl hx ?_ rfl
      rw [← hb]
      refine congrArg (fun z => some (Value.int z)) ?_
      exact rel_rd b9 hc
  · obtain rfl := cs_ix (by decide) hi 0 rfl
    rcases h2 with ⟨-, h2⟩ | ⟨c2, hc2, e2, -⟩
    · exact st_thr hR 0 (by decide) hk0 h2 rfl
    · exact no_C hc2 e2 hn
theorem s_rests {σ σ1 σ2 : gSig} {τ τ1 τ2 : gTau} {cl : Int32} {k0 b : Int32} (hR : Rel σ)  (h1 : wrQ [xIOB] (fun r σ' τ' => ∃ c, c < 16 ∧ cl = nI c ∧ gEq (some (.int (σ 7 4 c))) σ τ r σ' τ') (fun E σ' τ' => (E = xIOB ∧ ¬ isC cl) ∧ σ = σ' ∧ τ = τ') (some (.int k0)) σ1 τ1) (h2 : (fun r σ' τ' => (¬ isC cl ∧ thQ σ1 τ1 1 r σ' τ') ∨ ∃ c, c < 16 ∧ cl = nI c ∧ gEq (some (.int (clR (mR σ1) (mR σ1 c) 16))) (up3 σ1 19 0 0 0) τ1 r σ' τ') (some (.int b)) σ2 τ2) : Stq k0 b σ2 τ2 := by
  obtain ⟨a9, b9, c9, d9, e9, f9⟩ := id hR
  rcases h1 with ⟨x, τ', ⟨c, hc, rfl, hx, rfl, rfl⟩, hk0, rfl⟩ | ⟨E, i, hi, ⟨⟨rfl, hn⟩, rfl, rfl⟩, hk0⟩
  · rcases h2 with ⟨hn, -⟩ | ⟨c2, hc2, e2, hb, rfl, rfl⟩
    · exact no_C hc rfl hn
    · obtain rfl := nI_one hc hc2 e2
      cases hk0
      refine st_ok (Rel_t 0 hR) rfl hx ?_ rfl
      rw [← hb]
      refine congrArg (fun z => some (Value.int z)) ?_
      exact (rel_ro b9 hc).symm
  · obtain rfl := cs_ix (by decide) hi 0 rfl
    rcases h2 with ⟨-, h2⟩ | ⟨c2, hc2, e2, -⟩
    · exact st_thr hR 0 (by decide) hk0 h2 rfl
    · exact no_C hc2 e2 hn
theorem s_verdict {σ σ1 σ2 : gSig} {τ τ1 τ2 : gTau} {cl : Int32} {k0 b : Int32} (hR : Rel σ)  (h1 : wrQ [xIOB] (fun r σ' τ' => ∃ c, c < 16 ∧ cl = nI c ∧ gEq (some (.int (veC σ c))) σ τ r σ' τ') (fun E σ' τ' => (E = xIOB ∧ ¬ isC cl) ∧ σ = σ' ∧ τ = τ') (some (.int k0)) σ1 τ1) (h2 : (fun r σ' τ' => (¬ isC cl ∧ thQ σ1 τ1 1 r σ' τ') ∨ ∃ c, c < 16 ∧ cl = nI c ∧ gEq (some (.int (σ1 20 12 c))) (up3 σ1 19 0 0 0) τ1 r σ' τ') (some (.int b)) σ2 τ2) : Stq k0 b σ2 τ2 := by
  obtain ⟨a9, b9, c9, d9, e9, f9⟩ := id hR
  rcases h1 with ⟨x, τ', ⟨c, hc, rfl, hx, rfl, rfl⟩, hk0, rfl⟩ | ⟨E, i, hi, ⟨⟨rfl, hn⟩, rfl, rfl⟩, hk0⟩
  · rcases h2 with ⟨hn, -⟩ | ⟨c2, hc2, e2, hb, rfl, rfl⟩
    · exact no_C hc rfl hn
    · obtain rfl := nI_one hc hc2 e2
      cases hk0
      refine st_ok (Rel_t 0 hR) rfl hx ?_ rfl
      rw [← hb]
      refine congrArg (fun z => some (Value.int z)) ?_
      exact ((d9.2.2 c hc).2.1).symm
  · obtain rfl := cs_ix (by decide) hi 0 rfl
    rcases h2 with ⟨-, h2⟩ | ⟨c2, hc2, e2, -⟩
    · exact st_thr hR 0 (by decide) hk0 h2 rfl
    · exact no_C hc2 e2 hn
theorem ve_2 (σ : gSig) (c : Nat) : veC σ c = 2 ↔ bt (σ 13 0 6) c = true := by
  unfold veC
  cases bt (σ 13 0 6) c with
  | true => simp
  | false => cases bt (σ 13 0 5) c <;> decide
theorem ve_1 (σ : gSig) (c : Nat) : veC σ c = 1 ↔ bt (σ 13 0 6) c = false ∧ bt (σ 13 0 5) c = true := by
  unfold veC
  cases bt (σ 13 0 6) c with
  | true => simp
  | false => cases bt (σ 13 0 5) c <;> simp
theorem s_failing {σ σ1 σ2 : gSig} {τ τ1 τ2 : gTau} {cl : Int32} {k0 b : Int32} (hR : Rel σ)  (h1 : wrQ [xIOB] (fun r σ' τ' => ∃ c, c < 16 ∧ cl = nI c ∧ gEq (some (.int (if bt (σ 13 0 6) c then σ 14 1 c else -1))) σ τ r σ' τ') (fun E σ' τ' => (E = xIOB ∧ ¬ isC cl) ∧ σ = σ' ∧ τ = τ') (some (.int k0)) σ1 τ1) (h2 : (fun r σ' τ' => (¬ isC cl ∧ thQ σ1 τ1 1 r σ' τ') ∨ ∃ c, c < 16 ∧ cl = nI c ∧ gEq (some (.int (if σ1 20 12 c = 2 then σ1 20 13 c else -1))) (up3 σ1 19 0 0 0) τ1 r σ' τ') (some (.int b)) σ2 τ2) : Stq k0 b σ2 τ2 := by
  obtain ⟨a9, b9, c9, d9, e9, f9⟩ := id hR
  rcases h1 with ⟨x, τ', ⟨c, hc, rfl, hx, rfl, rfl⟩, hk0, rfl⟩ | ⟨E, i, hi, ⟨⟨rfl, hn⟩, rfl, rfl⟩, hk0⟩
  · rcases h2 with ⟨hn, -⟩ | ⟨c2, hc2, e2, hb, rfl, rfl⟩
    · exact no_C hc rfl hn
    · obtain rfl := nI_one hc hc2 e2
      cases hk0
      refine st_ok (Rel_t 0 hR) rfl hx ?_ rfl
      rw [← hb]
      refine congrArg (fun z => some (Value.int z)) ?_
      obtain ⟨-, g2, g3, -⟩ := d9.2.2 c hc
      rw [g2]
      by_cases q : bt (σ 13 0 6) c = true
      · rw [if_pos q, if_pos ((ve_2 σ c).mpr q)]; exact (g3 q).1
      · rw [if_neg q, if_neg (fun z => q ((ve_2 σ c).mp z))]
  · obtain rfl := cs_ix (by decide) hi 0 rfl
    rcases h2 with ⟨-, h2⟩ | ⟨c2, hc2, e2, -⟩
    · exact st_thr hR 0 (by decide) hk0 h2 rfl
    · exact no_C hc2 e2 hn
theorem s_smaller {σ σ1 σ2 : gSig} {τ τ1 τ2 : gTau} {cl : Int32} {k0 b : Int32} (hR : Rel σ)  (h1 : wrQ [xIOB] (fun r σ' τ' => ∃ c, c < 16 ∧ cl = nI c ∧ gEq (some (.int (if bt (σ 13 0 6) c then σ 14 2 c else -1))) σ τ r σ' τ') (fun E σ' τ' => (E = xIOB ∧ ¬ isC cl) ∧ σ = σ' ∧ τ = τ') (some (.int k0)) σ1 τ1) (h2 : (fun r σ' τ' => (¬ isC cl ∧ thQ σ1 τ1 1 r σ' τ') ∨ ∃ c, c < 16 ∧ cl = nI c ∧ gEq (some (.int (if σ1 20 15 c = -1 then -1 else σ1 20 16 c))) (up3 σ1 19 0 0 0) τ1 r σ' τ') (some (.int b)) σ2 τ2) : Stq k0 b σ2 τ2 := by
  obtain ⟨a9, b9, c9, d9, e9, f9⟩ := id hR
  rcases h1 with ⟨x, τ', ⟨c, hc, rfl, hx, rfl, rfl⟩, hk0, rfl⟩ | ⟨E, i, hi, ⟨⟨rfl, hn⟩, rfl, rfl⟩, hk0⟩
  · rcases h2 with ⟨hn, -⟩ | ⟨c2, hc2, e2, hb, rfl, rfl⟩
    · exact no_C hc rfl hn
    · obtain rfl := nI_one hc hc2 e2
      cases hk0
      refine st_ok (Rel_t 0 hR) rfl hx ?_ rfl
      rw [← hb]
      refine congrArg (fun z => some (Value.int z)) ?_
      obtain ⟨-, g2, g3, g4⟩ := d9.2.2 c hc
      by_cases q : bt (σ 13 0 6) c = true
      · rw [if_pos q, if_neg (g3 q).2.2.1]; exact (g3 q).2.1
      · rw [if_neg q, if_pos (g4 (by simpa using q))]
  · obtain rfl := cs_ix (by decide) hi 0 rfl
    rcases h2 with ⟨-, h2⟩ | ⟨c2, hc2, e2, -⟩
    · exact st_thr hR 0 (by decide) hk0 h2 rfl
    · exact no_C hc2 e2 hn
theorem s_isLocked {σ σ1 σ2 : gSig} {τ τ1 τ2 : gTau} {cl : Int32} {k0 b : Int32} (hR : Rel σ) {o o' : Nat → Nat} (hK : shK σ o) (hM : moK σ o') (h1 : wrB [xIOB] (fun r σ' τ' => ∃ c, c < 16 ∧ cl = nI c ∧ gEq (some (.int (b2i (bt (lcC σ o) c)))) σ τ r σ' τ') (fun E σ' τ' => (E = xIOB ∧ ¬ isC cl) ∧ σ = σ' ∧ τ = τ') (some (.int k0)) σ1 τ1) (h2 : (fun r σ' τ' => (¬ isC cl ∧ thQ σ1 τ1 1 r σ' τ') ∨ ∃ c, c < 16 ∧ cl = nI c ∧ gEq (some (.int (b2i (bt (lkF (mR σ1) (flM σ1) (wvM σ1) o' 16) c)))) (up3 σ1 19 0 0 0) τ1 r σ' τ') (some (.int b)) σ2 τ2) : StqB k0 b σ2 τ2 := by
  obtain ⟨a9, b9, c9, d9, e9, f9⟩ := id hR
  rcases h1 with ⟨x, τ', ⟨c, hc, rfl, hx, rfl, rfl⟩, hk0, rfl⟩ | ⟨E, i, hi, ⟨⟨rfl, hn⟩, rfl, rfl⟩, hk0⟩
  · rcases h2 with ⟨hn, -⟩ | ⟨c2, hc2, e2, hb, rfl, rfl⟩
    · exact no_C hc rfl hn
    · obtain rfl := nI_one hc hc2 e2
      cases hk0
      refine st_okB (Rel_t 0 hR) rfl hx ?_ rfl
      rw [← hb]
      refine congrArg (fun z => some (Value.int z)) ?_
      rw [rel_lk hR hK hM]; rfl
  · obtain rfl := cs_ix (by decide) hi 0 rfl
    rcases h2 with ⟨-, h2⟩ | ⟨c2, hc2, e2, -⟩
    · exact st_thrB hR 0 (by decide) hk0 h2 rfl
    · exact no_C hc2 e2 hn
theorem rel_ways {σ : gSig} (hR : Rel σ) {o : Nat → Nat} (hK : shK σ o) {c : Nat} (hc : c < 16) : lwC σ c = bt (lcC σ o) c := by
  obtain ⟨rk, hk, hrk⟩ := rel_rk hR.2.1
  exact ways_lk (fun z hz => rel_m16 hR.2.1 hz) hR.2.2.2.1.2.1 hk hrk (lkF_eq (fun i hi => (hK.1 i hi).2) hK.2.2.1 hK.2.2.2.1 hK.2.1 (fun z hz => rel_m16 hR.2.1 hz)) hc
theorem rel_mark {σ : gSig} (hR : Rel σ) {c : Nat} (hc : c < 16) : mkC σ c = anyB (mkB σ c) 16 := by
  obtain ⟨⟨o, hK⟩, -⟩ := hR.2.1
  unfold mkC
  rw [and_any (m16_or (hK.2.2.2.2.1 c hc).1 (m16_b1 hc))]
  refine anyB_congr (fun i hi => ?_)
  unfold mkB
  rw [rel_ro hR.2.1 hc, (hR.2.2.2.1.2.2 i hi).2.1, b_or, bt_b1 (by omega), Bool.or_comm]
  congr 1
  apply Bool.eq_iff_iff.mpr
  rw [decide_eq_true_iff]
  exact (ve_2 σ i).symm
theorem s_isLockedByWays {σ σ1 σ2 : gSig} {τ τ1 τ2 : gTau} {cl : Int32} {k0 b : Int32} (hR : Rel σ) {o o' : Nat → Nat} (hK : shK σ o) (hM : moK σ o') (h1 : wrB [xIOB] (fun r σ' τ' => ∃ c, c < 16 ∧ cl = nI c ∧ gEq (some (.int (b2i (lwC σ c)))) σ τ r σ' τ') (fun E σ' τ' => (E = xIOB ∧ ¬ isC cl) ∧ σ = σ' ∧ τ = τ') (some (.int k0)) σ1 τ1) (h2 : (fun r σ' τ' => (¬ isC cl ∧ thQ σ1 τ1 1 r σ' τ') ∨ ∃ c, c < 16 ∧ cl = nI c ∧ gEq (some (.int (b2i (bt (lkF (mR σ1) (flM σ1) (wvM σ1) o' 16) c)))) (up3 σ1 19 0 0 0) τ1 r σ' τ') (some (.int b)) σ2 τ2) : StqB k0 b σ2 τ2 := by
  obtain ⟨a9, b9, c9, d9, e9, f9⟩ := id hR
  rcases h1 with ⟨x, τ', ⟨c, hc, rfl, hx, rfl, rfl⟩, hk0, rfl⟩ | ⟨E, i, hi, ⟨⟨rfl, hn⟩, rfl, rfl⟩, hk0⟩
  · rcases h2 with ⟨hn, -⟩ | ⟨c2, hc2, e2, hb, rfl, rfl⟩
    · exact no_C hc rfl hn
    · obtain rfl := nI_one hc hc2 e2
      cases hk0
      refine st_okB (Rel_t 0 hR) rfl hx ?_ rfl
      rw [← hb]
      refine congrArg (fun z => some (Value.int z)) ?_
      rw [rel_ways hR hK hc, rel_lk hR hK hM]; rfl
  · obtain rfl := cs_ix (by decide) hi 0 rfl
    rcases h2 with ⟨-, h2⟩ | ⟨c2, hc2, e2, -⟩
    · exact st_thrB hR 0 (by decide) hk0 h2 rfl
    · exact no_C hc2 e2 hn
theorem s_isMarked {σ σ1 σ2 : gSig} {τ τ1 τ2 : gTau} {cl : Int32} {k0 b : Int32} (hR : Rel σ)  (h1 : wrB [xIOB] (fun r σ' τ' => ∃ c, c < 16 ∧ cl = nI c ∧ gEq (some (.int (b2i (mkC σ c)))) σ τ r σ' τ') (fun E σ' τ' => (E = xIOB ∧ ¬ isC cl) ∧ σ = σ' ∧ τ = τ') (some (.int k0)) σ1 τ1) (h2 : (fun r σ' τ' => (¬ isC cl ∧ thQ σ1 τ1 1 r σ' τ') ∨ ∃ c, c < 16 ∧ cl = nI c ∧ gEq (some (.int (b2i (anyB (mkB σ1 c) 16)))) (up3 σ1 19 0 0 0) τ1 r σ' τ') (some (.int b)) σ2 τ2) : StqB k0 b σ2 τ2 := by
  obtain ⟨a9, b9, c9, d9, e9, f9⟩ := id hR
  rcases h1 with ⟨x, τ', ⟨c, hc, rfl, hx, rfl, rfl⟩, hk0, rfl⟩ | ⟨E, i, hi, ⟨⟨rfl, hn⟩, rfl, rfl⟩, hk0⟩
  · rcases h2 with ⟨hn, -⟩ | ⟨c2, hc2, e2, hb, rfl, rfl⟩
    · exact no_C hc rfl hn
    · obtain rfl := nI_one hc hc2 e2
      cases hk0
      refine st_okB (Rel_t 0 hR) rfl hx ?_ rfl
      rw [← hb]
      refine congrArg (fun z => some (Value.int z)) ?_
      rw [rel_mark hR hc]
  · obtain rfl := cs_ix (by decide) hi 0 rfl
    rcases h2 with ⟨-, h2⟩ | ⟨c2, hc2, e2, -⟩
    · exact st_thrB hR 0 (by decide) hk0 h2 rfl
    · exact no_C hc2 e2 hn
theorem s_locked {σ σ1 σ2 : gSig} {τ τ1 τ2 : gTau} {x b : Int32} (hR : Rel σ) {o o' : Nat → Nat} (hK : shK σ o) (hM : moK σ o') (h1 : (gEq (some (.int (bcJ (lcC σ o)))) σ τ) (some (.int x)) σ1 τ1) (h2 : (gEq (some (.int (btF (lkF (mR σ1) (flM σ1) (wvM σ1) o' 16) 16))) (up3 σ1 19 0 0 0) τ1) (some (.int b)) σ2 τ2) : x = b ∧ Rel σ2 := by
  obtain ⟨hx, rfl, rfl⟩ := h1
  obtain ⟨hb, rfl, rfl⟩ := h2
  have e : bcJ (lcC σ o) = btF (lkF (mR σ) (flM σ) (wvM σ) o' 16) 16 := by rw [bcJ_btF (rel_lk16 hK), rel_lk hR hK hM]; rfl
  rw [e, hb] at hx
  exact ⟨(Value.int.inj (Option.some.inj hx)).symm, Rel_t 0 hR⟩
theorem s_unlockedAt {σ σ1 σ2 : gSig} {τ τ1 τ2 : gTau} {ix : Int32} {k0 b : Int32} (hR : Rel σ) {w u : Nat} (hw : σ 17 0 4 = nI w) (hw16 : w ≤ 16) (hu : σ 19 0 22 = nI u) (hu16 : u ≤ 16) (h1 : wrQ [xIOB] (fun r σ' τ' => ∃ j, j < w ∧ ix = nI j ∧ gEq (some (.int (σ 18 2 j))) σ τ r σ' τ') (fun E σ' τ' => (E = xIOB ∧ ¬ ∃ j, j < w ∧ ix = nI j) ∧ σ = σ' ∧ τ = τ') (some (.int k0)) σ1 τ1) (h2 : (fun r σ' τ' => (¬ ((0 : Int32) ≤ ix ∧ ix ≤ nI u - 1) ∧ thQ σ1 τ1 1 r σ' τ') ∨ ∃ k, k < u ∧ ix = nI k ∧ gEq (some (.int (σ1 20 18 k))) (up3 σ1 19 0 0 0) τ1 r σ' τ') (some (.int b)) σ2 τ2) : Stq k0 b σ2 τ2 := by
  obtain ⟨w9, hw9, w1, w2, w3⟩ := hR.2.2.2.2.2
  have ew : w9 = w := (nI_eq (by omega) (by omega)).mp (w1.symm.trans hw)
  subst ew
  have eu : u = w9 := (nI_eq (by omega) (by omega)).mp (hu.symm.trans w2)
  subst eu
  rcases h1 with ⟨x, τ', ⟨j, hj, rfl, hx, rfl, rfl⟩, hk0, rfl⟩ | ⟨E, i, hi, ⟨⟨rfl, hn⟩, rfl, rfl⟩, hk0⟩
  · rcases h2 with ⟨hn, -⟩ | ⟨k, hk, e2, hb, rfl, rfl⟩
    · exfalso
      apply hn
      obtain ⟨u', rfl⟩ : ∃ z, u = z + 1 := ⟨u - 1, by omega⟩
      rw [nI_s1]
      exact ⟨Int32.not_lt.mp (nI_pos (by omega)), (nI_leI (by omega) (by omega)).mpr (by omega)⟩
    · have e3 : j = k := (nI_eq (by omega) (by omega)).mp e2
      subst e3
      cases hk0
      refine st_ok (Rel_t 0 hR) rfl hx ?_ rfl
      rw [← hb]
      exact congrArg (fun z => some (Value.int z)) (w3 j hj)
  · obtain rfl := cs_ix (by decide) hi 0 rfl
    rcases h2 with ⟨-, h2⟩ | ⟨k, hk, e2, -⟩
    · exact st_thr hR 0 (by decide) hk0 h2 rfl
    · exact absurd ⟨k, hk, e2⟩ hn
theorem s_example {σ σ1 σ2 : gSig} {τ τ1 τ2 : gTau} {cl il : Int32} {k0 b : Int32} (hR : Rel σ)  (h1 : wrQ [xIOB, xNSE] (fun r σ' τ' => ∃ c i, c < 16 ∧ i < 16 ∧ cl = nI c ∧ il = nI i ∧ (bt (σ 13 0 6) c = true ∧ bt (σ 14 3 c) i = true) ∧ gEq (some (.int (σ 16 c i))) σ τ r σ' τ') (fun E σ' τ' => ((E = xIOB ∧ ¬ (isC cl ∧ isC il)) ∨ (E = xNSE ∧ ∃ c i, c < 16 ∧ i < 16 ∧ cl = nI c ∧ il = nI i ∧ ¬ (bt (σ 13 0 6) c = true ∧ bt (σ 14 3 c) i = true))) ∧ σ = σ' ∧ τ = τ') (some (.int k0)) σ1 τ1) (h2 : (fun r σ' τ' => (¬ (isC cl ∧ isC il) ∧ thQ σ1 τ1 1 r σ' τ') ∨ ∃ c i, c < 16 ∧ i < 16 ∧ cl = nI c ∧ il = nI i ∧ ((¬ (¬ σ1 20 15 c = -1 ∧ bt (σ1 20 15 c) i = true) ∧ thQ σ1 τ1 2 r σ' τ') ∨ ((¬ σ1 20 15 c = -1 ∧ bt (σ1 20 15 c) i = true) ∧ gEq (some (.int (σ1 20 14 (16 * c + i)))) (up3 σ1 19 0 0 0) τ1 r σ' τ'))) (some (.int b)) σ2 τ2) : Stq k0 b σ2 τ2 := by
  obtain ⟨a9, b9, c9, d9, e9, f9⟩ := id hR
  rcases h1 with ⟨x, τ', ⟨c, i, hc, hi, rfl, rfl, ⟨hf, hb9⟩, hx, rfl, rfl⟩, hk0, rfl⟩ | ⟨E, i9, hi9, ⟨hp, rfl, rfl⟩, hk0⟩
  · rcases h2 with ⟨hn, -⟩ | ⟨c2, i2, hc2, hi2, e2, e3, h2⟩
    · exact absurd ⟨isC_of hc, isC_of hi⟩ hn
    · obtain rfl := nI_one hc hc2 e2
      obtain rfl := nI_one hi hi2 e3
      obtain ⟨-, -, g3, -⟩ := d9.2.2 c hc
      obtain ⟨-, -, g4, g5⟩ := g3 hf
      rcases h2 with ⟨h3, -⟩ | ⟨-, hb, rfl, rfl⟩
      · exact absurd ⟨g4, by rw [← (g5 i hi).1]; exact hb9⟩ h3
      · cases hk0
        refine st_ok (Rel_t 0 hR) rfl hx ?_ rfl
        rw [← hb]
        exact congrArg (fun z => some (Value.int z)) ((g5 i hi).2 hb9)
  · rcases hp with ⟨rfl, hn⟩ | ⟨rfl, c, i, hc, hi, rfl, rfl, hn⟩
    · obtain rfl := cs_ix (by decide) hi9 0 rfl
      rcases h2 with ⟨-, h2⟩ | ⟨c2, i2, hc2, hi2, e2, e3, -⟩
      · exact st_thr hR 0 (by decide) hk0 h2 rfl
      · exact absurd ⟨by rw [e2]; exact isC_of hc2, by rw [e3]; exact isC_of hi2⟩ hn
    · obtain rfl := cs_ix (by decide) hi9 1 rfl
      rcases h2 with ⟨h9, -⟩ | ⟨c2, i2, hc2, hi2, e2, e3, h2⟩
      · exact absurd ⟨isC_of hc, isC_of hi⟩ h9
      · obtain rfl := nI_one hc hc2 e2
        obtain rfl := nI_one hi hi2 e3
        obtain ⟨-, -, g3, g6⟩ := d9.2.2 c hc
        rcases h2 with ⟨-, h2⟩ | ⟨⟨h3, h4⟩, -⟩
        · exact st_thr hR 1 (by decide) hk0 h2 rfl
        · exfalso
          apply hn
          cases hf : bt (σ 13 0 6) c with
          | false => exact absurd (g6 hf) h3
          | true => exact ⟨rfl, by rw [((g3 hf).2.2.2 i hi).1]; exact h4⟩
theorem own_5 {x : Int32} : (¬ x < 0 ∧ x < 6) ↔ (0 : Int32) ≤ x ∧ x ≤ 5 := by
  rw [Int32.not_lt]
  refine and_congr Iff.rfl ?_
  rw [fa_lt, fa_le]
  have e1 : (6 : Int32).toInt = 6 := by decide
  have e2 : (5 : Int32).toInt = 5 := by decide
  omega
theorem s_own {σ σ1 σ2 : gSig} {τ τ1 τ2 : gTau} {cl ow : Int32} {k0 b : Int32} (hR : Rel σ)  (h1 : wrQ [xIOB, xIAE] (fun r σ' τ' => ∃ c, c < 16 ∧ cl = nI c ∧ (¬ ow < 0 ∧ ow < 6) ∧ gEq (some (.int (σ 18 0 c))) (up3 σ 18 0 c ow) τ r σ' τ') (fun E σ' τ' => ((E = xIOB ∧ ¬ isC cl) ∨ (E = xIAE ∧ ∃ c, c < 16 ∧ cl = nI c ∧ ¬ (¬ ow < 0 ∧ ow < 6))) ∧ σ = σ' ∧ τ = τ') (some (.int k0)) σ1 τ1) (h2 : (fun r σ' τ' => (¬ isC cl ∧ thQ σ1 τ1 1 r σ' τ') ∨ (isC cl ∧ ¬ ((0 : Int32) ≤ ow ∧ ow ≤ 5) ∧ thQ σ1 τ1 2 r σ' τ') ∨ ∃ c, c < 16 ∧ cl = nI c ∧ ((0 : Int32) ≤ ow ∧ ow ≤ 5) ∧ gEq (some (.int (σ1 20 8 c))) (up3 (up3 σ1 19 0 0 0) 20 8 c ow) τ1 r σ' τ') (some (.int b)) σ2 τ2) : Stq k0 b σ2 τ2 := by
  obtain ⟨a9, b9, c9, d9, e9, f9⟩ := id hR
  rcases h1 with ⟨x, τ', ⟨c, hc, rfl, hO, hx, rfl, rfl⟩, hk0, rfl⟩ | ⟨E, i, hi, ⟨hp, rfl, rfl⟩, hk0⟩
  · rcases h2 with ⟨hn, -⟩ | ⟨-, h3, -⟩ | ⟨c2, hc2, e2, -, hb, rfl, rfl⟩
    · exact no_C hc rfl hn
    · exact absurd (own_5.mp hO) h3
    · obtain rfl := nI_one hc hc2 e2
      cases hk0
      refine st_ok ⟨rDr_of (σ := σ) rfl rfl rfl rfl rfl rfl rfl rfl a9, rSh_of (σ := σ) (fun _ _ => rfl) (fun _ _ => rfl) (fun _ _ => rfl) rfl rfl rfl rfl rfl rfl rfl rfl rfl rfl rfl rfl b9, rPr_of (σ := σ) (fun _ _ => rfl) rfl rfl rfl rfl rfl c9, rVe_of (σ := σ) rfl rfl rfl rfl rfl rfl rfl rfl rfl rfl rfl d9, ?_, rUn_of (σ := σ) rfl rfl rfl rfl f9⟩ rfl hx ?_ rfl
      · obtain ⟨g1, g2, g3⟩ := e9
        refine ⟨g1, g2, fun z hz => ⟨(g3 z hz).1, ?_, (g3 z hz).2.2⟩⟩
        show (up3 _ 18 0 c ow) 18 0 z = (up3 _ 20 8 c ow) 20 8 z
        rw [up3_i2, up3_i2]
        by_cases q : z = c
        · rw [if_pos q, if_pos q]
        · rw [if_neg q, if_neg q]; exact (g3 z hz).2.1
      · rw [← hb]
        exact congrArg (fun z => some (Value.int z)) (e9.2.2 c hc).2.1
  · rcases hp with ⟨rfl, hn⟩ | ⟨rfl, c, hc, rfl, hO⟩
    · obtain rfl := cs_ix (by decide) hi 0 rfl
      rcases h2 with ⟨-, h2⟩ | ⟨h3, -⟩ | ⟨c2, hc2, e2, -⟩
      · exact st_thr hR 0 (by decide) hk0 h2 rfl
      · exact absurd h3 hn
      · exact no_C hc2 e2 hn
    · obtain rfl := cs_ix (by decide) hi 1 rfl
      rcases h2 with ⟨hn, -⟩ | ⟨-, -, h2⟩ | ⟨c2, hc2, e2, h3, -⟩
      · exact no_C hc rfl hn
      · exact st_thr hR 1 (by decide) hk0 h2 rfl
      · exact absurd (own_5.mpr h3) hO
theorem s_drop {σ σ1 σ2 : gSig} {τ τ1 τ2 : gTau} {cl : Int32} {k0 b : Int32} (hR : Rel σ)  (h1 : wrQ [xIOB] (fun r σ' τ' => ∃ c, c < 16 ∧ cl = nI c ∧ gEq (some (.int (σ 10 c 2))) (up3 σ 10 c 2 0) τ r σ' τ') (fun E σ' τ' => (E = xIOB ∧ ¬ isC cl) ∧ σ = σ' ∧ τ = τ') (some (.int k0)) σ1 τ1) (h2 : (fun r σ' τ' => (¬ isC cl ∧ thQ σ1 τ1 1 r σ' τ') ∨ ∃ c, c < 16 ∧ cl = nI c ∧ gEq (some (.int (σ1 20 9 c))) (up3 (up3 σ1 19 0 0 0) 20 9 c 0) τ1 r σ' τ') (some (.int b)) σ2 τ2) : Stq k0 b σ2 τ2 := by
  obtain ⟨a9, b9, c9, d9, e9, f9⟩ := id hR
  rcases h1 with ⟨x, τ', ⟨c, hc, rfl, hx, rfl, rfl⟩, hk0, rfl⟩ | ⟨E, i, hi, ⟨⟨rfl, hn⟩, rfl, rfl⟩, hk0⟩
  · rcases h2 with ⟨hn, -⟩ | ⟨c2, hc2, e2, hb, rfl, rfl⟩
    · exact no_C hc rfl hn
    · obtain rfl := nI_one hc hc2 e2
      cases hk0
      refine st_ok ⟨rDr_of (σ := σ) rfl rfl rfl rfl rfl rfl rfl rfl a9, rSh_of (σ := σ) (fun _ _ => rfl) (fun _ _ => rfl) (fun _ _ => rfl) rfl rfl rfl rfl rfl rfl rfl rfl rfl rfl rfl rfl b9, ?_, rVe_of (σ := σ) rfl rfl rfl rfl rfl rfl rfl rfl rfl rfl rfl d9, rDk_of (σ := σ) rfl rfl rfl rfl rfl rfl rfl rfl e9, rUn_of (σ := σ) rfl rfl rfl rfl f9⟩ rfl hx ?_ rfl
      · intro z hz
        by_cases q : z = c
        · subst q
          refine ⟨0, ⟨?_, by omega, fun p hp => absurd hp (Nat.not_lt_zero p)⟩, ⟨?_, by omega, fun p hp => absurd hp (Nat.not_lt_zero p)⟩, fun p hp => absurd hp (Nat.not_lt_zero p)⟩
          · show (up3 σ 10 z 2 0) 10 z 2 = _
            simp [up3_at]; rfl
          · show (up3 _ 20 9 z 0) 20 9 z = _
            simp [up3_at]; rfl
        · obtain ⟨n, g1, g2, g3⟩ := c9 z hz
          refine ⟨n, ⟨?_, g1.2.1, g1.2.2⟩, ⟨?_, g2.2.1, g2.2.2⟩, g3⟩
          · show (up3 σ 10 c 2 0) 10 z 2 = _
            rw [up3_if, if_neg q]; exact g1.1
          · show (up3 _ 20 9 c 0) 20 9 z = _
            rw [up3_i2, if_neg q]; exact g2.1
      · rw [← hb]
        obtain ⟨n, g1, g2, -⟩ := c9 c hc
        exact congrArg (fun z => some (Value.int z)) (g1.1.trans g2.1.symm)
  · obtain rfl := cs_ix (by decide) hi 0 rfl
    rcases h2 with ⟨-, h2⟩ | ⟨c2, hc2, e2, -⟩
    · exact st_thr hR 0 (by decide) hk0 h2 rfl
    · exact no_C hc2 e2 hn
