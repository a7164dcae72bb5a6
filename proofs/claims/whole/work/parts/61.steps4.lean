/-! ===== the steps input and enter: printed by g61.py ===== -/
theorem rd_z {σ σ' : gSig} {z : Nat} (h1 : σ' 1 z 3 = σ 1 z 3) (h2 : σ' 2 z = σ 2 z) (h3 : σ' 3 z = σ 3 z) (h5 : bt (σ' 5 0 8) z = bt (σ 5 0 8) z) (h7 : σ' 7 3 z = σ 7 3 z) (h : rdK σ z) : rdK σ' z := by
  unfold rdK frK flen at *
  rw [h1, h2, h3, h5, h7]
  exact h
theorem okP_congr {kd kd' nm nm' : Nat → Int32} {n : Nat} (h : ∀ j, j < n → kd j = kd' j ∧ (kd j = 13 → nm j = nm' j)) (hk : okP kd nm n) : okP kd' nm' n := fun i hi => by
  obtain ⟨a, b, c⟩ := hk i hi
  obtain ⟨e, f⟩ := h i hi
  rw [← e]
  refine ⟨a, fun q => ?_, fun q => ?_⟩
  · rw [← dep_congr (kd := kd) (fun j hj => (h j (by omega)).1)]; exact b q
  · rw [← f q]; exact c q
theorem m_z {σ σ' : gSig} {z : Nat} (m2 : σ' 20 2 z = σ 20 2 z) (m3 : ∀ k, k < 12 → σ' 20 3 (12 * z + k) = σ 20 3 (12 * z + k) ∧ σ' 20 4 (12 * z + k) = σ 20 4 (12 * z + k)) : mIn σ' z = mIn σ z ∧ mL σ' z = mL σ z ∧ ∀ k, k < 12 → mK σ' z k = mK σ z k ∧ mN σ' z k = mN σ z k := by
  unfold mIn mL mK mN
  rw [m2]
  refine ⟨rfl, rfl, fun k hk => ?_⟩
  rw [(m3 k hk).1, (m3 k hk).2]
  exact ⟨rfl, rfl⟩
theorem msK_z {σ σ' : gSig} {z : Nat} (m2 : σ' 20 2 z = σ 20 2 z) (m3 : ∀ k, k < 12 → σ' 20 3 (12 * z + k) = σ 20 3 (12 * z + k) ∧ σ' 20 4 (12 * z + k) = σ 20 4 (12 * z + k)) (h : msK σ z) : msK σ' z := by
  obtain ⟨a, b, c⟩ := h
  obtain ⟨-, e, -⟩ := m_z m2 m3
  refine ⟨by rw [m2, e]; exact a, by rw [e]; exact b, fun k hk => ?_⟩
  rw [e] at hk
  rw [(m3 k (by omega)).1, (m3 k (by omega)).2]
  exact c k hk
theorem mR_z {σ σ' : gSig} {z : Nat} (m2 : σ' 20 2 z = σ 20 2 z) (m3 : ∀ k, k < 12 → σ' 20 3 (12 * z + k) = σ 20 3 (12 * z + k) ∧ σ' 20 4 (12 * z + k) = σ 20 4 (12 * z + k)) (h : msK σ z) : mR σ' z = mR σ z := by
  obtain ⟨-, e, f⟩ := m_z m2 m3
  have hl := h.2.1
  unfold mR
  rw [e]
  exact rsM_congr (fun i hi => ⟨(f i (by omega)).1, fun _ => (f i (by omega)).2⟩)
theorem frM_z {σ σ' : gSig} {z : Nat} (m2 : σ' 20 2 z = σ 20 2 z) (m3 : ∀ k, k < 12 → σ' 20 3 (12 * z + k) = σ 20 3 (12 * z + k) ∧ σ' 20 4 (12 * z + k) = σ 20 4 (12 * z + k)) (h : msK σ z) (hf : frM σ z) : frM σ' z := by
  obtain ⟨-, e, f⟩ := m_z m2 m3
  obtain ⟨a, b, c⟩ := hf
  have hl := h.2.1
  refine ⟨by rw [e]; exact a, ?_, ?_⟩
  · rw [e]; exact okP_congr (fun j hj => ⟨((f j (by omega)).1).symm, fun _ => ((f j (by omega)).2).symm⟩) b
  · rw [e, dep_congr (fun j hj => (f j (by omega)).1)]; exact c
theorem rCe_z {σ σ' : gSig} {z : Nat} (m2 : σ' 20 2 z = σ 20 2 z) (m3 : ∀ k, k < 12 → σ' 20 3 (12 * z + k) = σ 20 3 (12 * z + k) ∧ σ' 20 4 (12 * z + k) = σ 20 4 (12 * z + k)) (h1 : σ' 1 z 3 = σ 1 z 3) (h2 : σ' 2 z = σ 2 z) (h3 : σ' 3 z = σ 3 z) (h5 : bt (σ' 5 0 8) z = bt (σ 5 0 8) z) (h70 : σ' 7 0 z = σ 7 0 z) (h71 : σ' 7 1 z = σ 7 1 z) (m5 : σ' 20 5 z = σ 20 5 z) (m6 : σ' 20 6 z = σ 20 6 z) (hm : msK σ z) (h : rCe σ z) : rCe σ' z := by
  obtain ⟨e0, e, f⟩ := m_z m2 m3
  obtain ⟨a, b, c, d⟩ := h
  have hl := hm.2.1
  have ef : flen σ' z = flen σ z := by unfold flen; rw [h1]
  refine ⟨by rw [h5, e0]; exact a, by rw [h70, m5]; exact b, by rw [h71, m6]; exact c, fun q => ?_⟩
  rw [e0] at q
  obtain ⟨d1, d2⟩ := d q
  rw [ef, e]
  refine ⟨d1, fun j hj => ?_⟩
  rw [h2, h3, (f j (by omega)).1, (f j (by omega)).2]
  exact d2 j hj
/-- a cell's change keeps the sheet -/
theorem chg_sh {σ σ' : gSig} {c : Nat} {o2 o3 : Nat → Nat} (hS : rSh σ) (hO : ordI (σ' 7 5) o2 16) (hT : ordT (σ' 7 3) o2 16) (hJ : ordJ o2 16) (hS2 : ordS o2) (hro : ∀ z, z < 16 → rsE (σ' 7 3) (σ' 7 4) z)
    (hO3 : ordI (σ' 20 19) o3 16) (hT3 : ordT (mR σ') o3 16) (hJ3 : ordJ o3 16) (hS3 : ordS o3) (h16 : m16 (σ' 5 0 8))
    (hz : ∀ z, z < 16 → z ≠ c → (σ' 1 z 3 = σ 1 z 3 ∧ σ' 2 z = σ 2 z ∧ σ' 3 z = σ 3 z ∧ bt (σ' 5 0 8) z = bt (σ 5 0 8) z ∧ σ' 7 3 z = σ 7 3 z ∧ σ' 7 0 z = σ 7 0 z ∧ σ' 7 1 z = σ 7 1 z) ∧ σ' 20 2 z = σ 20 2 z ∧ σ' 20 5 z = σ 20 5 z ∧ σ' 20 6 z = σ 20 6 z ∧ ∀ k, k < 12 → σ' 20 3 (12 * z + k) = σ 20 3 (12 * z + k) ∧ σ' 20 4 (12 * z + k) = σ 20 4 (12 * z + k))
    (hcd : rdK σ' c) (hcm : msK σ' c) (hcf : ¬ σ' 20 2 c = 0 → frM σ' c) (hcg : inpC σ' c = true → (-1000000 : Int32) ≤ σ' 7 0 c ∧ σ' 7 0 c ≤ σ' 7 1 c ∧ σ' 7 1 c ≤ 1000000) (hce : rCe σ' c) : rSh σ' := by
  obtain ⟨⟨o, hK⟩, ⟨oM, hM⟩, hG, hC⟩ := hS
  refine ⟨⟨o2, hO, hT, hJ, hS2, hro, fun z h => ?_, h16⟩, ⟨o3, hO3, hT3, hJ3, hS3, fun z h => ?_, fun z h hn => ?_⟩, fun z h hi => ?_, fun z h => ?_⟩
  · by_cases e : z = c
    · rw [e]; exact hcd
    · obtain ⟨⟨a1, a2, a3, a5, a7, -, -⟩, -⟩ := hz z h e
      exact rd_z a1 a2 a3 a5 a7 (hK.2.2.2.2.2.1 z h)
  · by_cases e : z = c
    · rw [e]; exact hcm
    · obtain ⟨-, b2, -, -, b3⟩ := hz z h e
      exact msK_z b2 b3 (hM.2.2.2.2.1 z h)
  · by_cases e : z = c
    · rw [e] at hn ⊢; exact hcf hn
    · obtain ⟨-, b2, -, -, b3⟩ := hz z h e
      rw [b2] at hn
      exact frM_z b2 b3 (hM.2.2.2.2.1 z h) (hM.2.2.2.2.2 z h hn)
  · by_cases e : z = c
    · rw [e] at hi ⊢; exact hcg hi
    · obtain ⟨⟨-, -, -, a5, -, a70, a71⟩, -⟩ := hz z h e
      rw [a70, a71]
      exact hG z h (by unfold inpC at hi ⊢; rw [← a5]; exact hi)
  · by_cases e : z = c
    · rw [e]; exact hce
    · obtain ⟨⟨a1, a2, a3, a5, a7, a70, a71⟩, b2, b5, b6, b3⟩ := hz z h e
      exact rCe_z b2 b3 a1 a2 a3 a5 a70 a71 b5 b6 (hM.2.2.2.2.1 z h) (hC z h)
/-! what a change clears -/
theorem cnF_cn (M : gSig) (c : Nat) : ∀ n, cnF M c n = nI (cnB (chB M c) n)
  | 0 => rfl
  | n + 1 => by
    unfold cnF cnB
    rw [cnF_cn M c n, ← nI_add]
    congr 1
    cases chB M c n <;> rfl
theorem chg_bt {σ' : gSig} (hS : rSh σ') {c z : Nat} (hc : c < 16) (hz : z < 16) : bt (croF (σ' 7 4) c 16 ||| b1 c) z = (decide (z = c) || bt (clR (mR σ') (mR σ' z) 16) c) := by
  rw [b_or, croF_bt _ _ _ 16 (Nat.le_refl _), bt_b1 (by omega), rel_ro hS hz, decide_eq_true hz, Bool.true_and, Bool.or_comm]
theorem chg_chB {σ σ' M : gSig} (hV : rVe σ) (hS : rSh σ') {c z : Nat} (hc : c < 16) (hz : z < 16) (hM : mR M = mR σ') (h12 : M 20 12 z = σ 20 12 z) : chB M c z = (bt (σ 13 0 5) z && bt (croF (σ' 7 4) c 16 ||| b1 c) z) := by
  unfold chB
  rw [chg_bt hS hc hz, hM, h12, Bool.and_comm]
  congr 1
  obtain ⟨h1, h2, -⟩ := hV.2.2 z hz
  rw [h2]
  apply Bool.eq_iff_iff.mpr
  rw [decide_eq_true_iff, ve_1]
  constructor
  · exact fun q => q.2
  · intro q
    refine ⟨?_, q⟩
    cases e : bt (σ 13 0 6) z with
    | false => rfl
    | true => rw [h1 e] at q; cases q
theorem chg_cn {σ σ' M : gSig} (hV : rVe σ) (hS : rSh σ') {c : Nat} (hc : c < 16) (hM : mR M = mR σ') (h12 : ∀ z, z < 16 → M 20 12 z = σ 20 12 z) : bcJ (σ 13 0 5 &&& (croF (σ' 7 4) c 16 ||| b1 c)) = cnF M c 16 := by
  rw [bcJ_cn (m16_and hV.1 _), cnF_cn]
  refine congrArg nI (cnB_congr (fun z hz => ?_))
  rw [b_and]
  exact (chg_chB hV hS hc hz hM (h12 z hz)).symm
theorem chg_ve {σ σ' M : gSig} (hV : rVe σ) (hS : rSh σ') {c : Nat} (hc : c < 16) (hM : mR M = mR σ') (h12M : ∀ z, z < 16 → M 20 12 z = σ 20 12 z) (h5 : σ' 13 0 5 = σ 13 0 5 &&& ((croF (σ' 7 4) c 16 ||| b1 c) ^^^ (-1))) (h6 : σ' 13 0 6 = σ 13 0 6) (h12 : σ' 20 12 = vdF M c 16)
    (a1 : σ' 14 1 = σ 14 1) (a2 : σ' 14 2 = σ 14 2) (a3 : σ' 14 3 = σ 14 3) (a16 : σ' 16 = σ 16) (m13 : σ' 20 13 = σ 20 13) (m14 : σ' 20 14 = σ 20 14) (m15 : σ' 20 15 = σ 20 15) (mm16 : σ' 20 16 = σ 20 16) : rVe σ' := by
  obtain ⟨g1, g2, g3⟩ := id hV
  refine ⟨by rw [h5]; exact m16_and g1 _, by rw [h6]; exact g2, fun z hz => ?_⟩
  obtain ⟨k1, k2, k3, k4⟩ := g3 z hz
  have hb : bt (σ' 13 0 5) z = (bt (σ 13 0 5) z && !bt (croF (σ' 7 4) c 16 ||| b1 c) z) := by rw [h5, b_and, bt_not _ (by omega)]
  refine ⟨fun q => ?_, ?_, ?_, ?_⟩
  · rw [hb, k1 (by rw [← h6]; exact q), Bool.false_and]
  · rw [h12]
    unfold vdF
    rw [chg_chB hV hS hc hz hM (h12M z hz), h12M z hz, k2]
    unfold veC
    rw [hb, h6]
    cases e6 : bt (σ 13 0 6) z with
    | true => rw [k1 e6]; simp
    | false => cases bt (σ 13 0 5) z <;> cases bt (croF (σ' 7 4) c 16 ||| b1 c) z <;> simp [hz]
  · rw [h6, a1, a2, a3, a16, m13, m14, m15, mm16]; exact k3
  · rw [h6, m15]; exact k4
theorem in_rel {σ : gSig} {c : Nat} {lo hi : Int32} {ord ro ord3 : Nat → Int32} {o2 o3 : Nat → Nat} (hR : Rel σ) (hc : c < 16) (hrg : ((-1000000 : Int32) ≤ lo ∧ lo ≤ hi ∧ hi ≤ 1000000)) (q1 : ordI ord o2 16) (q2 : ordT ((inS σ c lo hi) 7 3) o2 16) (q3 : ordJ o2 16) (q4 : ordS o2) (q5 : ∀ z, z < 16 → rsE ((inS σ c lo hi) 7 3) ro z) (p1 : ordI ord3 o3 16) (p2 : ordT (mR (miS (up3 (fcS (upR (upR (inS σ c lo hi) 7 5 ord) 7 4 ro) c) 19 0 0 0) c lo hi)) o3 16) (p3 : ordJ o3 16) (p4 : ordS o3) : Rel (mcS (miS (up3 (fcS (upR (upR (inS σ c lo hi) 7 5 ord) 7 4 ro) c) 19 0 0 0) c lo hi) c ord3 16) ∧ bcJ ((upR (upR (inS σ c lo hi) 7 5 ord) 7 4 ro) 13 0 5 &&& chM (upR (upR (inS σ c lo hi) 7 5 ord) 7 4 ro) c) = cnF (miS (up3 (fcS (upR (upR (inS σ c lo hi) 7 5 ord) 7 4 ro) c) 19 0 0 0) c lo hi) c 16 := by
  obtain ⟨a9, b9, c9, d9, e9, f9⟩ := hR
  have e73 : ∀ z, (mcS (miS (up3 (fcS (upR (upR (inS σ c lo hi) 7 5 ord) 7 4 ro) c) 19 0 0 0) c lo hi) c ord3 16) 7 3 z = if z = c then 0 else σ 7 3 z := fun z => by
    show (up3 σ 7 3 c 0) 7 3 z = _
    rw [up3_i2]
  have e70 : ∀ z, (mcS (miS (up3 (fcS (upR (upR (inS σ c lo hi) 7 5 ord) 7 4 ro) c) 19 0 0 0) c lo hi) c ord3 16) 7 0 z = if z = c then lo else σ 7 0 z := fun z => by
    show (up3 σ 7 0 c lo) 7 0 z = _
    rw [up3_i2]
  have e71 : ∀ z, (mcS (miS (up3 (fcS (upR (upR (inS σ c lo hi) 7 5 ord) 7 4 ro) c) 19 0 0 0) c lo hi) c ord3 16) 7 1 z = if z = c then hi else σ 7 1 z := fun z => by
    show (up3 σ 7 1 c hi) 7 1 z = _
    rw [up3_i2]
  have e72 : ∀ z, (mcS (miS (up3 (fcS (upR (upR (inS σ c lo hi) 7 5 ord) 7 4 ro) c) 19 0 0 0) c lo hi) c ord3 16) 7 2 z = if z = c then lo else σ 7 2 z := fun z => by
    show (up3 σ 7 2 c lo) 7 2 z = _
    rw [up3_i2]
  have e8 : (mcS (miS (up3 (fcS (upR (upR (inS σ c lo hi) 7 5 ord) 7 4 ro) c) 19 0 0 0) c lo hi) c ord3 16) 5 0 8 = σ 5 0 8 ||| b1 c := rfl
  have n2 : ∀ z, (mcS (miS (up3 (fcS (upR (upR (inS σ c lo hi) 7 5 ord) 7 4 ro) c) 19 0 0 0) c lo hi) c ord3 16) 20 2 z = if z = c then 0 else σ 20 2 z := fun z => by
    show (up3 σ 20 2 c 0) 20 2 z = _
    rw [up3_i2]
  have n5 : ∀ z, (mcS (miS (up3 (fcS (upR (upR (inS σ c lo hi) 7 5 ord) 7 4 ro) c) 19 0 0 0) c lo hi) c ord3 16) 20 5 z = if z = c then lo else σ 20 5 z := fun z => by
    show (up3 σ 20 5 c lo) 20 5 z = _
    rw [up3_i2]
  have n6 : ∀ z, (mcS (miS (up3 (fcS (upR (upR (inS σ c lo hi) 7 5 ord) 7 4 ro) c) 19 0 0 0) c lo hi) c ord3 16) 20 6 z = if z = c then hi else σ 20 6 z := fun z => by
    show (up3 σ 20 6 c hi) 20 6 z = _
    rw [up3_i2]
  have n7 : ∀ z, (mcS (miS (up3 (fcS (upR (upR (inS σ c lo hi) 7 5 ord) 7 4 ro) c) 19 0 0 0) c lo hi) c ord3 16) 20 7 z = if z = c then lo else σ 20 7 z := fun z => by
    show (up3 σ 20 7 c lo) 20 7 z = _
    rw [up3_i2]
  have n17 : ∀ z, (mcS (miS (up3 (fcS (upR (upR (inS σ c lo hi) 7 5 ord) 7 4 ro) c) 19 0 0 0) c lo hi) c ord3 16) 20 17 z = if z = c then -1 else σ 20 17 z := fun z => by
    show (up3 σ 20 17 c (-1)) 20 17 z = _
    rw [up3_i2]
  have e81 : ∀ z, (mcS (miS (up3 (fcS (upR (upR (inS σ c lo hi) 7 5 ord) 7 4 ro) c) 19 0 0 0) c lo hi) c ord3 16) 18 1 z = if z = c then -1 else σ 18 1 z := fun z => by
    show (up3 σ 18 1 c (-1)) 18 1 z = _
    rw [up3_i2]
  have hbc : bt (σ 5 0 8 ||| b1 c) c = true := by rw [b_or, bt_b1 (by omega), decide_eq_true rfl, Bool.or_true]
  have hin : mIn (mcS (miS (up3 (fcS (upR (upR (inS σ c lo hi) 7 5 ord) 7 4 ro) c) 19 0 0 0) c lo hi) c ord3 16) c = true := by
    unfold mIn
    rw [n2, if_pos rfl]
    rfl
  have hS : rSh (mcS (miS (up3 (fcS (upR (upR (inS σ c lo hi) 7 5 ord) 7 4 ro) c) 19 0 0 0) c lo hi) c ord3 16) := by
    refine chg_sh (σ := σ) (c := c) (o2 := o2) (o3 := o3) b9 q1 q2 q3 q4 q5 p1 (by rw [mcS_R]; exact p2) p3 p4 ?_ (fun z hz hne => ⟨⟨rfl, rfl, rfl, ?_, ?_, ?_, ?_⟩, ?_, ?_, ?_, fun k hk => ⟨rfl, rfl⟩⟩) ?_ ?_ ?_ ?_ ?_
    · rw [e8]
      obtain ⟨⟨o, hK⟩, -⟩ := b9
      exact m16_or hK.2.2.2.2.2.2 (m16_b1 hc)
    · rw [e8, b_or, bt_b1 (by omega), decide_eq_false hne, Bool.or_false]
    · rw [e73, if_neg hne]
    · rw [e70, if_neg hne]
    · rw [e71, if_neg hne]
    · rw [n2, if_neg hne]
    · rw [n5, if_neg hne]
    · rw [n6, if_neg hne]
    · refine ⟨fun _ => by rw [e73, if_pos rfl], fun q => ?_⟩
      rw [e8, hbc] at q; cases q
    · have hl : mL (mcS (miS (up3 (fcS (upR (upR (inS σ c lo hi) 7 5 ord) 7 4 ro) c) 19 0 0 0) c lo hi) c ord3 16) c = 0 := mIn_L hin
      refine ⟨by rw [hl, n2, if_pos rfl]; rfl, by rw [hl]; decide, fun k hk => ?_⟩
      rw [hl] at hk; omega
    · intro q
      rw [n2, if_pos rfl] at q
      exact absurd rfl q
    · intro _
      rw [e70, e71, if_pos rfl, if_pos rfl]
      exact hrg
    · refine ⟨by rw [e8, hbc, hin], by rw [e70, n5, if_pos rfl, if_pos rfl], by rw [e71, n6, if_pos rfl, if_pos rfl], fun q => ?_⟩
      rw [hin] at q; cases q
  have hMR : mR (miS (up3 (fcS (upR (upR (inS σ c lo hi) 7 5 ord) 7 4 ro) c) 19 0 0 0) c lo hi) = mR (mcS (miS (up3 (fcS (upR (upR (inS σ c lo hi) 7 5 ord) 7 4 ro) c) 19 0 0 0) c lo hi) c ord3 16) := (mcS_R _ _ _ _).symm
  have h12 : ∀ z, z < 16 → (miS (up3 (fcS (upR (upR (inS σ c lo hi) 7 5 ord) 7 4 ro) c) 19 0 0 0) c lo hi) 20 12 z = σ 20 12 z := fun _ _ => rfl
  refine ⟨⟨rDr_of (σ := σ) rfl rfl rfl rfl rfl rfl rfl rfl a9, hS, rPr_of (σ := σ) (fun _ _ => rfl) rfl rfl rfl rfl rfl c9, chg_ve d9 hS hc hMR h12 rfl rfl rfl rfl rfl rfl rfl rfl rfl rfl rfl, ?_, rUn_of (σ := σ) rfl rfl rfl rfl f9⟩, chg_cn d9 hS hc hMR h12⟩
  obtain ⟨g1, g2, g3⟩ := e9
  refine ⟨g1, g2, fun z hz => ⟨?_, (g3 z hz).2.1, ?_⟩⟩
  · rw [e72, n7]
    by_cases q : z = c
    · rw [if_pos q, if_pos q]
    · rw [if_neg q, if_neg q]; exact (g3 z hz).1
  · rw [e81, n17]
    by_cases q : z = c
    · rw [if_pos q, if_pos q]
    · rw [if_neg q, if_neg q]; exact (g3 z hz).2.2
theorem s_input {σ σ1 σ2 : gSig} {τ τ1 τ2 : gTau} {cl lo hi : Int32} {k0 b : Int32} (hR : Rel σ)  (h1 : wrQ [xIOB, xIAE] (fun r σ' τ' => ∃ c, c < 16 ∧ cl = nI c ∧ ((-1000000 : Int32) ≤ lo ∧ lo ≤ hi ∧ hi ≤ 1000000) ∧ ∃ ord ro o2, ordI ord o2 16 ∧ ordT ((inS σ c lo hi) 7 3) o2 16 ∧ ordJ o2 16 ∧ ordS o2 ∧ (∀ z, z < 16 → rsE ((inS σ c lo hi) 7 3) ro z) ∧ gEq (some (.int (bcJ ((upR (upR (inS σ c lo hi) 7 5 ord) 7 4 ro) 13 0 5 &&& chM (upR (upR (inS σ c lo hi) 7 5 ord) 7 4 ro) c)))) (fcS (upR (upR (inS σ c lo hi) 7 5 ord) 7 4 ro) c) τ r σ' τ') (fun E σ' τ' => ((E = xIOB ∧ ¬ isC cl) ∨ (E = xIAE ∧ ∃ c, c < 16 ∧ cl = nI c ∧ ¬ ((-1000000 : Int32) ≤ lo ∧ lo ≤ hi ∧ hi ≤ 1000000))) ∧ σ = σ' ∧ τ = τ') (some (.int k0)) σ1 τ1) (h2 : (fun r σ' τ' => (¬ isC cl ∧ thQ σ1 τ1 1 r σ' τ') ∨ (isC cl ∧ ¬ (((-1000000 : Int32) ≤ lo ∧ lo ≤ 1000000) ∧ (lo ≤ hi ∧ hi ≤ 1000000)) ∧ thQ σ1 τ1 2 r σ' τ') ∨ (∃ c, c < 16 ∧ cl = nI c ∧ (((-1000000 : Int32) ≤ lo ∧ lo ≤ 1000000) ∧ (lo ≤ hi ∧ hi ≤ 1000000)) ∧ mcQ (miS (up3 σ1 19 0 0 0) c lo hi) τ1 c r σ' τ')) (some (.int b)) σ2 τ2) : Stq k0 b σ2 τ2 := by
  obtain ⟨a9, b9, c9, d9, e9, f9⟩ := id hR
  have go : ((-1000000 : Int32) ≤ lo ∧ lo ≤ hi ∧ hi ≤ 1000000) ↔ (((-1000000 : Int32) ≤ lo ∧ lo ≤ 1000000) ∧ (lo ≤ hi ∧ hi ≤ 1000000)) := ⟨fun ⟨x, y, z⟩ => ⟨⟨x, Int32.le_trans y z⟩, y, z⟩, fun ⟨⟨x, _⟩, y, z⟩ => ⟨x, y, z⟩⟩
  rcases h1 with ⟨x, τ', ⟨c, hc, rfl, hrg, ord, ro, o2, q1, q2, q3, q4, q5, hx, rfl, rfl⟩, hk0, rfl⟩ | ⟨E, i, hi, ⟨hp, rfl, rfl⟩, hk0⟩
  · rcases h2 with ⟨hn, -⟩ | ⟨-, hn, -⟩ | ⟨c2, hc2, e2, -, ord3, o3, hb, rfl, rfl, p1, p2, p3, p4⟩
    · exact no_C hc rfl hn
    · exact absurd (go.mp hrg) hn
    · obtain rfl := nI_one hc hc2 e2
      cases hk0
      obtain ⟨hR', hcn⟩ := in_rel hR hc hrg q1 q2 q3 q4 q5 p1 p2 p3 p4
      exact st_ok hR' rfl hx (by rw [← hb, ← hcn]) rfl
  · rcases hp with ⟨rfl, hn⟩ | ⟨rfl, c, hc, rfl, hrg⟩
    · obtain rfl := cs_ix (by decide) hi 0 rfl
      rcases h2 with ⟨-, h2⟩ | ⟨h3, -⟩ | ⟨c2, hc2, e2, -⟩
      · exact st_thr hR 0 (by decide) hk0 h2 rfl
      · exact absurd h3 hn
      · exact no_C hc2 e2 hn
    · obtain rfl := cs_ix (by decide) hi 1 rfl
      rcases h2 with ⟨hn, -⟩ | ⟨-, -, h2⟩ | ⟨c2, hc2, e2, h3, -⟩
      · exact no_C hc rfl hn
      · exact st_thr hR 1 (by decide) hk0 h2 rfl
      · exact absurd (go.mpr h3) hrg
theorem dr_rs {σ : gSig} {k : Nat} (hd : rD0 σ k) : rsM (dK σ) (dN σ) k = rsM (σ 2 16) (σ 3 16) k := by
  obtain ⟨-, -, -, -, -, -, -, d8⟩ := hd
  exact (rsM_congr (fun i hi => ⟨(d8 i hi).1, fun q => (d8 i hi).2 (k13_12 q)⟩)).symm
theorem dr_m16 {σ : gSig} {k : Nat} (hd : rD0 σ k) : m16 (rsM (σ 2 16) (σ 3 16) k) := by
  obtain ⟨-, -, -, -, -, d6, -, -⟩ := hd
  exact rsM_m16 _ _ _ (fun i hi q => (d6 i hi).2.2 q)
theorem en_iff {σ : gSig} (hR : Rel σ) {k : Nat} (hd : rD0 σ k) (c : Nat) : enB σ c k ↔ (σ 1 16 4 = 1 ∧ bt (rotF (σ 7 4) (rsM (σ 2 16) (σ 3 16) k) 16) c = false) := by
  unfold enB
  rw [dr_rs hd, rel_rot hR.2.1 (dr_m16 hd), hd.2.2.2.1]
theorem en_rel {σ : gSig} {c k : Nat} {ord ro ord3 : Nat → Int32} {o2 o3 : Nat → Nat} (hR : Rel σ) (hd : rD0 σ k) (hc : c < 16) (h1 : σ 1 16 4 = 1) (q1 : ordI ord o2 16) (q2 : ordT ((fmS σ c k) 7 3) o2 16) (q3 : ordJ o2 16) (q4 : ordS o2) (q5 : ∀ z, z < 16 → rsE ((fmS σ c k) 7 3) ro z) (p1 : ordI ord3 o3 16) (p2 : ordT (mR (enS (up3 (fcS (clS (upR (upR (fmS σ c k) 7 5 ord) 7 4 ro)) c) 19 0 0 0) c k)) o3 16) (p3 : ordJ o3 16) (p4 : ordS o3) : Rel (mcS (enS (up3 (fcS (clS (upR (upR (fmS σ c k) 7 5 ord) 7 4 ro)) c) 19 0 0 0) c k) c ord3 16) ∧ bcJ ((clS (upR (upR (fmS σ c k) 7 5 ord) 7 4 ro)) 13 0 5 &&& chM (clS (upR (upR (fmS σ c k) 7 5 ord) 7 4 ro)) c) = cnF (enS (up3 (fcS (clS (upR (upR (fmS σ c k) 7 5 ord) 7 4 ro)) c) 19 0 0 0) c k) c 16 := by
  obtain ⟨a9, b9, c9, d9, e9, f9⟩ := hR
  obtain ⟨k12, d2, d3, d4, d5, d6, d7, d8⟩ := id hd
  have hdep : dep (σ 2 16) k = 1 := by
    have hl := dep_le (σ 2 16) k
    exact (nI_eq (by omega) (by decide)).mp ((d5.symm.trans h1) : nI (dep (σ 2 16) k) = nI 1)
  have hk1 : 1 ≤ k := by
    rcases Nat.eq_zero_or_pos k with q | q
    · rw [q] at hdep; cases hdep
    · exact q
  have e13 : ∀ z, z < 16 → (mcS (enS (up3 (fcS (clS (upR (upR (fmS σ c k) 7 5 ord) 7 4 ro)) c) 19 0 0 0) c k) c ord3 16) 1 z 3 = if z = c then σ 1 16 3 else σ 1 z 3 := fun z hz => by
    have hne : z ≠ 16 := by omega
    show (up3 (up3 (up3 (up3 σ 1 c 3 (σ 1 16 3)) 1 c 4 (σ 1 16 4)) 1 16 3 0) 1 16 4 0) 1 z 3 = _
    simp [up3_at, hne]
  have e2c : ∀ j, j < 12 → (mcS (enS (up3 (fcS (clS (upR (upR (fmS σ c k) 7 5 ord) 7 4 ro)) c) 19 0 0 0) c k) c ord3 16) 2 c j = σ 2 16 j := fun j hj => by
    show (upR σ 2 c (va_cpy (σ 2 16) (σ 2 c) 0 0 12)) 2 c j = _
    rw [upR_self]
    unfold va_cpy
    rw [if_pos (by omega)]
    congr 1
    omega
  have e3c : ∀ j, j < 12 → (mcS (enS (up3 (fcS (clS (upR (upR (fmS σ c k) 7 5 ord) 7 4 ro)) c) 19 0 0 0) c k) c ord3 16) 3 c j = σ 3 16 j := fun j hj => by
    show (upR σ 3 c (va_cpy (σ 3 16) (σ 3 c) 0 0 12)) 3 c j = _
    rw [upR_self]
    unfold va_cpy
    rw [if_pos (by omega)]
    congr 1
    omega
  have e73 : ∀ z, (mcS (enS (up3 (fcS (clS (upR (upR (fmS σ c k) 7 5 ord) 7 4 ro)) c) 19 0 0 0) c k) c ord3 16) 7 3 z = if z = c then rsM (σ 2 16) (σ 3 16) k else σ 7 3 z := fun z => by
    show (up3 σ 7 3 c (rsM (σ 2 16) (σ 3 16) k)) 7 3 z = _
    rw [up3_i2]
  have e8 : (mcS (enS (up3 (fcS (clS (upR (upR (fmS σ c k) 7 5 ord) 7 4 ro)) c) 19 0 0 0) c k) c ord3 16) 5 0 8 = σ 5 0 8 &&& (b1 c ^^^ (-1)) := rfl
  have n2 : ∀ z, (mcS (enS (up3 (fcS (clS (upR (upR (fmS σ c k) 7 5 ord) 7 4 ro)) c) 19 0 0 0) c k) c ord3 16) 20 2 z = if z = c then nI k else σ 20 2 z := fun z => by
    show (up3 σ 20 2 c (nI k)) 20 2 z = _
    rw [up3_i2]
  have n3 : ∀ i, (mcS (enS (up3 (fcS (clS (upR (upR (fmS σ c k) 7 5 ord) 7 4 ro)) c) 19 0 0 0) c k) c ord3 16) 20 3 i = cpR (σ 20 3) (σ 20 0) (12 * c) k i := fun _ => rfl
  have n4 : ∀ i, (mcS (enS (up3 (fcS (clS (upR (upR (fmS σ c k) 7 5 ord) 7 4 ro)) c) 19 0 0 0) c k) c ord3 16) 20 4 i = cpR (σ 20 4) (σ 20 1) (12 * c) k i := fun _ => rfl
  have n3c : ∀ j, j < k → (mcS (enS (up3 (fcS (clS (upR (upR (fmS σ c k) 7 5 ord) 7 4 ro)) c) 19 0 0 0) c k) c ord3 16) 20 3 (12 * c + j) = σ 20 0 j := fun j hj => by
    rw [n3]
    unfold cpR
    rw [if_pos (by omega), Nat.add_sub_cancel_left]
  have n4c : ∀ j, j < k → (mcS (enS (up3 (fcS (clS (upR (upR (fmS σ c k) 7 5 ord) 7 4 ro)) c) 19 0 0 0) c k) c ord3 16) 20 4 (12 * c + j) = σ 20 1 j := fun j hj => by
    rw [n4]
    unfold cpR
    rw [if_pos (by omega), Nat.add_sub_cancel_left]
  have n17 : ∀ z, (mcS (enS (up3 (fcS (clS (upR (upR (fmS σ c k) 7 5 ord) 7 4 ro)) c) 19 0 0 0) c k) c ord3 16) 20 17 z = if z = c then -1 else σ 20 17 z := fun z => by
    show (up3 σ 20 17 c (-1)) 20 17 z = _
    rw [up3_i2]
  have e81 : ∀ z, (mcS (enS (up3 (fcS (clS (upR (upR (fmS σ c k) 7 5 ord) 7 4 ro)) c) 19 0 0 0) c k) c ord3 16) 18 1 z = if z = c then -1 else σ 18 1 z := fun z => by
    show (up3 σ 18 1 c (-1)) 18 1 z = _
    rw [up3_i2]
  have hbc : bt (σ 5 0 8 &&& (b1 c ^^^ (-1))) c = false := by rw [bt_clr (by omega) (by omega), decide_eq_true rfl]; simp
  have hn0 : ¬ nI k = 0 := fun q => by
    have := (nI_eq (b := 0) (by omega) (by decide)).mp q
    omega
  have hin : mIn (mcS (enS (up3 (fcS (clS (upR (upR (fmS σ c k) 7 5 ord) 7 4 ro)) c) 19 0 0 0) c k) c ord3 16) c = false := by
    unfold mIn
    rw [n2, if_pos rfl]
    exact decide_eq_false hn0
  have hl : mL (mcS (enS (up3 (fcS (clS (upR (upR (fmS σ c k) 7 5 ord) 7 4 ro)) c) 19 0 0 0) c k) c ord3 16) c = k := by
    unfold mL
    rw [n2, if_pos rfl, nI_clamp (by omega)]
  have hfl : flen (mcS (enS (up3 (fcS (clS (upR (upR (fmS σ c k) 7 5 ord) 7 4 ro)) c) 19 0 0 0) c k) c ord3 16) c = k := by
    unfold flen
    rw [e13 c hc, if_pos rfl, d2, nI_clamp (by omega)]
  have hmK : ∀ j, j < k → mK (mcS (enS (up3 (fcS (clS (upR (upR (fmS σ c k) 7 5 ord) 7 4 ro)) c) 19 0 0 0) c k) c ord3 16) c j = dK σ j := fun j hj => by
    unfold mK dK
    rw [n3c j hj, n4c j hj]
  have hmN : ∀ j, j < k → mN (mcS (enS (up3 (fcS (clS (upR (upR (fmS σ c k) 7 5 ord) 7 4 ro)) c) 19 0 0 0) c k) c ord3 16) c j = dN σ j := fun j hj => by
    unfold mN dN
    rw [n4c j hj]
  have hS : rSh (mcS (enS (up3 (fcS (clS (upR (upR (fmS σ c k) 7 5 ord) 7 4 ro)) c) 19 0 0 0) c k) c ord3 16) := by
    refine chg_sh (σ := σ) (c := c) (o2 := o2) (o3 := o3) b9 q1 q2 q3 q4 q5 p1 (by rw [mcS_R]; exact p2) p3 p4 ?_ (fun z hz hne => ⟨⟨?_, ?_, ?_, ?_, ?_, rfl, rfl⟩, ?_, rfl, rfl, fun j hj => ⟨?_, ?_⟩⟩) ?_ ?_ ?_ ?_ ?_
    · rw [e8]
      obtain ⟨⟨o, hK⟩, -⟩ := b9
      exact m16_and hK.2.2.2.2.2.2 _
    · rw [e13 z hz, if_neg hne]
    · show (upR σ 2 c (va_cpy (σ 2 16) (σ 2 c) 0 0 12)) 2 z = _
      exact upR_ne _ _ _ _ (fun q => hne (congrArg Prod.snd q))
    · show (upR σ 3 c (va_cpy (σ 3 16) (σ 3 c) 0 0 12)) 3 z = _
      exact upR_ne _ _ _ _ (fun q => hne (congrArg Prod.snd q))
    · rw [e8, bt_clr (by omega) (by omega), decide_eq_false hne]; simp
    · rw [e73, if_neg hne]
    · rw [n2, if_neg hne]
    · rw [n3]
      exact if_neg (by omega)
    · rw [n4]
      exact if_neg (by omega)
    · refine ⟨fun q => ?_, fun _ => ⟨⟨?_, ?_, ?_, ?_, ?_⟩, ?_⟩⟩
      · rw [e8, hbc] at q; cases q
      · rw [hfl, e13 c hc, if_pos rfl, d2]
      · rw [hfl]; exact hk1
      · rw [hfl]; exact k12
      · rw [hfl]
        exact okP_congr (fun j hj => ⟨(e2c j (by omega)).symm, fun _ => (e3c j (by omega)).symm⟩) d6
      · rw [hfl, dep_congr (kd' := σ 2 16) (fun j hj => e2c j (by omega))]
        exact hdep
      · rw [hfl, e73, if_pos rfl]
        exact rsM_congr (fun j hj => ⟨(e2c j (by omega)).symm, fun _ => (e3c j (by omega)).symm⟩)
    · refine ⟨by rw [hl, n2, if_pos rfl], by rw [hl]; exact k12, fun j hj => ?_⟩
      rw [hl] at hj
      rw [n3c j hj, n4c j hj]
      exact d7 j hj
    · intro _
      refine ⟨by rw [hl]; exact hk1, ?_, ?_⟩
      · rw [hl]
        exact okP_congr (fun j hj => ⟨by rw [hmK j hj]; exact (d8 j hj).1, fun q => by rw [hmN j hj]; exact (d8 j hj).2 (k13_12 q)⟩) d6
      · rw [hl, dep_congr (kd' := σ 2 16) (fun j hj => by rw [hmK j hj]; exact ((d8 j hj).1).symm)]
        exact hdep
    · intro q
      unfold inpC at q
      rw [e8, hbc] at q; cases q
    · refine ⟨by rw [e8, hbc, hin], (b9.2.2.2 c hc).2.1, (b9.2.2.2 c hc).2.2.1, fun _ => ⟨by rw [hfl, hl], fun j hj => ?_⟩⟩
      rw [hl] at hj
      rw [e2c j (by omega), e3c j (by omega), hmK j hj, hmN j hj]
      exact d8 j hj
  have hMR : mR (enS (up3 (fcS (clS (upR (upR (fmS σ c k) 7 5 ord) 7 4 ro)) c) 19 0 0 0) c k) = mR (mcS (enS (up3 (fcS (clS (upR (upR (fmS σ c k) 7 5 ord) 7 4 ro)) c) 19 0 0 0) c k) c ord3 16) := (mcS_R _ _ _ _).symm
  have h12 : ∀ z, z < 16 → (enS (up3 (fcS (clS (upR (upR (fmS σ c k) 7 5 ord) 7 4 ro)) c) 19 0 0 0) c k) 20 12 z = σ 20 12 z := fun _ _ => rfl
  refine ⟨⟨⟨0, by omega, rfl, rfl, rfl, rfl, fun j hj => absurd hj (Nat.not_lt_zero j), fun j hj => absurd hj (Nat.not_lt_zero j), fun j hj => absurd hj (Nat.not_lt_zero j)⟩, hS, rPr_of (σ := σ) (fun _ _ => rfl) rfl rfl rfl rfl rfl c9, chg_ve d9 hS hc hMR h12 rfl rfl rfl rfl rfl rfl rfl rfl rfl rfl rfl, ?_, rUn_of (σ := σ) rfl rfl rfl rfl f9⟩, chg_cn d9 hS hc hMR h12⟩
  obtain ⟨g1, g2, g3⟩ := e9
  refine ⟨g1, g2, fun z hz => ⟨(g3 z hz).1, (g3 z hz).2.1, ?_⟩⟩
  rw [e81, n17]
  by_cases q : z = c
  · rw [if_pos q, if_pos q]
  · rw [if_neg q, if_neg q]; exact (g3 z hz).2.2
theorem s_enter {σ σ1 σ2 : gSig} {τ τ1 τ2 : gTau} {cl : Int32} {k0 b : Int32} (hR : Rel σ) {k : Nat} (hd : rD0 σ k) (h1 : wrQ [xIOB, xISE] (fun r σ' τ' => ∃ c, c < 16 ∧ cl = nI c ∧ (σ 1 16 4 = 1 ∧ bt (rotF (σ 7 4) (rsM (σ 2 16) (σ 3 16) k) 16) c = false) ∧ ∃ ord ro o2, ordI ord o2 16 ∧ ordT ((fmS σ c k) 7 3) o2 16 ∧ ordJ o2 16 ∧ ordS o2 ∧ (∀ z, z < 16 → rsE ((fmS σ c k) 7 3) ro z) ∧ gEq (some (.int (bcJ ((clS (upR (upR (fmS σ c k) 7 5 ord) 7 4 ro)) 13 0 5 &&& chM (clS (upR (upR (fmS σ c k) 7 5 ord) 7 4 ro)) c)))) (fcS (clS (upR (upR (fmS σ c k) 7 5 ord) 7 4 ro)) c) τ r σ' τ') (fun E σ' τ' => ((E = xIOB ∧ ¬ isC cl) ∨ (E = xISE ∧ ∃ c, c < 16 ∧ cl = nI c ∧ ¬ (σ 1 16 4 = 1 ∧ bt (rotF (σ 7 4) (rsM (σ 2 16) (σ 3 16) k) 16) c = false))) ∧ σ = σ' ∧ τ = τ') (some (.int k0)) σ1 τ1) (h2 : (fun r σ' τ' => (¬ isC cl ∧ thQ σ1 τ1 1 r σ' τ') ∨ ∃ c, c < 16 ∧ cl = nI c ∧ ((¬ enB σ1 c k ∧ thQ σ1 τ1 2 r σ' τ') ∨ (enB σ1 c k ∧ mcQ (enS (up3 σ1 19 0 0 0) c k) τ1 c r σ' τ'))) (some (.int b)) σ2 τ2) : Stq k0 b σ2 τ2 := by
  have go : ∀ c, enB σ c k ↔ (σ 1 16 4 = 1 ∧ bt (rotF (σ 7 4) (rsM (σ 2 16) (σ 3 16) k) 16) c = false) := en_iff hR hd
  rcases h1 with ⟨x, τ', ⟨c, hc, rfl, hcd, ord, ro, o2, q1, q2, q3, q4, q5, hx, rfl, rfl⟩, hk0, rfl⟩ | ⟨E, i, hi, ⟨hp, rfl, rfl⟩, hk0⟩
  · rcases h2 with ⟨hn, -⟩ | ⟨c2, hc2, e2, h2⟩
    · exact no_C hc rfl hn
    · obtain rfl := nI_one hc hc2 e2
      rcases h2 with ⟨hn, -⟩ | ⟨-, ord3, o3, hb, rfl, rfl, p1, p2, p3, p4⟩
      · exact absurd ((go c).mpr hcd) hn
      · cases hk0
        obtain ⟨hR', hcn⟩ := en_rel hR hd hc hcd.1 q1 q2 q3 q4 q5 p1 p2 p3 p4
        exact st_ok hR' rfl hx (by rw [← hb, ← hcn]) rfl
  · rcases hp with ⟨rfl, hn⟩ | ⟨rfl, c, hc, rfl, hcd⟩
    · obtain rfl := cs_ix (by decide) hi 0 rfl
      rcases h2 with ⟨-, h2⟩ | ⟨c2, hc2, e2, -⟩
      · exact st_thr hR 0 (by decide) hk0 h2 rfl
      · exact no_C hc2 e2 hn
    · obtain rfl := cs_ix (by decide) hi 1 rfl
      rcases h2 with ⟨hn, -⟩ | ⟨c2, hc2, e2, h2⟩
      · exact no_C hc rfl hn
      · obtain rfl := nI_one hc hc2 e2
        rcases h2 with ⟨-, h2⟩ | ⟨h3, -⟩
        · exact st_thr hR 1 (by decide) hk0 h2 rfl
        · exact absurd ((go c).mp h3) hcd
/-! what a change needs before it is made -/
theorem hn_in {σ : gSig} (hR : Rel σ) (c : Nat) (lo hi : Int32) (_hc : c < 16) : (∀ d, d < 16 → m16 ((inS σ c lo hi) 7 3 d)) ∧ ∃ rk : Nat → Nat, ∀ a b, a < 16 → b < 16 → bt ((inS σ c lo hi) 7 3 a) b = true → rk b < rk a := by
  have e73 : ∀ z, (inS σ c lo hi) 7 3 z = if z = c then 0 else σ 7 3 z := fun z => by
    show (up3 σ 7 3 c 0) 7 3 z = _
    rw [up3_i2]
  obtain ⟨rk, -, hrk⟩ := rel_rk hR.2.1
  refine ⟨fun d hd => ?_, rk, fun a b ha hb q => ?_⟩
  · rw [e73]
    by_cases e : d = c
    · rw [if_pos e]; exact m16_0
    · rw [if_neg e]; exact rel_m16 hR.2.1 hd
  · rw [e73] at q
    by_cases e : a = c
    · rw [if_pos e, b_0] at q; cases q
    · rw [if_neg e] at q; exact hrk a b ha hb q
theorem hn_inM {σ : gSig} (hR : Rel σ) : ∀ (c : Nat) (lo hi : Int32), c < 16 → (∀ d, d < 16 → msK (miS (up3 σ 19 0 0 0) c lo hi) d) ∧ ∃ rk : Nat → Nat, ∀ a b, a < 16 → b < 16 → bt (mR (miS (up3 σ 19 0 0 0) c lo hi) a) b = true → rk b < rk a := fun c lo hi hc => by
  have n2 : ∀ z, (miS (up3 σ 19 0 0 0) c lo hi) 20 2 z = if z = c then 0 else σ 20 2 z := fun z => by
    show (up3 σ 20 2 c 0) 20 2 z = _
    rw [up3_i2]
  obtain ⟨⟨o, hK⟩, ⟨oM, hM⟩, -, -⟩ := id hR.2.1
  have hl : mL (miS (up3 σ 19 0 0 0) c lo hi) c = 0 := by
    unfold mL
    rw [n2, if_pos rfl]
    rfl
  obtain ⟨rk, -, hrk⟩ := rel_rk hR.2.1
  refine ⟨fun d hd => ?_, rk, fun a b ha hb q => ?_⟩
  · by_cases e : d = c
    · subst e
      refine ⟨by rw [hl, n2, if_pos rfl]; rfl, by rw [hl]; decide, fun k hk => ?_⟩
      rw [hl] at hk; omega
    · exact msK_z (σ := σ) (by rw [n2, if_neg e]) (fun k hk => ⟨rfl, rfl⟩) (hM.2.2.2.2.1 d hd)
  · by_cases e : a = c
    · subst e
      unfold mR at q
      rw [hl] at q
      have q2 : bt 0 b = true := q
      rw [b_0] at q2; cases q2
    · have e9 : mR (miS (up3 σ 19 0 0 0) c lo hi) a = mR σ a := mR_z (σ := σ) (by rw [n2, if_neg e]) (fun k hk => ⟨rfl, rfl⟩) (hM.2.2.2.2.1 a ha)
      rw [e9, ← rel_rd hR.2.1 ha] at q
      exact hrk a b ha hb q
theorem hn_en {σ : gSig} (hR : Rel σ) {k : Nat} (hd : rD0 σ k) (c : Nat) (_hc : c < 16) (h : (σ 1 16 4 = 1 ∧ bt (rotF (σ 7 4) (rsM (σ 2 16) (σ 3 16) k) 16) c = false)) : (∀ d, d < 16 → m16 ((fmS σ c k) 7 3 d)) ∧ ∃ rk : Nat → Nat, ∀ a b, a < 16 → b < 16 → bt ((fmS σ c k) 7 3 a) b = true → rk b < rk a := by
  have e73 : ∀ z, (fmS σ c k) 7 3 z = if z = c then rsM (σ 2 16) (σ 3 16) k else σ 7 3 z := fun z => by
    show (up3 σ 7 3 c (rsM (σ 2 16) (σ 3 16) k)) 7 3 z = _
    rw [up3_i2]
  obtain ⟨rk, hk, hrk⟩ := rel_rk hR.2.1
  obtain ⟨⟨o, hK⟩, -⟩ := id hR.2.1
  have hro := hK.2.2.2.2.1
  refine ⟨fun d hd2 => ?_, fun d => if d = c ∨ bt (σ 7 4 d) c = true then 16 + rk d else rk d, fun a b ha hb q => ?_⟩
  · rw [e73]
    by_cases e : d = c
    · rw [if_pos e]; exact dr_m16 hd
    · rw [if_neg e]; exact rel_m16 hR.2.1 hd2
  · rw [e73] at q
    simp only
    by_cases e : a = c
    · rw [if_pos e] at q
      have h2 := h.2
      rw [rotF_bt, Bool.or_eq_false_iff] at h2
      have hnb : ¬ (b = c ∨ bt (σ 7 4 b) c = true) := by
        rintro (z | z)
        · rw [z, h2.1] at q; cases q
        · have h9 : anyB (fun e => bt (rsM (σ 2 16) (σ 3 16) k) e && bt (σ 7 4 e) c) 16 = true := anyB_true.mpr ⟨b, hb, by rw [q, z]; rfl⟩
          rw [h2.2] at h9; cases h9
      rw [if_neg hnb, if_pos (Or.inl e)]
      have := hk b hb
      omega
    · rw [if_neg e] at q
      have h9 := hrk a b ha hb q
      by_cases hbm : b = c ∨ bt (σ 7 4 b) c = true
      · have ham : a = c ∨ bt (σ 7 4 a) c = true := by
          right
          rcases hbm with z | z
          · rw [z] at q; exact rs_rd (hro a ha) q
          · exact rs_via (hro a ha) hb q z
        rw [if_pos hbm, if_pos ham]; omega
      · rw [if_neg hbm]
        split <;> omega
theorem hn_enM {σ : gSig} (hR : Rel σ) {k : Nat} (hd : rD0 σ k) : ∀ c, c < 16 → enB σ c k → (∀ d, d < 16 → msK (enS (up3 σ 19 0 0 0) c k) d) ∧ ∃ rk : Nat → Nat, ∀ a b, a < 16 → b < 16 → bt (mR (enS (up3 σ 19 0 0 0) c k) a) b = true → rk b < rk a := fun c hc h => by
  obtain ⟨k12, d2, d3, d4, d5, d6, d7, d8⟩ := id hd
  have h2 := (en_iff hR hd c).mp h
  obtain ⟨-, rk, hrk⟩ := hn_en hR hd c hc h2
  have e73 : ∀ z, (fmS σ c k) 7 3 z = if z = c then rsM (σ 2 16) (σ 3 16) k else σ 7 3 z := fun z => by
    show (up3 σ 7 3 c (rsM (σ 2 16) (σ 3 16) k)) 7 3 z = _
    rw [up3_i2]
  have n2 : ∀ z, (enS (up3 σ 19 0 0 0) c k) 20 2 z = if z = c then nI k else σ 20 2 z := fun z => by
    show (up3 σ 20 2 c (nI k)) 20 2 z = _
    rw [up3_i2]
  have n3 : ∀ i, (enS (up3 σ 19 0 0 0) c k) 20 3 i = cpR (σ 20 3) (σ 20 0) (12 * c) k i := fun _ => rfl
  have n4 : ∀ i, (enS (up3 σ 19 0 0 0) c k) 20 4 i = cpR (σ 20 4) (σ 20 1) (12 * c) k i := fun _ => rfl
  have n3c : ∀ j, j < k → (enS (up3 σ 19 0 0 0) c k) 20 3 (12 * c + j) = σ 20 0 j := fun j hj => by
    rw [n3]
    unfold cpR
    rw [if_pos (by omega), Nat.add_sub_cancel_left]
  have n4c : ∀ j, j < k → (enS (up3 σ 19 0 0 0) c k) 20 4 (12 * c + j) = σ 20 1 j := fun j hj => by
    rw [n4]
    unfold cpR
    rw [if_pos (by omega), Nat.add_sub_cancel_left]
  have hz : ∀ z, z ≠ c → ∀ j, j < 12 → (enS (up3 σ 19 0 0 0) c k) 20 3 (12 * z + j) = σ 20 3 (12 * z + j) ∧ (enS (up3 σ 19 0 0 0) c k) 20 4 (12 * z + j) = σ 20 4 (12 * z + j) := fun z hne j hj => by
    rw [n3, n4]
    exact ⟨if_neg (by omega), if_neg (by omega)⟩
  have hl : mL (enS (up3 σ 19 0 0 0) c k) c = k := by
    unfold mL
    rw [n2, if_pos rfl, nI_clamp (by omega)]
  obtain ⟨-, ⟨oM, hM⟩, -, -⟩ := id hR.2.1
  refine ⟨fun d hd2 => ?_, rk, fun a b ha hb q => hrk a b ha hb ?_⟩
  · by_cases e : d = c
    · subst e
      refine ⟨by rw [hl, n2, if_pos rfl], by rw [hl]; exact k12, fun j hj => ?_⟩
      rw [hl] at hj
      rw [n3c j hj, n4c j hj]
      exact d7 j hj
    · exact msK_z (σ := σ) (by rw [n2, if_neg e]) (hz d e) (hM.2.2.2.2.1 d hd2)
  · rw [e73]
    by_cases e : a = c
    · subst e
      rw [if_pos rfl, ← dr_rs hd]
      unfold mR at q
      rw [hl] at q
      rw [rsM_congr (kd' := mK (enS (up3 σ 19 0 0 0) a k) a) (nm' := mN (enS (up3 σ 19 0 0 0) a k) a) (fun j hj => ⟨?_, fun _ => ?_⟩)]
      · exact q
      · unfold mK dK
        rw [n3c j hj, n4c j hj]
      · unfold mN dN
        rw [n4c j hj]
    · rw [if_neg e, rel_rd hR.2.1 ha]
      have e9 : mR (enS (up3 σ 19 0 0 0) c k) a = mR σ a := mR_z (σ := σ) (by rw [n2, if_neg e]) (hz a e) (hM.2.2.2.2.1 a ha)
      rw [e9] at q
      exact q
