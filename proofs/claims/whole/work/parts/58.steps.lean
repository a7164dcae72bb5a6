/-! ===== the steps: each call keeps the relation, and both sides answer alike: printed by g58a.py ===== -/
def Stq (k0 b : Int32) (σ2 : gSig) (τ2 : gTau) : Prop := σ2 19 0 0 = k0 ∧ (k0 = 0 → τ2 21 0 = b.toInt64) ∧ Rel σ2
def StqB (k0 b : Int32) (σ2 : gSig) (τ2 : gTau) : Prop := σ2 19 0 0 = k0 ∧ (k0 = 0 → τ2 21 0 = if b = 0 then 0 else 1) ∧ Rel σ2
theorem Rel_t {σ : gSig} (t : Int32) (h : Rel σ) : Rel (up3 σ 19 0 0 t) := by
  obtain ⟨a, b, c, d, e, f⟩ := h
  exact ⟨rDr_of (σ := σ) rfl rfl rfl rfl rfl rfl rfl rfl a, rSh_of (σ := σ) (fun _ _ => rfl) (fun _ _ => rfl) (fun _ _ => rfl) rfl rfl rfl rfl rfl rfl rfl rfl rfl rfl rfl rfl b, rPr_of (σ := σ) (fun _ _ => rfl) rfl rfl rfl rfl rfl c, rVe_of (σ := σ) rfl rfl rfl rfl rfl rfl rfl rfl rfl rfl rfl d, rDk_of (σ := σ) rfl rfl rfl rfl rfl rfl rfl rfl e, rUn_of (σ := σ) rfl rfl rfl rfl f⟩
theorem up3_19 (σ : gSig) (t : Int32) : up3 σ 19 0 0 t 19 0 0 = t := by simp [up3_at]
theorem up2_21 (τ : gTau) (x : Int64) : up2 τ 21 0 x 21 0 = x := by simp [up2_at]
theorem cs_ix {cs : List String} (hn : cs.Nodup) {i : Nat} {E : String} (h1 : cs[i]? = some E) (j : Nat) (h2 : cs[j]? = some E) : i = j := (List.getElem?_inj (List.getElem?_eq_some_iff.mp h1).1 hn).mp (h1.trans h2.symm)
/-- both throw -/
theorem st_thr {σ σ2 : gSig} {τ1 τ2 : gTau} {k0 b t : Int32} (hR : Rel σ) (i : Nat) (hi : i < 10) (hk : some (Value.int (nI (i + 1))) = some (.int k0)) (ht : thQ σ τ1 t (some (.int b)) σ2 τ2) (hti : t = nI (i + 1)) : Stq k0 b σ2 τ2 := by
  obtain ⟨-, rfl, -⟩ := ht
  cases hk
  refine ⟨by rw [up3_19, hti], fun h => ?_, Rel_t t hR⟩
  have := (nI_eq (show i + 1 < 2 ^ 31 by omega) (show 0 < 2 ^ 31 by decide)).mp h
  omega
theorem st_thrB {σ σ2 : gSig} {τ1 τ2 : gTau} {k0 b t : Int32} (hR : Rel σ) (i : Nat) (hi : i < 10) (hk : some (Value.int (nI (i + 1))) = some (.int k0)) (ht : thQ σ τ1 t (some (.int b)) σ2 τ2) (hti : t = nI (i + 1)) : StqB k0 b σ2 τ2 := by
  obtain ⟨a, c, d⟩ := st_thr hR i hi hk ht hti
  refine ⟨a, fun h => ?_, d⟩
  exfalso
  cases hk
  have := (nI_eq (show i + 1 < 2 ^ 31 by omega) (show 0 < 2 ^ 31 by decide)).mp h
  omega
/-- an answer, both alike -/
theorem st_ok {σ2 : gSig} {τ' τ2 : gTau} {x b : Int32} {t : Int32} (hR : Rel σ2) (h0 : σ2 19 0 0 = 0) (hx : some (Value.int t) = some (.int x)) (hb : some (Value.int t) = some (.int b)) (hτ : up2 τ' 21 0 x.toInt64 = τ2) : Stq 0 b σ2 τ2 := by
  cases hx; cases hb
  subst hτ
  exact ⟨h0, fun _ => up2_21 _ _, hR⟩
theorem st_okB {σ2 : gSig} {τ' τ2 : gTau} {x b : Int32} {t : Int32} (hR : Rel σ2) (h0 : σ2 19 0 0 = 0) (hx : some (Value.int t) = some (.int x)) (hb : some (Value.int t) = some (.int b)) (hτ : up2 τ' 21 0 (if x = 0 then 0 else 1) = τ2) : StqB 0 b σ2 τ2 := by
  cases hx; cases hb
  subst hτ
  exact ⟨h0, fun _ => up2_21 _ _, hR⟩
theorem nI_one {a b : Nat} (ha : a < 16) (hb : b < 16) (h : nI a = nI b) : a = b := (nI_eq (by omega) (by omega)).mp h
theorem no_C {c : Nat} {x : Int32} {P : Prop} (hc : c < 16) (e : x = nI c) (h : ¬ isC x) : P := absurd (by rw [e]; exact isC_of hc) h
/-! the draft -/
theorem dep_congr {kd kd' : Nat → Int32} : ∀ {n : Nat}, (∀ j, j < n → kd j = kd' j) → dep kd n = dep kd' n
  | 0, _ => rfl
  | n + 1, h => by
    unfold dep
    rw [dep_congr (fun j hj => h j (by omega)), h n (by omega)]
theorem upd_at (f : Nat → Int32) (k : Nat) (x : Int32) (j : Nat) : upd f k x j = if j = k then x else f j := rfl
theorem dr_put {σ : gSig} {k : Nat} {kd nm s p : Int32} (hR : Rel σ) (hd : rD0 σ k) (hk : k < 12) (hkd : kd = kdM s p) (hnm : ¬ kd < 12 → nm = p) (hs : s = 0 ∨ s = 1 ∨ s = 2) (hs2 : s = 2 → ¬ p < 0 ∧ p < 12) (hs1 : s = 1 → isC p) (hdep : kd < 12 → ¬ σ 1 16 4 < 2) :
    Rel (mAd (up3 (putS σ 16 k kd nm) 19 0 0 0) k s p (if kd < 12 then -1 else 1)) := by
  obtain ⟨d1, d2, d3, d4, d5, d6, d7, d8⟩ := hd
  obtain ⟨-, b, c, d, e, f⟩ := hR
  have hdl := dep_le (σ 2 16) k
  have hk0 : ¬ kd < 0 ∧ kd ≤ 13 := by
    rw [hkd]
    unfold kdM
    rcases hs with rfl | rfl | rfl
    · rw [if_neg (by decide), if_neg (by decide)]; decide
    · rw [if_neg (by decide), if_pos rfl]; decide
    · rw [if_pos rfl]
      exact ⟨(hs2 rfl).1, Int32.le_trans (Int32.le_of_lt (hs2 rfl).2) (by decide)⟩
  have h2d : kd < 12 → 2 ≤ dep (σ 2 16) k := fun h => by
    have h3 := hdep h
    rw [d5] at h3
    rcases Nat.lt_or_ge (dep (σ 2 16) k) 2 with q | q
    · exact absurd ((nI_ltI (b := 2) (by omega) (by decide)).mpr q) h3
    · exact q
  have h13 : kd = 13 → isC nm := fun h => by
    have hp := hnm (k13_12 h)
    rw [hp]
    refine hs1 ?_
    rw [hkd] at h
    unfold kdM at h
    rcases hs with rfl | rfl | rfl
    · rw [if_neg (by decide), if_neg (by decide)] at h; exact absurd h (by decide)
    · rfl
    · rw [if_pos rfl] at h
      have := (hs2 rfl).2
      rw [h] at this
      exact absurd this (by decide)
  have hkd12 : kd < 12 ↔ s = 2 := by rw [hkd]; exact kdM_lt hs hs2
  have e2 : (mAd (up3 (putS σ 16 k kd nm) 19 0 0 0) k s p (if kd < 12 then -1 else 1)) 2 16 = upd (σ 2 16) k kd := by
    funext j
    simp [mAd, putS, up3_at, upd_at]
  have e3 : (mAd (up3 (putS σ 16 k kd nm) 19 0 0 0) k s p (if kd < 12 then -1 else 1)) 3 16 = upd (σ 3 16) k nm := by
    funext j
    simp [mAd, putS, up3_at, upd_at]
  have e20 : (mAd (up3 (putS σ 16 k kd nm) 19 0 0 0) k s p (if kd < 12 then -1 else 1)) 20 0 = upd (σ 20 0) k s := by
    funext j
    simp [mAd, putS, up3_at, upd_at]
  have e21 : (mAd (up3 (putS σ 16 k kd nm) 19 0 0 0) k s p (if kd < 12 then -1 else 1)) 20 1 = upd (σ 20 1) k p := by
    funext j
    simp [mAd, putS, up3_at, upd_at]
  have e14 : (mAd (up3 (putS σ 16 k kd nm) 19 0 0 0) k s p (if kd < 12 then -1 else 1)) 1 16 4 = σ 1 16 4 + (if kd < 12 then -1 else 1) := by simp [mAd, putS, up3_at]
  refine ⟨⟨k + 1, by omega, by simp [mAd, putS, up3_at], by simp [mAd, putS, up3_at], ?_, ?_, ?_, ?_, ?_⟩, rSh_of (σ := σ) (fun z hz => ?_) (fun z hz => ?_) (fun z hz => ?_) rfl rfl rfl rfl rfl rfl rfl rfl rfl rfl rfl rfl b, rPr_of (σ := σ) (fun _ _ => rfl) rfl rfl rfl rfl rfl c, rVe_of (σ := σ) rfl rfl rfl rfl rfl rfl rfl rfl rfl rfl rfl d, rDk_of (σ := σ) rfl rfl rfl rfl rfl rfl rfl rfl e, rUn_of (σ := σ) rfl rfl rfl rfl f⟩
  · rw [e14, d4]
    simp [mAd, putS, up3_at]
  · rw [e14, e2, d5]
    show _ = nI (if upd (σ 2 16) k kd k < 12 then dep (upd (σ 2 16) k kd) k - 1 else dep (upd (σ 2 16) k kd) k + 1)
    rw [dep_congr (kd := upd (σ 2 16) k kd) (kd' := σ 2 16) (fun j hj => by rw [upd_at, if_neg (by omega)]), upd_at, if_pos rfl]
    by_cases h : kd < 12
    · rw [if_pos h, if_pos h]
      have := h2d h
      have e9 : nI (dep (σ 2 16) k - 1) + nI 1 = nI (dep (σ 2 16) k) := by rw [nI_add, Nat.sub_add_cancel (by omega)]
      rw [← e9, Int32.add_assoc, show nI 1 + (-1) = 0 by decide, Int32.add_zero]
    · rw [if_neg h, if_neg h]
      exact nI_1 _
  · rw [e2, e3]
    intro j hj
    have hdc : dep (upd (σ 2 16) k kd) j = dep (σ 2 16) j := dep_congr (fun z hz => by rw [upd_at, if_neg (by omega)])
    rw [upd_at, upd_at, hdc]
    by_cases h : j = k
    · subst h
      rw [if_pos rfl, if_pos rfl]
      exact ⟨hk0, h2d, h13⟩
    · rw [if_neg h, if_neg h]
      exact d6 j (by omega)
  · unfold dfK
    rw [e20, e21]
    intro j hj
    rw [upd_at, upd_at]
    by_cases h : j = k
    · rw [if_pos h, if_pos h]; exact ⟨hs, hs2, hs1⟩
    · rw [if_neg h, if_neg h]; exact d7 j (by omega)
  · rw [e2, e3]
    unfold dK dN
    rw [e20, e21]
    intro j hj
    simp only [upd_at]
    by_cases h : j = k
    · simp only [if_pos h]; exact ⟨hkd, hnm⟩
    · simp only [if_neg h]; exact d8 j (by omega)
  · have hne : z ≠ 16 := by omega
    simp [mAd, putS, up3_at, hne]
  · have hne : z ≠ 16 := by omega
    funext j
    simp [mAd, putS, up3_at, hne]
  · have hne : z ≠ 16 := by omega
    funext j
    simp [mAd, putS, up3_at, hne]
theorem put_k {σ : gSig} {k : Nat} {kd : Int32} (h : putB σ 16 k kd = true) : k < 12 ∧ (kd < 12 → ¬ σ 1 16 4 < 2) := by
  unfold putB at h
  simp at h
  refine ⟨h.1, fun q => ?_⟩
  rcases h.2 with e | e
  · exact absurd q (Int32.not_lt.mpr e)
  · exact Int32.not_lt.mpr e
theorem put_n {σ : gSig} {k : Nat} {kd : Int32} (h : putB σ 16 k kd = false) (hk : k ≤ 12) : k = 12 ∨ (kd < 12 ∧ σ 1 16 4 < 2) := by
  unfold putB at h
  by_cases e : k < 12
  · right
    rw [decide_eq_true e, Bool.true_and] at h
    simpa using h
  · left; omega
theorem s_number {σ σ1 σ2 : gSig} {τ τ1 τ2 : gTau} {v : Int32} {k0 b : Int32} (hR : Rel σ) {k : Nat} (hd : rD0 σ k) (h1 : wrQ [xISE] (fun r σ' τ' => putB σ 16 k 12 = true ∧ gEq (some (.int ((putS σ 16 k 12 v) 1 16 4))) (putS σ 16 k 12 v) τ r σ' τ') (fun E σ' τ' => (E = xISE ∧ putB σ 16 k 12 = false) ∧ σ = σ' ∧ τ = τ') (some (.int k0)) σ1 τ1) (h2 : (fun r σ' τ' => (k = 12 ∧ thQ σ1 τ1 1 r σ' τ') ∨ (k < 12 ∧ gEq (some (.int (σ1 19 0 3 + 1))) (mAd (up3 σ1 19 0 0 0) k 0 v 1) τ1 r σ' τ')) (some (.int b)) σ2 τ2) : Stq k0 b σ2 τ2 := by
  rcases h1 with ⟨x, τ', ⟨hp, hx, rfl, rfl⟩, hk0, rfl⟩ | ⟨E, i, hi, ⟨⟨rfl, hp⟩, rfl, rfl⟩, hk0⟩
  · obtain ⟨hk, hf⟩ := put_k hp
    rcases h2 with ⟨rfl, -⟩ | ⟨-, hb, rfl, rfl⟩
    · omega
    · cases hk0
      refine st_ok (dr_put hR hd hk (kd := 12) (nm := v) (s := 0) (p := v) rfl (fun _ => rfl) (Or.inl rfl) (fun q => absurd q (by decide)) (fun q => absurd q (by decide)) hf) (by simp [mAd, up3_at]) hx ?_ rfl
      rw [← hb]
      obtain ⟨-, -, -, d4, -⟩ := hd
      simp [putS, up3_at, d4]
  · obtain rfl := cs_ix (by decide) hi 0 rfl
    rcases put_n hp hd.1 with rfl | ⟨q, -⟩
    · rcases h2 with ⟨-, h2⟩ | ⟨h2, -⟩
      · exact st_thr hR 0 (by decide) hk0 h2 rfl
      · omega
    · exact absurd q (by decide)
theorem s_cell {σ σ1 σ2 : gSig} {τ τ1 τ2 : gTau} {cl : Int32} {k0 b : Int32} (hR : Rel σ) {k : Nat} (hd : rD0 σ k) (h1 : wrQ [xIOB, xISE] (fun r σ' τ' => isC cl ∧ putB σ 16 k 13 = true ∧ gEq (some (.int ((putS σ 16 k 13 cl) 1 16 4))) (putS σ 16 k 13 cl) τ r σ' τ') (fun E σ' τ' => ((E = xIOB ∧ ¬ isC cl) ∨ (E = xISE ∧ isC cl ∧ putB σ 16 k 13 = false)) ∧ σ = σ' ∧ τ = τ') (some (.int k0)) σ1 τ1) (h2 : (fun r σ' τ' => (¬ isC cl ∧ thQ σ1 τ1 1 r σ' τ') ∨ (isC cl ∧ k = 12 ∧ thQ σ1 τ1 2 r σ' τ') ∨ (isC cl ∧ k < 12 ∧ gEq (some (.int (σ1 19 0 3 + 1))) (mAd (up3 σ1 19 0 0 0) k 1 cl 1) τ1 r σ' τ')) (some (.int b)) σ2 τ2) : Stq k0 b σ2 τ2 := by
  rcases h1 with ⟨x, τ', ⟨hC, hp, hx, rfl, rfl⟩, hk0, rfl⟩ | ⟨E, i, hi, ⟨hp, rfl, rfl⟩, hk0⟩
  · obtain ⟨hk, hf⟩ := put_k hp
    rcases h2 with ⟨hn, -⟩ | ⟨-, rfl, -⟩ | ⟨-, -, hb, rfl, rfl⟩
    · exact absurd hC hn
    · omega
    · cases hk0
      refine st_ok (dr_put hR hd hk (kd := 13) (nm := cl) (s := 1) (p := cl) rfl (fun _ => rfl) (Or.inr (Or.inl rfl)) (fun q => absurd q (by decide)) (fun _ => hC) hf) (by simp [mAd, up3_at]) hx ?_ rfl
      rw [← hb]
      obtain ⟨-, -, -, d4, -⟩ := hd
      simp [putS, up3_at, d4]
  · rcases hp with ⟨rfl, hn⟩ | ⟨rfl, hC, hp⟩
    · obtain rfl := cs_ix (by decide) hi 0 rfl
      rcases h2 with ⟨-, h2⟩ | ⟨hC, -⟩ | ⟨hC, -⟩
      · exact st_thr hR 0 (by decide) hk0 h2 rfl
      · exact absurd hC hn
      · exact absurd hC hn
    · obtain rfl := cs_ix (by decide) hi 1 rfl
      rcases put_n hp hd.1 with rfl | ⟨q, -⟩
      · rcases h2 with ⟨hn, -⟩ | ⟨-, -, h2⟩ | ⟨-, h2, -⟩
        · exact absurd hC hn
        · exact st_thr hR 1 (by decide) hk0 h2 rfl
        · omega
      · exact absurd q (by decide)
theorem isO_11 {o : Int32} : isO o ↔ (0 : Int32) ≤ o ∧ o ≤ 11 := by
  unfold isO
  rw [Int32.not_lt]
  refine and_congr Iff.rfl ?_
  rw [fa_lt, fa_le]
  have e1 : (12 : Int32).toInt = 12 := by decide
  have e2 : (11 : Int32).toInt = 11 := by decide
  omega
theorem s_apply {σ σ1 σ2 : gSig} {τ τ1 τ2 : gTau} {op : Int32} {k0 b : Int32} (hR : Rel σ) {k : Nat} (hd : rD0 σ k) (h1 : wrQ [xIAE, xISE] (fun r σ' τ' => isO op ∧ putB σ 16 k op = true ∧ gEq (some (.int ((putS σ 16 k op 0) 1 16 4))) (putS σ 16 k op 0) τ r σ' τ') (fun E σ' τ' => ((E = xIAE ∧ ¬ isO op) ∨ (E = xISE ∧ isO op ∧ putB σ 16 k op = false)) ∧ σ = σ' ∧ τ = τ') (some (.int k0)) σ1 τ1) (h2 : (fun r σ' τ' => (¬ ((0 : Int32) ≤ op ∧ op ≤ 11) ∧ thQ σ1 τ1 1 r σ' τ') ∨ (((0 : Int32) ≤ op ∧ op ≤ 11) ∧ (σ1 19 0 3 < 2 ∨ k = 12) ∧ thQ σ1 τ1 2 r σ' τ') ∨ (((0 : Int32) ≤ op ∧ op ≤ 11) ∧ ¬ σ1 19 0 3 < 2 ∧ k < 12 ∧ gEq (some (.int (σ1 19 0 3 + (-1)))) (mAd (up3 σ1 19 0 0 0) k 2 op (-1)) τ1 r σ' τ')) (some (.int b)) σ2 τ2) : Stq k0 b σ2 τ2 := by
  rcases h1 with ⟨x, τ', ⟨hO, hp, hx, rfl, rfl⟩, hk0, rfl⟩ | ⟨E, i, hi, ⟨hp, rfl, rfl⟩, hk0⟩
  · obtain ⟨hk, hf⟩ := put_k hp
    have hlt : op < 12 := hO.2
    have e4 : (putS σ 16 k op 0) 19 0 3 = σ 1 16 4 := by
      obtain ⟨-, -, -, d4, -⟩ := hd
      simp [putS, up3_at, d4]
    rcases h2 with ⟨hn, -⟩ | ⟨-, h9, -⟩ | ⟨-, -, -, hb, rfl, rfl⟩
    · exact absurd (isO_11.mp hO) hn
    · rcases h9 with h9 | h9
      · rw [e4] at h9; exact absurd h9 (hf hlt)
      · omega
    · cases hk0
      have hs := dr_put hR hd hk (kd := op) (nm := 0) (s := 2) (p := op) rfl (fun q => absurd hlt q) (Or.inr (Or.inr rfl)) (fun _ => hO) (fun q => absurd q (by decide)) hf
      rw [if_pos hlt] at hs
      refine st_ok hs (by simp [mAd, up3_at]) hx ?_ rfl
      rw [← hb, e4]
      simp [putS, up3_at, hlt]
  · rcases hp with ⟨rfl, hn⟩ | ⟨rfl, hO, hp⟩
    · obtain rfl := cs_ix (by decide) hi 0 rfl
      rcases h2 with ⟨-, h2⟩ | ⟨h9, -⟩ | ⟨h9, -⟩
      · exact st_thr hR 0 (by decide) hk0 h2 rfl
      · exact absurd (isO_11.mpr h9) hn
      · exact absurd (isO_11.mpr h9) hn
    · obtain rfl := cs_ix (by decide) hi 1 rfl
      have e4 : σ 1 16 4 = σ 19 0 3 := hd.2.2.2.1
      rcases h2 with ⟨hn, -⟩ | ⟨-, -, h2⟩ | ⟨-, h9, hk, -⟩
      · exact absurd (isO_11.mp hO) hn
      · exact st_thr hR 1 (by decide) hk0 h2 rfl
      · rcases put_n hp hd.1 with rfl | ⟨-, q⟩
        · omega
        · rw [e4] at q; exact absurd q h9
theorem s_wipe {σ σ1 σ2 : gSig} {τ τ1 τ2 : gTau} {x b : Int32} (hR : Rel σ) {k : Nat} (hd : rD0 σ k) (h1 : (gEq (some (.int (σ 1 16 3))) (clS σ) τ) (some (.int x)) σ1 τ1) (h2 : (gEq (some (.int (σ1 19 0 2))) (mWp (up3 σ1 19 0 0 0)) τ1) (some (.int b)) σ2 τ2) : x = b ∧ Rel σ2 := by
  obtain ⟨hx, rfl, rfl⟩ := h1
  obtain ⟨hb, rfl, rfl⟩ := h2
  obtain ⟨-, b9, c, d, e, f⟩ := hR
  obtain ⟨d1, d2, d3, -⟩ := hd
  have e19 : (clS σ) 19 0 2 = σ 19 0 2 := rfl
  rw [e19, d3, ← d2, hx] at hb
  refine ⟨Value.int.inj (Option.some.inj hb), ⟨0, by omega, by simp [mWp, clS, up3_at]; rfl, by simp [mWp, clS, up3_at]; rfl, by simp [mWp, clS, up3_at], by simp [mWp, clS, up3_at]; rfl, fun j hj => absurd hj (Nat.not_lt_zero j), fun j hj => absurd hj (Nat.not_lt_zero j), fun j hj => absurd hj (Nat.not_lt_zero j)⟩, rSh_of (σ := σ) (fun z hz => ?_) (fun _ _ => rfl) (fun _ _ => rfl) rfl rfl rfl rfl rfl rfl rfl rfl rfl rfl rfl rfl b9, rPr_of (σ := σ) (fun _ _ => rfl) rfl rfl rfl rfl rfl c, rVe_of (σ := σ) rfl rfl rfl rfl rfl rfl rfl rfl rfl rfl rfl d, rDk_of (σ := σ) rfl rfl rfl rfl rfl rfl rfl rfl e, rUn_of (σ := σ) rfl rfl rfl rfl f⟩
  have hne : z ≠ 16 := by omega
  simp [mWp, clS, up3_at, hne]
theorem s_drafted {σ σ1 σ2 : gSig} {τ τ1 τ2 : gTau} {x b : Int32} (hR : Rel σ) {k : Nat} (hd : rD0 σ k) (h1 : (gEq (some (.int (σ 1 16 3))) σ τ) (some (.int x)) σ1 τ1) (h2 : (gEq (some (.int (σ1 19 0 2))) (up3 σ1 19 0 0 0) τ1) (some (.int b)) σ2 τ2) : x = b ∧ Rel σ2 := by
  obtain ⟨hx, rfl, rfl⟩ := h1
  obtain ⟨hb, rfl, rfl⟩ := h2
  rw [hd.2.2.1, ← hd.2.1, hx] at hb
  exact ⟨Value.int.inj (Option.some.inj hb), Rel_t 0 hR⟩
theorem s_today {σ σ1 σ2 : gSig} {τ τ1 τ2 : gTau} {x b : Int32} (hR : Rel σ)  (h1 : (gEq (some (.int (σ 17 0 3))) σ τ) (some (.int x)) σ1 τ1) (h2 : (gEq (some (.int (σ1 19 0 1))) (up3 σ1 19 0 0 0) τ1) (some (.int b)) σ2 τ2) : x = b ∧ Rel σ2 := by
  obtain ⟨hx, rfl, rfl⟩ := h1
  obtain ⟨hb, rfl, rfl⟩ := h2
  rw [← hR.2.2.2.2.1.2.1, hx] at hb
  exact ⟨Value.int.inj (Option.some.inj hb), Rel_t 0 hR⟩
theorem s_unlocked {σ σ1 σ2 : gSig} {τ τ1 τ2 : gTau} {x b : Int32} (hR : Rel σ)  (h1 : (gEq (some (.int (σ 17 0 4))) σ τ) (some (.int x)) σ1 τ1) (h2 : (gEq (some (.int (σ1 19 0 22))) (up3 σ1 19 0 0 0) τ1) (some (.int b)) σ2 τ2) : x = b ∧ Rel σ2 := by
  obtain ⟨hx, rfl, rfl⟩ := h1
  obtain ⟨hb, rfl, rfl⟩ := h2
  obtain ⟨w, -, w1, w2, -⟩ := hR.2.2.2.2.2
  rw [w2, ← w1, hx] at hb
  exact ⟨Value.int.inj (Option.some.inj hb), Rel_t 0 hR⟩
