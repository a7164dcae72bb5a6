/-! ===== the relation between the class's side and the model's ===== -/
/-- the draft -/
def rD0 (σ : gSig) (k : Nat) : Prop := k ≤ 12 ∧ σ 1 16 3 = nI k ∧ σ 19 0 2 = nI k ∧ σ 1 16 4 = σ 19 0 3 ∧ σ 1 16 4 = nI (dep (σ 2 16) k) ∧ okP (σ 2 16) (σ 3 16) k ∧ dfK σ k ∧ ∀ j, j < k → σ 2 16 j = dK σ j ∧ (¬ σ 2 16 j < 12 → σ 3 16 j = dN σ j)
def rDr (σ : gSig) : Prop := ∃ k, rD0 σ k
/-- a cell -/
def rCe (σ : gSig) (c : Nat) : Prop := bt (σ 5 0 8) c = mIn σ c ∧ σ 7 0 c = σ 20 5 c ∧ σ 7 1 c = σ 20 6 c ∧ (mIn σ c = false → flen σ c = mL σ c ∧ ∀ j, j < mL σ c → σ 2 c j = mK σ c j ∧ (¬ σ 2 c j < 12 → σ 3 c j = mN σ c j))
def rSh (σ : gSig) : Prop := (∃ o, shK σ o) ∧ (∃ o, moK σ o) ∧ rgK (inpC σ) (σ 7 0) (σ 7 1) ∧ ∀ c, c < 16 → rCe σ c
/-- properties -/
def rPr (σ : gSig) : Prop := ∀ c, c < 16 → ∃ q, plK σ c q ∧ mpK σ c q ∧ ∀ p, p < q → σ 11 c p = σ 20 10 (4 * c + p) ∧ σ 12 c p = σ 20 11 (4 * c + p)
/-- what trials left -/
def rVe (σ : gSig) : Prop := m16 (σ 13 0 5) ∧ m16 (σ 13 0 6) ∧ ∀ c, c < 16 → (bt (σ 13 0 6) c = true → bt (σ 13 0 5) c = false) ∧ σ 20 12 c = veC σ c ∧
  (bt (σ 13 0 6) c = true → σ 14 1 c = σ 20 13 c ∧ σ 14 2 c = σ 20 16 c ∧ ¬ σ 20 15 c = -1 ∧ ∀ i, i < 16 → bt (σ 14 3 c) i = bt (σ 20 15 c) i ∧ (bt (σ 14 3 c) i = true → σ 16 c i = σ 20 14 (16 * c + i))) ∧ (bt (σ 13 0 6) c = false → σ 20 15 c = -1)
/-- values set, owners, waivers, days -/
def rDk (σ : gSig) : Prop := (∃ dd, dd ≤ 10000 ∧ σ 17 0 3 = nI dd) ∧ σ 17 0 3 = σ 19 0 1 ∧ ∀ c, c < 16 → σ 7 2 c = σ 20 7 c ∧ σ 18 0 c = σ 20 8 c ∧ σ 18 1 c = σ 20 17 c
/-- what was unlocked -/
def rUn (σ : gSig) : Prop := ∃ w, w ≤ 16 ∧ σ 17 0 4 = nI w ∧ σ 19 0 22 = nI w ∧ ∀ j, j < w → σ 18 2 j = σ 20 18 j
def Rel (σ : gSig) : Prop := rDr σ ∧ rSh σ ∧ rPr σ ∧ rVe σ ∧ rDk σ ∧ rUn σ
/-! frames -/
theorem dK_of {σ σ' : gSig} (h0 : σ' 20 0 = σ 20 0) (h1 : σ' 20 1 = σ 20 1) : dK σ' = dK σ := by funext j; unfold dK; rw [h0, h1]
theorem dN_of {σ σ' : gSig} (h1 : σ' 20 1 = σ 20 1) : dN σ' = dN σ := by funext j; unfold dN; rw [h1]
theorem mIn_of {σ σ' : gSig} (h2 : σ' 20 2 = σ 20 2) : mIn σ' = mIn σ := by funext c; unfold mIn; rw [h2]
theorem mK_of {σ σ' : gSig} (h3 : σ' 20 3 = σ 20 3) (h4 : σ' 20 4 = σ 20 4) : mK σ' = mK σ := by funext c k; unfold mK; rw [h3, h4]
theorem mN_of {σ σ' : gSig} (h4 : σ' 20 4 = σ 20 4) : mN σ' = mN σ := by funext c k; unfold mN; rw [h4]
theorem mL_of {σ σ' : gSig} (h2 : σ' 20 2 = σ 20 2) : mL σ' = mL σ := by funext c; unfold mL; rw [h2]
theorem rDr_of {σ σ' : gSig} (a : σ' 1 16 3 = σ 1 16 3) (a4 : σ' 1 16 4 = σ 1 16 4) (b : σ' 2 16 = σ 2 16) (c : σ' 3 16 = σ 3 16) (d : σ' 19 0 2 = σ 19 0 2) (e : σ' 19 0 3 = σ 19 0 3) (f : σ' 20 0 = σ 20 0) (g : σ' 20 1 = σ 20 1) (h : rDr σ) : rDr σ' := by
  unfold rDr rD0 dfK at *
  rw [a, a4, b, c, d, e, dK_of f g, dN_of g, f, g]
  exact h
theorem shK_of16 {σ σ' : gSig} {o : Nat → Nat} (h1 : ∀ c, c < 16 → σ' 1 c 3 = σ 1 c 3) (h2 : ∀ c, c < 16 → σ' 2 c = σ 2 c) (h3 : ∀ c, c < 16 → σ' 3 c = σ 3 c) (h5 : σ' 5 0 8 = σ 5 0 8) (h73 : σ' 7 3 = σ 7 3) (h74 : σ' 7 4 = σ 7 4) (h75 : σ' 7 5 = σ 7 5) (h : shK σ o) : shK σ' o := by
  obtain ⟨a, b, c, d, e, f, g⟩ := h
  refine ⟨by rw [h75]; exact a, by rw [h73]; exact b, c, d, by rw [h73, h74]; exact e, fun z hz => ?_, by rw [h5]; exact g⟩
  have := f z hz
  unfold rdK frK flen at *
  rw [h1 z hz, h2 z hz, h3 z hz, h5, h73]
  exact this
theorem rSh_of {σ σ' : gSig} (h1 : ∀ c, c < 16 → σ' 1 c 3 = σ 1 c 3) (h2 : ∀ c, c < 16 → σ' 2 c = σ 2 c) (h3 : ∀ c, c < 16 → σ' 3 c = σ 3 c) (h5 : σ' 5 0 8 = σ 5 0 8) (h70 : σ' 7 0 = σ 7 0) (h71 : σ' 7 1 = σ 7 1) (h73 : σ' 7 3 = σ 7 3) (h74 : σ' 7 4 = σ 7 4) (h75 : σ' 7 5 = σ 7 5)
    (m2 : σ' 20 2 = σ 20 2) (m3 : σ' 20 3 = σ 20 3) (m4 : σ' 20 4 = σ 20 4) (m5 : σ' 20 5 = σ 20 5) (m6 : σ' 20 6 = σ 20 6) (m19 : σ' 20 19 = σ 20 19) (h : rSh σ) : rSh σ' := by
  obtain ⟨⟨o, a⟩, ⟨o2, b⟩, c, d⟩ := h
  refine ⟨⟨o, shK_of16 h1 h2 h3 h5 h73 h74 h75 a⟩, ⟨o2, moK_of m2 m3 m4 m19 b⟩, by unfold inpC at *; rw [h5, h70, h71]; exact c, fun z hz => ?_⟩
  have := d z hz
  unfold rCe flen at *
  rw [h1 z hz, h2 z hz, h3 z hz, h5, h70, h71, mIn_of m2, mK_of m3 m4, mN_of m4, mL_of m2, m5, m6]
  exact this
theorem rPr_of {σ σ' : gSig} (h10 : ∀ c, c < 16 → σ' 10 c 2 = σ 10 c 2) (h11 : σ' 11 = σ 11) (h12 : σ' 12 = σ 12) (m9 : σ' 20 9 = σ 20 9) (m10 : σ' 20 10 = σ 20 10) (m11 : σ' 20 11 = σ 20 11) (h : rPr σ) : rPr σ' := fun c hc => by
  have := h c hc
  unfold plK mpK at *
  rw [h10 c hc, h11, h12, m9, m10, m11]
  exact this
theorem rVe_of {σ σ' : gSig} (h5 : σ' 13 0 5 = σ 13 0 5) (h6 : σ' 13 0 6 = σ 13 0 6) (h1 : σ' 14 1 = σ 14 1) (h2 : σ' 14 2 = σ 14 2) (h3 : σ' 14 3 = σ 14 3) (h16 : σ' 16 = σ 16) (m12 : σ' 20 12 = σ 20 12) (m13 : σ' 20 13 = σ 20 13) (m14 : σ' 20 14 = σ 20 14) (m15 : σ' 20 15 = σ 20 15) (m16 : σ' 20 16 = σ 20 16) (h : rVe σ) : rVe σ' := by
  unfold rVe veC at *
  rw [h5, h6, h1, h2, h3, h16, m12, m13, m14, m15, m16]
  exact h
theorem rDk_of {σ σ' : gSig} (a : σ' 17 0 3 = σ 17 0 3) (b : σ' 19 0 1 = σ 19 0 1) (c : σ' 7 2 = σ 7 2) (d : σ' 18 0 = σ 18 0) (e : σ' 18 1 = σ 18 1) (m7 : σ' 20 7 = σ 20 7) (m8 : σ' 20 8 = σ 20 8) (m17 : σ' 20 17 = σ 20 17) (h : rDk σ) : rDk σ' := by
  unfold rDk at *
  rw [a, b, c, d, e, m7, m8, m17]
  exact h
theorem rUn_of {σ σ' : gSig} (a : σ' 17 0 4 = σ 17 0 4) (b : σ' 18 2 = σ 18 2) (c : σ' 19 0 22 = σ 19 0 22) (d : σ' 20 18 = σ 20 18) (h : rUn σ) : rUn σ' := by
  unfold rUn at *
  rw [a, b, c, d]
  exact h
/-! what follows of the relation -/
theorem rsM_congr {kd kd' nm nm' : Nat → Int32} : ∀ {n : Nat}, (∀ i, i < n → kd i = kd' i ∧ (kd i = 13 → nm i = nm' i)) → rsM kd nm n = rsM kd' nm' n
  | 0, _ => rfl
  | n + 1, h => by
    obtain ⟨h1, h2⟩ := h n (by omega)
    unfold rsM
    rw [rsM_congr (fun i hi => h i (by omega)), ← h1]
    by_cases e : kd n = 13
    · rw [if_pos e, if_pos e, h2 e]
    · rw [if_neg e, if_neg e]
theorem k13_12 {x : Int32} (h : x = 13) : ¬ x < 12 := by rw [h]; decide
theorem k12_12 {x : Int32} (h : x = 12) : ¬ x < 12 := by rw [h]; decide
theorem mIn_L {σ : gSig} {c : Nat} (h : mIn σ c = true) : mL σ c = 0 := by
  unfold mIn at h
  unfold mL
  rw [of_decide_eq_true h]
  rfl
theorem rel_rd {σ : gSig} (h : rSh σ) {c : Nat} (hc : c < 16) : σ 7 3 c = mR σ c := by
  obtain ⟨⟨o, hK⟩, -, -, hC⟩ := h
  obtain ⟨e1, -, -, e4⟩ := hC c hc
  have hF := hK.2.2.2.2.2.1 c hc
  unfold mR
  cases hb : mIn σ c with
  | true =>
    rw [hF.1 (e1.trans hb), mIn_L hb]
    rfl
  | false =>
    obtain ⟨f1, f2⟩ := e4 hb
    rw [(hF.2 (e1.trans hb)).2, f1]
    exact rsM_congr (fun i hi => ⟨(f2 i hi).1, fun q => (f2 i hi).2 (k13_12 q)⟩)
theorem rel_m16 {σ : gSig} (h : rSh σ) {c : Nat} (hc : c < 16) : m16 (σ 7 3 c) := by
  obtain ⟨⟨o, hK⟩, -⟩ := h
  exact rdK_m16 (hK.2.2.2.2.2.1 c hc)
/-- on what a cell rests -/
theorem rel_ro {σ : gSig} (h : rSh σ) {c : Nat} (hc : c < 16) : clR (mR σ) (mR σ c) 16 = σ 7 4 c := by
  have hrd : ∀ z, z < 16 → mR σ z = σ 7 3 z := fun z hz => (rel_rd h hz).symm
  obtain ⟨⟨o, hK⟩, -⟩ := id h
  rw [clR_congr hrd, hrd c hc]
  exact clR_ro hK.2.1 hK.2.2.1 hK.2.2.2.1 hK.2.2.2.2.1 (fun z hz => rel_m16 h hz) hc
theorem rel_rot {σ : gSig} (h : rSh σ) {R : Int32} (hR : m16 R) : clR (mR σ) R 16 = rotF (σ 7 4) R 16 := by
  have hrd : ∀ z, z < 16 → mR σ z = σ 7 3 z := fun z hz => (rel_rd h hz).symm
  obtain ⟨⟨o, hK⟩, -⟩ := id h
  rw [clR_congr hrd]
  exact clR_rest hK.2.1 hK.2.2.1 hK.2.2.2.1 hK.2.2.2.2.1 (fun z hz => rel_m16 h hz) hR
theorem rel_rk {σ : gSig} (h : rSh σ) : ∃ rk : Nat → Nat, (∀ c, c < 16 → rk c < 16) ∧ ∀ c d, c < 16 → d < 16 → bt (σ 7 3 c) d = true → rk d < rk c := by
  obtain ⟨⟨o, hK⟩, -⟩ := h
  exact ord_rk hK.2.2.1 hK.2.2.2.1 hK.2.1
/-! masks of the model -/
def flM (σ : gSig) : Int32 := inM (fun c => decide (σ 20 12 c = 2)) 16
def wvM (σ : gSig) : Int32 := inM (mWv σ) 16
theorem mLK_of {σ : gSig} {o : Nat → Nat} (h : moK σ o) : mLK σ (flM σ) (wvM σ) o := ⟨h.1, h.2.2.2.2.1, fun c hc => inM_in _ hc, fun c hc => inM_in _ hc⟩
/-- locks along any good order, of the same cells, are the same -/
theorem lk_same {rd rd' : Nat → Int32} {fl fl' wv wv' : Int32} {o o' : Nat → Nat} (hrd : ∀ c, c < 16 → rd c = rd' c) (hfl : ∀ c, c < 16 → bt fl c = bt fl' c) (hwv : ∀ c, c < 16 → bt wv c = bt wv' c) (hm : ∀ c, c < 16 → m16 (rd c))
    (a1 : ∀ i, i < 16 → o i < 16) (a2 : ordJ o 16) (a3 : ordS o) (a4 : ordT rd o 16) (b1 : ∀ i, i < 16 → o' i < 16) (b2 : ordJ o' 16) (b3 : ordS o') (b4 : ordT rd' o' 16) : lkF rd fl wv o 16 = lkF rd' fl' wv' o' 16 := by
  obtain ⟨rk, hk, hrk⟩ := ord_rk a2 a3 a4
  have e1 := lkF_eq (rd := rd) (fl := fl) (wv := wv) a1 a2 a3 a4 hm
  have e2 := lkF_eq (rd := rd') (fl := fl') (wv := wv') b1 b2 b3 b4 (fun c hc => by rw [← hrd c hc]; exact hm c hc)
  refine m16_ext (lkF_m16 rd fl wv o a1 16 (Nat.le_refl _)) (lkF_m16 rd' fl' wv' o' b1 16 (Nat.le_refl _)) (fun c hc => ?_)
  refine lkE_one hrk e1 (fun z hz => ?_) (rk c + 1) c hc (by omega)
  have := e2 z hz
  unfold lkE at *
  rw [this, hfl z hz, hwv z hz]
  congr 2
  exact anyB_congr (fun d _ => by rw [hrd z hz])
theorem wvF_bt (ld : Nat → Int32) (day : Int32) (c : Nat) : ∀ n, n ≤ 16 → bt (wvF ld day n) c = (decide (c < n) && decide (day ≤ ld c))
  | 0, _ => by
    show bt 0 c = _
    rw [b_0]; simp
  | n + 1, hn => by
    have ih := wvF_bt ld day c n (by omega)
    by_cases h : day ≤ ld n
    · rw [wvF_t h, b_or, ih, bt_b1 (by omega)]
      by_cases e : c = n
      · subst e; simp [h]
      · rw [decide_eq_false e, Bool.or_false]
        congr 1
        exact decide_eq_decide.mpr (by omega)
    · rw [wvF_f h, ih]
      by_cases e : c = n
      · subst e; simp [h]
      · congr 1
        exact decide_eq_decide.mpr (by omega)
theorem rel_wv {σ : gSig} (h : rDk σ) {c : Nat} (hc : c < 16) : bt (wvF (σ 18 1) (σ 17 0 3) 16) c = bt (wvM σ) c := by
  obtain ⟨⟨dd, hd1, hd2⟩, hd3, hd4⟩ := h
  unfold wvM
  rw [inM_in _ hc, wvF_bt _ _ c 16 (Nat.le_refl _), decide_eq_true hc, Bool.true_and]
  unfold mWv
  rw [← hd3, ← (hd4 c hc).2.2]
  by_cases e : σ 18 1 c = -1
  · rw [e, decide_eq_true rfl, hd2]
    simp only [Bool.not_true, Bool.false_and]
    refine decide_eq_false (fun q => ?_)
    have := (fa_le _ _).mp q
    rw [nI_toInt (by omega)] at this
    have e9 : (-1 : Int32).toInt = -1 := by decide
    omega
  · rw [decide_eq_false e]
    rfl
theorem rel_fl {σ : gSig} (h : rVe σ) {c : Nat} (hc : c < 16) : bt (σ 13 0 6) c = bt (flM σ) c := by
  unfold flM
  rw [inM_in _ hc, (h.2.2 c hc).2.1]
  unfold veC
  cases bt (σ 13 0 6) c with
  | true => rfl
  | false => cases bt (σ 13 0 5) c <;> rfl
/-- the locks of both sides -/
theorem rel_lk {σ : gSig} (h : Rel σ) {o o' : Nat → Nat} (hK : shK σ o) (hM : moK σ o') : lcC σ o = mlk σ (flM σ) (wvM σ) o' := by
  unfold lcC mlk
  exact lk_same (fun c hc => rel_rd h.2.1 hc) (fun c hc => rel_fl h.2.2.2.1 hc) (fun c hc => rel_wv h.2.2.2.2.1 hc) (fun c hc => rel_m16 h.2.1 hc) (fun i hi => (hK.1 i hi).2) hK.2.2.1 hK.2.2.2.1 hK.2.1 (fun i hi => (hM.1 i hi).2) hM.2.2.1 hM.2.2.2.1 hM.2.1
theorem rel_lk16 {σ : gSig} {o : Nat → Nat} (hK : shK σ o) : m16 (lcC σ o) := lkF_m16 _ _ _ _ (fun i hi => (hK.1 i hi).2) 16 (Nat.le_refl _)
/-! values, properties, rows -/
def Ag (σ : gSig) (row row' : Nat → Int32) : Prop := ∀ c, c < 16 → mIn σ c = true → row c = row' c
theorem rel_V {σ : gSig} (h : rSh σ) {row row' : Nat → Int32} (hA : Ag σ row row') : ∀ c, c < 16 → gV σ row c = mV σ row' c := by
  obtain ⟨⟨o, hK⟩, -, -, hC⟩ := h
  have go : ∀ f c, c < 16 → vN (fun c => bt (σ 5 0 8) c) (fun c => σ 2 c) (fun c => σ 3 c) (fun c => flen σ c) row f c = vN (mIn σ) (mK σ) (mN σ) (mL σ) row' f c := by
    intro f
    induction f with
    | zero => intro c _; rfl
    | succ f ih =>
      intro c hc
      obtain ⟨e1, -, -, e4⟩ := hC c hc
      rw [vN_succ, vN_succ]
      show (if bt (σ 5 0 8) c = true then _ else _) = _
      rw [e1]
      cases hb : mIn σ c with
      | true => rw [if_pos rfl, if_pos rfl, hA c hc hb]
      | false =>
        simp only [Bool.false_eq_true, if_false]
        obtain ⟨f1, f2⟩ := e4 hb
        have hok := ((hK.2.2.2.2.2.1 c hc).2 (e1.trans hb)).1.2.2.2.1
        rw [f1] at hok
        show evF _ (σ 2 c) (σ 3 c) (flen σ c) = _
        rw [f1]
        refine evF_congr (fun q hq => ⟨(f2 q hq).1, fun e => (f2 q hq).2 (k12_12 e), fun e => ⟨(f2 q hq).2 (k13_12 e), ?_⟩⟩)
        obtain ⟨d, hd, e9⟩ := isC_nI ((hok q hq).2.2 e)
        rw [e9, nI_clamp (by omega)]
        exact ih d hd
  exact fun c hc => go 16 c hc
theorem Ag_upd {σ : gSig} {row row' : Nat → Int32} (h : Ag σ row row') (m : Nat) {x y : Int32} (hxy : (m < 16 → mIn σ m = true → x = y)) : Ag σ (upd row m x) (upd row' m y) := fun c hc hi => by
  unfold upd
  by_cases e : c = m
  · subst e; rw [if_pos rfl, if_pos rfl]; exact hxy hc hi
  · rw [if_neg e, if_neg e]; exact h c hc hi
