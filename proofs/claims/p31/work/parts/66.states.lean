/-! ===== what each call leaves: all holds again ===== -/
theorem nI_m1 {d : Nat} (h : 1 ≤ d) : nI d + (-1) = nI (d - 1) := by
  rw [← Int32.sub_eq_add_neg]
  exact nI_subN (b := 1) h
/-- a draft of k parts that reads cells below c and divides nothing -/
def drK (σ : gSig) (c k : Nat) : Prop := σ 1 16 3 = nI k ∧ σ 1 16 4 = nI (dep (σ 2 16) k) ∧ okP (σ 2 16) (σ 3 16) k ∧ (∀ i, i < k → ¬ σ 2 16 i = 3) ∧ ∀ i, i < k → σ 2 16 i = 13 → ∃ d, d < c ∧ σ 3 16 i = nI d
theorem inv_cl {σ : gSig} {T : Nat} (h : Inv σ T) : Inv (clS σ) T := Inv_of (σ := σ) (fun c hc => by
  have hne : c ≠ 16 := by omega
  simp [clS, up3_at, hne]) (fun _ _ => rfl) (fun _ _ => rfl) rfl rfl rfl rfl rfl rfl (fun _ _ => rfl) (fun _ _ => rfl) (fun _ _ => rfl) rfl rfl rfl rfl rfl rfl (Nat.le_refl _) h
theorem dr_0 (σ : gSig) (c : Nat) : drK (clS σ) c 0 := ⟨rfl, rfl, fun i hi => absurd hi (Nat.not_lt_zero i), fun i hi => absurd hi (Nat.not_lt_zero i), fun i hi => absurd hi (Nat.not_lt_zero i)⟩
theorem inv_put {σ : gSig} {T k : Nat} {kd nm : Int32} (h : Inv σ T) : Inv (putS σ 16 k kd nm) T := Inv_of (σ := σ) (fun c hc => by
  have hne : c ≠ 16 := by omega
  simp [putS, up3_at, hne]) (fun c hc => by
  have hne : c ≠ 16 := by omega
  funext i
  simp [putS, up3_at, hne]) (fun c hc => by
  have hne : c ≠ 16 := by omega
  funext i
  simp [putS, up3_at, hne]) rfl rfl rfl rfl rfl rfl (fun _ _ => rfl) (fun _ _ => rfl) (fun _ _ => rfl) rfl rfl rfl rfl rfl rfl (Nat.le_refl _) h
theorem dep_upd (kd : Nat → Int32) (k : Nat) (x : Int32) : dep (upd kd k x) (k + 1) = if x < 12 then dep kd k - 1 else dep kd k + 1 := by
  have h : dep (upd kd k x) k = dep kd k := dep_congr (fun j hj => by rw [upd_at, if_neg (by omega)])
  show (if upd kd k x k < 12 then dep (upd kd k x) k - 1 else dep (upd kd k x) k + 1) = _
  rw [h, upd_at, if_pos rfl]
theorem dr_put {σ : gSig} {c k : Nat} {kd nm : Int32} (hd : drK σ c k) (hc : c ≤ 16) (h0 : ¬ kd < 0 ∧ kd ≤ 13) (h3 : ¬ kd = 3) (h2 : kd < 12 → 2 ≤ dep (σ 2 16) k) (h13 : kd = 13 → ∃ d, d < c ∧ nm = nI d) :
    drK (putS σ 16 k kd nm) c (k + 1) ∧ dep ((putS σ 16 k kd nm) 2 16) (k + 1) = if kd < 12 then dep (σ 2 16) k - 1 else dep (σ 2 16) k + 1 := by
  obtain ⟨d1, d2, d3, d4, d5⟩ := hd
  have e2 : (putS σ 16 k kd nm) 2 16 = upd (σ 2 16) k kd := by
    funext i
    simp [putS, up3_at, upd]
  have e3 : (putS σ 16 k kd nm) 3 16 = upd (σ 3 16) k nm := by
    funext i
    simp [putS, up3_at, upd]
  have e13 : (putS σ 16 k kd nm) 1 16 3 = nI (k + 1) := by simp [putS, up3_at]
  have e14 : (putS σ 16 k kd nm) 1 16 4 = σ 1 16 4 + (if kd < 12 then -1 else 1) := by simp [putS, up3_at]
  refine ⟨⟨e13, ?_, ?_, ?_, ?_⟩, by rw [e2]; exact dep_upd _ _ _⟩
  · rw [e14, e2, dep_upd, d2]
    by_cases h : kd < 12
    · rw [if_pos h, if_pos h]
      exact nI_m1 (by have := h2 h; omega)
    · rw [if_neg h, if_neg h]
      exact nI_1 _
  · rw [e2, e3]
    intro i hi
    by_cases q : i = k
    · subst q
      rw [upd_at, if_pos rfl, upd_at, if_pos rfl, dep_congr (kd' := σ 2 16) (fun j hj => by rw [upd_at, if_neg (by omega)])]
      refine ⟨h0, h2, fun z => ?_⟩
      obtain ⟨d, hdc, e⟩ := h13 z
      rw [e]
      exact isC_of (by omega)
    · rw [upd_at, if_neg q, upd_at, if_neg q, dep_congr (kd' := σ 2 16) (fun j hj => by rw [upd_at, if_neg (by omega)])]
      exact d3 i (by omega)
  · rw [e2]
    intro i hi
    by_cases q : i = k
    · rw [upd_at, if_pos q]; exact h3
    · rw [upd_at, if_neg q]; exact d4 i (by omega)
  · rw [e2, e3]
    intro i hi
    by_cases q : i = k
    · rw [upd_at, if_pos q, upd_at, if_pos q]; exact h13
    · rw [upd_at, if_neg q, upd_at, if_neg q]; exact d5 i (by omega)
/-- what the draft reads -/
theorem dr_rd {σ : gSig} {c k : Nat} (hd : drK σ c k) : m16 (rsM (σ 2 16) (σ 3 16) k) ∧ ∀ d, bt (rsM (σ 2 16) (σ 3 16) k) d = true → d < c := by
  obtain ⟨d1, d2, d3, d4, d5⟩ := hd
  refine ⟨rsM_m16 _ _ _ (fun i hi => (d3 i hi).2.2), fun d h => ?_⟩
  rw [rsM_bt _ _ k (fun i hi => (d3 i hi).2.2)] at h
  obtain ⟨i, hi, h2⟩ := anyB_true.mp h
  simp at h2
  obtain ⟨⟨h3, h4⟩, h5⟩ := h2
  obtain ⟨e, he, e2⟩ := d5 i hi h3
  have h6 := isC_nI ((d3 i hi).2.2 h3)
  obtain ⟨z, hz, ez⟩ := h6
  have z1 : z = d := (nI_eq (by omega) (by omega)).mp (ez.symm.trans h4)
  have hlt : e < 2 ^ 31 ∨ 2 ^ 31 ≤ e := by omega
  rcases hlt with q | q
  · have : e = d := (nI_eq q (by omega)).mp (e2.symm.trans h4)
    omega
  · omega
theorem en_ok {σ : gSig} {o : Nat → Nat} {c k : Nat} (hK : shK σ o) (hlo : loK σ) (hd : drK σ c k) (h1 : dep (σ 2 16) k = 1) : σ 1 16 4 = 1 ∧ bt (rotF (σ 7 4) (rsM (σ 2 16) (σ 3 16) k) 16) c = false := by
  refine ⟨by rw [hd.2.1, h1]; rfl, ?_⟩
  have hr := (dr_rd hd).2
  rw [rotF_bt]
  cases hb : bt (rsM (σ 2 16) (σ 3 16) k) c with
  | true => exact absurd (hr c hb) (Nat.lt_irrefl c)
  | false =>
    rw [Bool.false_or]
    cases ha : anyB (fun e => bt (rsM (σ 2 16) (σ 3 16) k) e && bt (σ 7 4 e) c) 16 with
    | false => rfl
    | true =>
      obtain ⟨e, he, h2⟩ := anyB_true.mp ha
      rw [Bool.and_eq_true] at h2
      have h3 := hr e h2.1
      have h4 := lo_rest hK hlo 16 e he he c h2.2
      omega
theorem hn_in {σ : gSig} {o : Nat → Nat} (hK : shK σ o) (c : Nat) (lo hi : Int32) (_hc : c < 16) : (∀ d, d < 16 → m16 ((inS σ c lo hi) 7 3 d)) ∧ ∃ rk : Nat → Nat, ∀ a b, a < 16 → b < 16 → bt ((inS σ c lo hi) 7 3 a) b = true → rk b < rk a := by
  have e73 : ∀ z, (inS σ c lo hi) 7 3 z = if z = c then 0 else σ 7 3 z := fun z => by
    show (up3 σ 7 3 c 0) 7 3 z = _
    rw [up3_i2]
  obtain ⟨rk, -, hrk⟩ := ord_rk hK.2.2.1 hK.2.2.2.1 hK.2.1
  refine ⟨fun d hd => ?_, rk, fun a b ha hb q => ?_⟩
  · rw [e73]
    by_cases e : d = c
    · rw [if_pos e]; exact m16_0
    · rw [if_neg e]; exact sh_m16 hK hd
  · rw [e73] at q
    by_cases e : a = c
    · rw [if_pos e, b_0] at q; cases q
    · rw [if_neg e] at q; exact hrk a b ha hb q
theorem hn_en {σ : gSig} {o : Nat → Nat} {k : Nat} (hK : shK σ o) (hm : m16 (rsM (σ 2 16) (σ 3 16) k)) (c : Nat) (_hc : c < 16) (h : (σ 1 16 4 = 1 ∧ bt (rotF (σ 7 4) (rsM (σ 2 16) (σ 3 16) k) 16) c = false)) : (∀ d, d < 16 → m16 ((fmS σ c k) 7 3 d)) ∧ ∃ rk : Nat → Nat, ∀ a b, a < 16 → b < 16 → bt ((fmS σ c k) 7 3 a) b = true → rk b < rk a := by
  have e73 : ∀ z, (fmS σ c k) 7 3 z = if z = c then rsM (σ 2 16) (σ 3 16) k else σ 7 3 z := fun z => by
    show (up3 σ 7 3 c (rsM (σ 2 16) (σ 3 16) k)) 7 3 z = _
    rw [up3_i2]
  obtain ⟨rk, hk, hrk⟩ := ord_rk hK.2.2.1 hK.2.2.2.1 hK.2.1
  have hro := hK.2.2.2.2.1
  refine ⟨fun d hd2 => ?_, fun d => if d = c ∨ bt (σ 7 4 d) c = true then 16 + rk d else rk d, fun a b ha hb q => ?_⟩
  · rw [e73]
    by_cases e : d = c
    · rw [if_pos e]; exact hm
    · rw [if_neg e]; exact sh_m16 hK hd2
  · rw [e73] at q
    simp only
    by_cases e : a = c
    · rw [if_pos e] at q
      have h2 := h.2
      rw [rotF_bt, Bool.or_eq_false_iff] at h2
      have hnb : ¬ (b = c ∨ bt (σ 7 4 b) c = true) := by
        rintro (z | z)
        · rw [z, h2.1] at q; cases q
        · have h9 : anyB (fun e => bt (rsM (σ 2 16) (σ 3 16) k) e && bt (σ 7 4 e) c) 16 = true := anyB_true.mpr ⟨b, hb, by rw [q, z]; rfl⟩
          rw [h2.2] at h9; cases h9
      rw [if_neg hnb, if_pos (Or.inl e)]
      have := hk b hb
      omega
    · rw [if_neg e] at q
      have h9 := hrk a b ha hb q
      by_cases hbm : b = c ∨ bt (σ 7 4 b) c = true
      · have ham : a = c ∨ bt (σ 7 4 a) c = true := by
          right
          rcases hbm with z | z
          · rw [z] at q; exact rs_rd (hro a ha) q
          · exact rs_via (hro a ha) hb q z
        rw [if_pos hbm, if_pos ham]; omega
      · rw [if_neg hbm]
        split <;> omega
abbrev enS (σ : gSig) (c k : Nat) (ord ro : Nat → Int32) : gSig := fcS (clS (upR (upR (fmS σ c k) 7 5 ord) 7 4 ro)) c
abbrev ipS (σ : gSig) (c : Nat) (lo hi : Int32) (ord ro : Nat → Int32) : gSig := fcS (upR (upR (inS σ c lo hi) 7 5 ord) 7 4 ro) c
theorem inv_enter {σ : gSig} {c k T : Nat} {ord ro : Nat → Int32} {o2 : Nat → Nat} (hI : Inv σ T) (hd : drK σ c k) (hc : c < 16) (k12 : k ≤ 12) (hdep : dep (σ 2 16) k = 1) (q1 : ordI ord o2 16) (q2 : ordT ((fmS σ c k) 7 3) o2 16) (q3 : ordJ o2 16) (q4 : ordS o2) (q5 : ∀ z, z < 16 → rsE ((fmS σ c k) 7 3) ro z) : Inv (up3 (enS σ c k ord ro) 19 0 c 1) (T + 1) := by
  obtain ⟨⟨o, hK⟩, i2, i3, i4, i5, i6, i7⟩ := hI
  obtain ⟨d1, d2, d3, d4, d5⟩ := id hd
  have hk1 : 1 ≤ k := by
    rcases Nat.eq_zero_or_pos k with q | q
    · rw [q] at hdep; cases hdep
    · exact q
  have e13 : ∀ z, z < 16 → (up3 (enS σ c k ord ro) 19 0 c 1) 1 z 3 = if z = c then σ 1 16 3 else σ 1 z 3 := fun z hz => by
    have hne : z ≠ 16 := by omega
    show (up3 (up3 (up3 (up3 σ 1 c 3 (σ 1 16 3)) 1 c 4 (σ 1 16 4)) 1 16 3 0) 1 16 4 0) 1 z 3 = _
    simp [up3_at, hne]
  have e2c : ∀ j, j < 12 → (up3 (enS σ c k ord ro) 19 0 c 1) 2 c j = σ 2 16 j := fun j hj => by
    show (upR σ 2 c (va_cpy (σ 2 16) (σ 2 c) 0 0 12)) 2 c j = _
    rw [upR_self]
    unfold va_cpy
    rw [if_pos (by omega)]
    congr 1
    omega
  have e3c : ∀ j, j < 12 → (up3 (enS σ c k ord ro) 19 0 c 1) 3 c j = σ 3 16 j := fun j hj => by
    show (upR σ 3 c (va_cpy (σ 3 16) (σ 3 c) 0 0 12)) 3 c j = _
    rw [upR_self]
    unfold va_cpy
    rw [if_pos (by omega)]
    congr 1
    omega
  have e2z : ∀ z, z ≠ c → (up3 (enS σ c k ord ro) 19 0 c 1) 2 z = σ 2 z := fun z hne => by
    show (upR σ 2 c (va_cpy (σ 2 16) (σ 2 c) 0 0 12)) 2 z = _
    exact upR_ne _ _ _ _ (fun q => hne (congrArg Prod.snd q))
  have e3z : ∀ z, z ≠ c → (up3 (enS σ c k ord ro) 19 0 c 1) 3 z = σ 3 z := fun z hne => by
    show (upR σ 3 c (va_cpy (σ 3 16) (σ 3 c) 0 0 12)) 3 z = _
    exact upR_ne _ _ _ _ (fun q => hne (congrArg Prod.snd q))
  have e73 : ∀ z, (up3 (enS σ c k ord ro) 19 0 c 1) 7 3 z = if z = c then rsM (σ 2 16) (σ 3 16) k else σ 7 3 z := fun z => by
    show (up3 σ 7 3 c (rsM (σ 2 16) (σ 3 16) k)) 7 3 z = _
    rw [up3_i2]
  have e8 : (up3 (enS σ c k ord ro) 19 0 c 1) 5 0 8 = σ 5 0 8 &&& (b1 c ^^^ (-1)) := rfl
  have e190 : ∀ z, (up3 (enS σ c k ord ro) 19 0 c 1) 19 0 z = if z = c then 1 else σ 19 0 z := fun z => by
    show (up3 σ 19 0 c 1) 19 0 z = _
    rw [up3_i2]
  have hbc : bt (σ 5 0 8 &&& (b1 c ^^^ (-1))) c = false := by rw [bt_clr (by omega) (by omega), decide_eq_true rfl]; simp
  have hbz : ∀ z, z < 16 → z ≠ c → bt (σ 5 0 8 &&& (b1 c ^^^ (-1))) z = bt (σ 5 0 8) z := fun z hz hne => by rw [bt_clr (by omega) (by omega), decide_eq_false hne]; simp
  have hfl : flen (up3 (enS σ c k ord ro) 19 0 c 1) c = k := by
    unfold flen
    rw [e13 c hc, if_pos rfl, d1, nI_clamp (by omega)]
  refine ⟨⟨o2, q1, q2, q3, q4, q5, fun z hz => ?_, by rw [e8]; exact m16_and hK.2.2.2.2.2.2 _⟩, fun z hz d h => ?_, fun z hz hb i hi => ?_, fun z hz => ?_, ltK_of (σ := σ) (fun _ _ => rfl) (fun _ _ => rfl) (fun _ _ => rfl) rfl i5, ⟨m16_and i6.1 _, i6.2.1, i6.2.2⟩, ldK_of (σ := σ) rfl (by omega) i7⟩
  · by_cases e : z = c
    · subst e
      refine ⟨fun q => ?_, fun _ => ⟨⟨?_, ?_, ?_, ?_, ?_⟩, ?_⟩⟩
      · rw [e8, hbc] at q; cases q
      · rw [hfl, e13 z hz, if_pos rfl, d1]
      · rw [hfl]; exact hk1
      · rw [hfl]; exact k12
      · rw [hfl]
        exact okP_congr (fun j hj => ⟨(e2c j (by omega)).symm, fun _ => (e3c j (by omega)).symm⟩) d3
      · rw [hfl, dep_congr (kd' := σ 2 16) (fun j hj => e2c j (by omega))]
        exact hdep
      · rw [hfl, e73, if_pos rfl]
        exact rsM_congr (fun j hj => ⟨(e2c j (by omega)).symm, fun _ => (e3c j (by omega)).symm⟩)
    · exact rd_z (by rw [e13 z hz, if_neg e]) (e2z z e) (e3z z e) (by rw [e8, hbz z hz e]) (by rw [e73, if_neg e]) (hK.2.2.2.2.2.1 z hz)
  · rw [e73] at h
    by_cases e : z = c
    · rw [if_pos e] at h
      rw [e]
      exact (dr_rd hd).2 d h
    · rw [if_neg e] at h
      exact i2 z hz d h
  · by_cases e : z = c
    · subst e
      rw [hfl] at hi
      rw [e2c i (by omega)]
      exact d4 i hi
    · rw [e8, hbz z hz e] at hb
      unfold flen at hi
      rw [e13 z hz, if_neg e] at hi
      rw [e2z z e]
      exact i3 z hz hb i hi
  · obtain ⟨r1, r2, r3⟩ := i4 z hz
    rw [e8, e190]
    by_cases e : z = c
    · subst e
      rw [hbc, if_pos rfl]
      exact ⟨fun q => (by cases q), fun _ => rfl, r3⟩
    · rw [hbz z hz e, if_neg e]
      exact ⟨r1, r2, r3⟩
abbrev lhS (σ : gSig) (c : Nat) (lo hi : Int32) : gSig := up3 (up3 σ 19 1 c lo) 19 2 c hi
theorem inv_input {σ : gSig} {c T : Nat} {lo hi : Int32} {ord ro : Nat → Int32} {o2 : Nat → Nat} (hI : Inv σ T) (hc : c < 16) (hlo : (-1000 : Int) ≤ lo.toInt ∧ lo.toInt ≤ 1000 ∧ lo.toInt ≤ hi.toInt ∧ hi.toInt ≤ lo.toInt + 299) (q1 : ordI ord o2 16) (q2 : ordT ((inS (lhS σ c lo hi) c lo hi) 7 3) o2 16) (q3 : ordJ o2 16) (q4 : ordS o2) (q5 : ∀ z, z < 16 → rsE ((inS (lhS σ c lo hi) c lo hi) 7 3) ro z) : Inv (up3 (ipS (lhS σ c lo hi) c lo hi ord ro) 19 0 c 0) (T + 1) := by
  obtain ⟨⟨o, hK⟩, i2, i3, i4, i5, i6, i7⟩ := hI
  have e73 : ∀ z, (up3 (ipS (lhS σ c lo hi) c lo hi ord ro) 19 0 c 0) 7 3 z = if z = c then 0 else σ 7 3 z := fun z => by
    show (up3 σ 7 3 c 0) 7 3 z = _
    rw [up3_i2]
  have e70 : ∀ z, (up3 (ipS (lhS σ c lo hi) c lo hi ord ro) 19 0 c 0) 7 0 z = if z = c then lo else σ 7 0 z := fun z => by
    show (up3 σ 7 0 c lo) 7 0 z = _
    rw [up3_i2]
  have e71 : ∀ z, (up3 (ipS (lhS σ c lo hi) c lo hi ord ro) 19 0 c 0) 7 1 z = if z = c then hi else σ 7 1 z := fun z => by
    show (up3 σ 7 1 c hi) 7 1 z = _
    rw [up3_i2]
  have e190 : ∀ z, (up3 (ipS (lhS σ c lo hi) c lo hi ord ro) 19 0 c 0) 19 0 z = if z = c then 0 else σ 19 0 z := fun z => by
    show (up3 σ 19 0 c 0) 19 0 z = _
    rw [up3_i2]
  have e191 : ∀ z, (up3 (ipS (lhS σ c lo hi) c lo hi ord ro) 19 0 c 0) 19 1 z = if z = c then lo else σ 19 1 z := fun z => by
    show (up3 σ 19 1 c lo) 19 1 z = _
    rw [up3_i2]
  have e192 : ∀ z, (up3 (ipS (lhS σ c lo hi) c lo hi ord ro) 19 0 c 0) 19 2 z = if z = c then hi else σ 19 2 z := fun z => by
    show (up3 σ 19 2 c hi) 19 2 z = _
    rw [up3_i2]
  have e8 : (up3 (ipS (lhS σ c lo hi) c lo hi ord ro) 19 0 c 0) 5 0 8 = σ 5 0 8 ||| b1 c := rfl
  have hbc : bt (σ 5 0 8 ||| b1 c) c = true := by rw [b_or, bt_b1 (by omega), decide_eq_true rfl, Bool.or_true]
  have hbz : ∀ z, z < 16 → z ≠ c → bt (σ 5 0 8 ||| b1 c) z = bt (σ 5 0 8) z := fun z hz hne => by rw [b_or, bt_b1 (by omega), decide_eq_false hne, Bool.or_false]
  refine ⟨⟨o2, q1, q2, q3, q4, q5, fun z hz => ?_, by rw [e8]; exact m16_or hK.2.2.2.2.2.2 (m16_b1 hc)⟩, fun z hz d h => ?_, fun z hz hb i hi => ?_, fun z hz => ?_, ltK_of (σ := σ) (fun _ _ => rfl) (fun _ _ => rfl) (fun _ _ => rfl) rfl i5, ⟨m16_and i6.1 _, i6.2.1, i6.2.2⟩, ldK_of (σ := σ) rfl (by omega) i7⟩
  · by_cases e : z = c
    · subst e
      refine ⟨fun _ => by rw [e73, if_pos rfl], fun q => ?_⟩
      rw [e8, hbc] at q; cases q
    · exact rd_z (σ := σ) rfl rfl rfl (by rw [e8, hbz z hz e]) (by rw [e73, if_neg e]) (hK.2.2.2.2.2.1 z hz)
  · rw [e73] at h
    by_cases e : z = c
    · rw [if_pos e, b_0] at h; cases h
    · rw [if_neg e] at h
      exact i2 z hz d h
  · by_cases e : z = c
    · subst e
      rw [e8, hbc] at hb; cases hb
    · rw [e8, hbz z hz e] at hb
      exact i3 z hz hb i hi
  · obtain ⟨r1, r2, r3⟩ := i4 z hz
    rw [e8, e190, e191, e192, e70, e71]
    by_cases e : z = c
    · subst e
      rw [hbc]
      simp only [if_true]
      exact ⟨fun _ => ⟨trivial, trivial, trivial⟩, fun q => (by cases q), hlo⟩
    · rw [hbz z hz e]
      simp only [if_neg e]
      exact ⟨r1, r2, r3⟩
theorem inv_set {σ : gSig} {c T : Nat} {v : Int32} (h : Inv σ T) : Inv (up3 σ 7 2 c v) T := Inv_of (σ := σ) (fun _ _ => rfl) (fun _ _ => rfl) (fun _ _ => rfl) rfl rfl rfl rfl rfl rfl (fun _ _ => rfl) (fun _ _ => rfl) (fun _ _ => rfl) rfl rfl rfl rfl rfl rfl (Nat.le_refl _) h
theorem inv_4 {σ : gSig} {T : Nat} {s4 : Nat → Nat → Int32} (h : Inv σ T) : Inv (upF σ 4 s4) T := Inv_of (σ := σ) (fun _ _ => rfl) (fun _ _ => rfl) (fun _ _ => rfl) rfl rfl rfl rfl rfl rfl (fun _ _ => rfl) (fun _ _ => rfl) (fun _ _ => rfl) rfl rfl rfl rfl rfl rfl (Nat.le_refl _) h
theorem inv_T {σ : gSig} {T : Nat} (h : Inv σ T) : Inv σ (T + 1) := Inv_of (σ := σ) (fun _ _ => rfl) (fun _ _ => rfl) (fun _ _ => rfl) rfl rfl rfl rfl rfl rfl (fun _ _ => rfl) (fun _ _ => rfl) (fun _ _ => rfl) rfl rfl rfl rfl rfl rfl (by omega) h
theorem inv_own {σ : gSig} {c T : Nat} {v : Int32} (h : Inv σ T) : Inv (up3 σ 18 0 c v) T := Inv_of (σ := σ) (fun _ _ => rfl) (fun _ _ => rfl) (fun _ _ => rfl) rfl rfl rfl rfl rfl rfl (fun _ _ => rfl) (fun _ _ => rfl) (fun _ _ => rfl) rfl rfl rfl rfl rfl rfl (Nat.le_refl _) h
theorem inv_wv {σ : gSig} {c T : Nat} {dy : Int32} (h : Inv σ T) : Inv (wvS σ c dy) T := Inv_of (σ := σ) (fun _ _ => rfl) (fun _ _ => rfl) (fun _ _ => rfl) rfl rfl rfl rfl rfl rfl (fun _ _ => rfl) (fun _ _ => rfl) (fun _ _ => rfl) rfl rfl rfl rfl rfl rfl (Nat.le_refl _) h
theorem inv_ps {σ : gSig} {T j : Nat} (hj : j ≤ 3) (h : Inv σ T) : Inv (psS σ (nI j)) (T + 1) := by
  obtain ⟨i1, i2, i3, i4, i5, i6, dd, h1, h2⟩ := h
  refine ⟨shE_of (σ := σ) (fun _ _ => rfl) (fun _ _ => rfl) (fun _ _ => rfl) rfl rfl rfl rfl i1, loK_of (σ := σ) rfl i2, ndK_of (σ := σ) (fun _ _ => rfl) (fun _ _ => rfl) rfl i3, lrK_of (σ := σ) rfl rfl rfl rfl rfl rfl i4, ltK_of (σ := σ) (fun _ _ => rfl) (fun _ _ => rfl) (fun _ _ => rfl) rfl i5, lvK_of (σ := σ) rfl rfl rfl rfl i6, dd + j, by omega, ?_⟩
  show σ 17 0 3 + nI j = _
  rw [h2, nI_add]
