/-! ===== rows of whole that serve here too ===== -/
theorem k13_12 {x : Int32} (h : x = 13) : ¬ x < 12 := by rw [h]; decide
theorem wvF_bt (ld : Nat → Int32) (day : Int32) (c : Nat) : ∀ n, n ≤ 16 → bt (wvF ld day n) c = (decide (c < n) && decide (day ≤ ld c))
  | 0, _ => by
    show bt 0 c = _
    rw [b_0]; simp
  | n + 1, hn => by
    have ih := wvF_bt ld day c n (by omega)
    by_cases h : day ≤ ld n
    · rw [wvF_t h, b_or, ih, bt_b1 (by omega)]
      by_cases e : c = n
      · subst e; simp [h]
      · rw [decide_eq_false e, Bool.or_false]
        congr 1
        exact decide_eq_decide.mpr (by omega)
    · rw [wvF_f h, ih]
      by_cases e : c = n
      · subst e; simp [h]
      · congr 1
        exact decide_eq_decide.mpr (by omega)
theorem rsM_congr {kd kd' nm nm' : Nat → Int32} : ∀ {n : Nat}, (∀ i, i < n → kd i = kd' i ∧ (kd i = 13 → nm i = nm' i)) → rsM kd nm n = rsM kd' nm' n
  | 0, _ => rfl
  | n + 1, h => by
    obtain ⟨h1, h2⟩ := h n (by omega)
    unfold rsM
    rw [rsM_congr (fun i hi => h i (by omega)), ← h1]
    by_cases e : kd n = 13
    · rw [if_pos e, if_pos e, h2 e]
    · rw [if_neg e, if_neg e]
theorem nI_one {a b : Nat} (ha : a < 16) (hb : b < 16) (h : nI a = nI b) : a = b := (nI_eq (by omega) (by omega)).mp h
theorem dep_congr {kd kd' : Nat → Int32} : ∀ {n : Nat}, (∀ j, j < n → kd j = kd' j) → dep kd n = dep kd' n
  | 0, _ => rfl
  | n + 1, h => by
    unfold dep
    rw [dep_congr (fun j hj => h j (by omega)), h n (by omega)]
theorem upd_at (f : Nat → Int32) (k : Nat) (x : Int32) (j : Nat) : upd f k x j = if j = k then x else f j := rfl
theorem put_k {σ : gSig} {k : Nat} {kd : Int32} (h : putB σ 16 k kd = true) : k < 12 ∧ (kd < 12 → ¬ σ 1 16 4 < 2) := by
  unfold putB at h
  simp at h
  refine ⟨h.1, fun q => ?_⟩
  rcases h.2 with e | e
  · exact absurd q (Int32.not_lt.mpr e)
  · exact Int32.not_lt.mpr e
theorem up3_if (σ : gSig) (f c i : Nat) (x : Int32) (c' : Nat) : (up3 σ f c i x) f c' i = if c' = c then x else σ f c' i := by
  simp [up3_at]
theorem up3_i2 (σ : gSig) (f r c : Nat) (x : Int32) (z : Nat) : (up3 σ f r c x) f r z = if z = c then x else σ f r z := by
  simp [up3_at]
theorem ve_2 (σ : gSig) (c : Nat) : veC σ c = 2 ↔ bt (σ 13 0 6) c = true := by
  unfold veC
  cases bt (σ 13 0 6) c with
  | true => simp
  | false => cases bt (σ 13 0 5) c <;> decide
theorem ve_1 (σ : gSig) (c : Nat) : veC σ c = 1 ↔ bt (σ 13 0 6) c = false ∧ bt (σ 13 0 5) c = true := by
  unfold veC
  cases bt (σ 13 0 6) c with
  | true => simp
  | false => cases bt (σ 13 0 5) c <;> simp
theorem bt_clr {c i : Nat} (hc : c < 32) (hi : i < 32) (x : Int32) : bt (x &&& (b1 c ^^^ (-1))) i = (bt x i && !decide (i = c)) := by rw [b_and, bt_not _ hi, bt_b1 hc]
theorem nI_nm1 {a : Nat} (h : a < 2 ^ 31) : ¬ nI a = -1 := fun q => by
  have := nI_pos h
  rw [q] at this
  exact this (by decide)
theorem rd_z {σ σ' : gSig} {z : Nat} (h1 : σ' 1 z 3 = σ 1 z 3) (h2 : σ' 2 z = σ 2 z) (h3 : σ' 3 z = σ 3 z) (h5 : bt (σ' 5 0 8) z = bt (σ 5 0 8) z) (h7 : σ' 7 3 z = σ 7 3 z) (h : rdK σ z) : rdK σ' z := by
  unfold rdK frK flen at *
  rw [h1, h2, h3, h5, h7]
  exact h
theorem okP_congr {kd kd' nm nm' : Nat → Int32} {n : Nat} (h : ∀ j, j < n → kd j = kd' j ∧ (kd j = 13 → nm j = nm' j)) (hk : okP kd nm n) : okP kd' nm' n := fun i hi => by
  obtain ⟨a, b, c⟩ := hk i hi
  obtain ⟨e, f⟩ := h i hi
  rw [← e]
  refine ⟨a, fun q => ?_, fun q => ?_⟩
  · rw [← dep_congr (kd := kd) (fun j hj => (h j (by omega)).1)]; exact b q
  · rw [← f q]; exact c q
theorem shK_of16 {σ σ' : gSig} {o : Nat → Nat} (h1 : ∀ c, c < 16 → σ' 1 c 3 = σ 1 c 3) (h2 : ∀ c, c < 16 → σ' 2 c = σ 2 c) (h3 : ∀ c, c < 16 → σ' 3 c = σ 3 c) (h5 : σ' 5 0 8 = σ 5 0 8) (h73 : σ' 7 3 = σ 7 3) (h74 : σ' 7 4 = σ 7 4) (h75 : σ' 7 5 = σ 7 5) (h : shK σ o) : shK σ' o := by
  obtain ⟨a, b, c, d, e, f, g⟩ := h
  refine ⟨by rw [h75]; exact a, by rw [h73]; exact b, c, d, by rw [h73, h74]; exact e, fun z hz => ?_, by rw [h5]; exact g⟩
  have := f z hz
  unfold rdK frK flen at *
  rw [h1 z hz, h2 z hz, h3 z hz, h5, h73]
  exact this
