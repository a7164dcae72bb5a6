/-! ===== what tell, drop and attempt leave; enter and input called ===== -/
abbrev tlS (σ : gSig) (c q : Nat) (kd nn : Int32) : gSig := teS (up3 σ 19 3 c (nI (q + 1))) c q kd nn
theorem inv_tell {σ : gSig} {c q T : Nat} {kd nn : Int32} (hI : Inv σ T) (hc : c < 16) (hq : plK σ c q) (hq4 : q < 4) (hkd : ¬ kd < 0 ∧ kd ≤ 3) (hnn : kd = 2 ∨ kd = 3 → isC nn) : Inv (tlS σ c q kd nn) (T + 1) := by
  obtain ⟨i1, i2, i3, i4, i5, i6, i7⟩ := hI
  have e10 : ∀ z, (tlS σ c q kd nn) 10 z 2 = if z = c then nI (q + 1) else σ 10 z 2 := fun z => by simp [tlS, teS, addS, up3_at]
  have e11 : ∀ z p, (tlS σ c q kd nn) 11 z p = if z = c ∧ p = q then kd else σ 11 z p := fun z p => by simp [tlS, teS, addS, up3_at]
  have e12 : ∀ z p, (tlS σ c q kd nn) 12 z p = if z = c ∧ p = q then nn else σ 12 z p := fun z p => by simp [tlS, teS, addS, up3_at]
  have e193 : ∀ z, (tlS σ c q kd nn) 19 3 z = if z = c then nI (q + 1) else σ 19 3 z := fun z => by simp [tlS, teS, addS, up3_at]
  refine ⟨shE_of (σ := σ) (fun _ _ => rfl) (fun _ _ => rfl) (fun _ _ => rfl) rfl rfl rfl rfl i1, loK_of (σ := σ) rfl i2, ndK_of (σ := σ) (fun _ _ => rfl) (fun _ _ => rfl) rfl i3, lrK_of (σ := σ) rfl rfl rfl rfl rfl rfl i4, fun z hz => ?_, ⟨?_, i6.2.1, i6.2.2⟩, ldK_of (σ := σ) rfl (by omega) i7⟩
  · by_cases e : z = c
    · subst e
      refine ⟨q + 1, ⟨by rw [e10, if_pos rfl], by omega, fun p hp => ?_⟩, by rw [e193, if_pos rfl]⟩
      rw [e11, e12]
      by_cases e2 : p = q
      · rw [if_pos ⟨rfl, e2⟩, if_pos ⟨rfl, e2⟩]
        exact ⟨hkd, hnn⟩
      · rw [if_neg (fun h => e2 h.2), if_neg (fun h => e2 h.2)]
        exact hq.2.2 p (by omega)
    · obtain ⟨q2, ⟨h1, h2, h3⟩, h4⟩ := i5 z hz
      refine ⟨q2, ⟨by rw [e10, if_neg e]; exact h1, h2, fun p hp => ?_⟩, by rw [e193, if_neg e]; exact h4⟩
      rw [e11, e12, if_neg (fun h => e h.1), if_neg (fun h => e h.1)]
      exact h3 p hp
  · have e5 : (tlS σ c q kd nn) 13 0 5 = σ 13 0 5 &&& (b1 c ^^^ (-1)) := by simp [tlS, teS, addS, up3_at]
    rw [e5]
    exact m16_and i6.1 _
abbrev dpS (σ : gSig) (c : Nat) : gSig := up3 (up3 σ 10 c 2 0) 19 3 c 0
theorem inv_drop {σ : gSig} {c T : Nat} (hI : Inv σ T) (hc : c < 16) : Inv (dpS σ c) (T + 1) := by
  obtain ⟨i1, i2, i3, i4, i5, i6, i7⟩ := hI
  have e10 : ∀ z, (dpS σ c) 10 z 2 = if z = c then 0 else σ 10 z 2 := fun z => by simp [dpS, up3_at]
  have e193 : ∀ z, (dpS σ c) 19 3 z = if z = c then 0 else σ 19 3 z := fun z => by simp [dpS, up3_at]
  refine ⟨shE_of (σ := σ) (fun _ _ => rfl) (fun _ _ => rfl) (fun _ _ => rfl) rfl rfl rfl rfl i1, loK_of (σ := σ) rfl i2, ndK_of (σ := σ) (fun _ _ => rfl) (fun _ _ => rfl) rfl i3, lrK_of (σ := σ) rfl rfl rfl rfl rfl rfl i4, fun z hz => ?_, lvK_of (σ := σ) rfl rfl rfl rfl i6, ldK_of (σ := σ) rfl (by omega) i7⟩
  by_cases e : z = c
  · subst e
    exact ⟨0, ⟨by rw [e10, if_pos rfl]; rfl, by omega, fun p hp => absurd hp (Nat.not_lt_zero p)⟩, by rw [e193, if_pos rfl]; rfl⟩
  · obtain ⟨q2, ⟨h1, h2, h3⟩, h4⟩ := i5 z hz
    exact ⟨q2, ⟨by rw [e10, if_neg e]; exact h1, h2, h3⟩, by rw [e193, if_neg e]; exact h4⟩
/-! a trial's row stays within the ranges -/
theorem msF_le {step : (Nat → Int32) → Option (Nat → Int32)} : ∀ k row, (msF step k row).1 ≤ k
  | 0, _ => Nat.le_refl 0
  | k + 1, row => by
    cases h : step row with
    | none => rw [msF_none h]; omega
    | some r =>
      rw [msF_some h]
      have := msF_le (step := step) k r
      show (msF step k r).1 + 1 ≤ k + 1
      omega
theorem msF_rw {inp : Nat → Bool} {lo hi : Nat → Int32} {step : (Nat → Int32) → Option (Nat → Int32)} (hs : ∀ row r, rwK inp lo hi row → step row = some r → rwK inp lo hi r) : ∀ k row, rwK inp lo hi row → rwK inp lo hi (msF step k row).2
  | 0, _, h => h
  | k + 1, row, h => by
    cases h1 : step row with
    | none => rw [msF_none h1]; exact h
    | some r =>
      rw [msF_some h1]
      exact msF_rw hs k r (hs row r h h1)
/-- how an attempt ends -/
theorem at_inv {σ σ' : gSig} {τ τ' : gTau} {o : Nat → Nat} {c q sd R T : Nat} {r : Option Value} (hI : Inv σ T) (hq : plK σ c q) (hc : c < 16) (hsd : sd < 7875) (hR : R ≤ 20) (h : atQ σ τ o c q sd R r σ' τ') :
    (r = some (.int (-1)) ∧ Inv σ' (T + 1) ∧ bt (σ' 13 0 6) c = false ∧ bt (σ' 13 0 5) c = true ∧ σ' 19 = σ 19) ∨
    ∃ a p, a < R ∧ p < q ∧ r = some (.int (nI a)) ∧ Inv σ' (T + 1) ∧ bt (σ' 13 0 6) c = true ∧ σ' 14 1 c = nI p ∧ σ' 19 = σ 19 ∧ ∀ k, k < 16 → bt (σ 5 0 8) k = true → bt (σ' 14 3 c) k = true ∧ σ 19 1 k ≤ σ' 16 c k ∧ σ' 16 c k ≤ σ 19 2 k := by
  obtain ⟨i1, i2, i3, i4, i5, i6, i7⟩ := hI
  have hrg := inv_rg i4
  obtain ⟨σ1, hrun, hu1, hu2⟩ := h
  rcases hrun with ⟨s4, t8, bk, hall, hr, rfl, rfl⟩ | ⟨a, p, s4, t8, ha, hp, hb4, hz, hf, hr, rfl, rfl⟩
  · left
    have e5 : ∀ z, z < 16 → bt (σ 13 0 5 ||| b1 c) z = (bt (σ 13 0 5) z || decide (z = c)) := fun z hz => by rw [b_or, bt_b1 (by omega)]
    have e6 : ∀ z, z < 16 → bt (σ 13 0 6 &&& (b1 c ^^^ (-1))) z = (bt (σ 13 0 6) z && !decide (z = c)) := fun z hz => bt_clr (by omega) (by omega) _
    have key : ∀ σ' : gSig, (∀ c, c < 16 → σ' 1 c 3 = σ 1 c 3) → (∀ c, c < 16 → σ' 2 c = σ 2 c) → (∀ c, c < 16 → σ' 3 c = σ 3 c) → σ' 5 0 8 = σ 5 0 8 → σ' 7 = σ 7 → (∀ c, c < 16 → σ' 10 c 2 = σ 10 c 2) → (∀ c, c < 16 → σ' 11 c = σ 11 c) → (∀ c, c < 16 → σ' 12 c = σ 12 c) → σ' 13 0 5 = σ 13 0 5 ||| b1 c → σ' 13 0 6 = σ 13 0 6 &&& (b1 c ^^^ (-1)) → σ' 14 1 = σ 14 1 → σ' 14 2 = σ 14 2 → σ' 17 0 3 = σ 17 0 3 → σ' 19 = σ 19 → Inv σ' (T + 1) ∧ bt (σ' 13 0 6) c = false ∧ bt (σ' 13 0 5) c = true ∧ σ' 19 = σ 19 := by
      intro σ' h1 h2 h3 h5 h7 h10 h11 h12 h135 h136 h141 h142 h17 h19
      refine ⟨⟨shE_of (σ := σ) h1 h2 h3 h5 (by rw [h7]) (by rw [h7]) (by rw [h7]) i1, loK_of (σ := σ) (by rw [h7]) i2, ndK_of (σ := σ) h1 h2 h5 i3, lrK_of (σ := σ) h5 (by rw [h7]) (by rw [h7]) (by rw [h19]) (by rw [h19]) (by rw [h19]) i4, ltK_of (σ := σ) h10 h11 h12 (by rw [h19]) i5, ⟨by rw [h135]; exact m16_or i6.1 (m16_b1 hc), by rw [h136]; exact m16_and i6.2.1 _, fun z hz hb => ?_⟩, ldK_of (σ := σ) h17 (by omega) i7⟩, ?_, ?_, h19⟩
      · rw [h136, e6 z hz, Bool.and_eq_true] at hb
        rw [h141, h142]
        exact i6.2.2 z hz hb.1
      · rw [h136, e6 c hc, decide_eq_true rfl]; simp
      · rw [h135, e5 c hc, decide_eq_true rfl]; simp
    refine ⟨hr.symm, ?_⟩
    by_cases hb6 : bt (σ 13 0 6) c = true
    · obtain ⟨g, rfl, hg⟩ := hu1 ⟨hb6, hr.symm⟩
      exact key _ (fun _ _ => rfl) (fun _ _ => rfl) (fun _ _ => rfl) rfl rfl (fun _ _ => rfl) (fun _ _ => rfl) (fun _ _ => rfl) rfl rfl rfl rfl rfl rfl
    · obtain rfl := hu2 (fun z => hb6 z.1)
      exact key _ (fun _ _ => rfl) (fun _ _ => rfl) (fun _ _ => rfl) rfl rfl (fun _ _ => rfl) (fun _ _ => rfl) (fun _ _ => rfl) rfl rfl rfl rfl rfl rfl
  · right
    have hqq := hq.2.1
    have hrw := trR_rw (row := σ 14 0) hsd hrg a
    have hrw2 : rwK (inpC σ) (σ 7 0) (σ 7 1) (msF (ssC σ c p c) 60 (trC σ sd (a + 1)).1).2 := msF_rw (fun row r h1 h2 => ssF_rw hrg h1 16 0 r (by omega) h2) 60 _ hrw
    have hle := msF_le (step := ssC σ c p c) 60 (trC σ sd (a + 1)).1
    have hcond : ¬ (bt (σ 13 0 6) c = true ∧ r = some (.int (-1))) := fun z => nI_nm1 (a := a) (by omega) (Value.int.inj (Option.some.inj (hr.trans z.2)))
    obtain rfl := hu2 hcond
    generalize hrow : (msF (ssC σ c p c) 60 (trC σ sd (a + 1)).1).2 = row at hrw2
    generalize hcnt : (msF (ssC σ c p c) 60 (trC σ sd (a + 1)).1).1 = t at hle
    generalize hdd : (trC σ sd (a + 1)).2 = d9
    have e5 : (kfS (tS (brS σ (nI p)) row d9 s4) c (nI p) (nI t) (σ 5 0 8)) 13 0 5 = σ 13 0 5 &&& (b1 c ^^^ (-1)) := rfl
    have e6 : (kfS (tS (brS σ (nI p)) row d9 s4) c (nI p) (nI t) (σ 5 0 8)) 13 0 6 = σ 13 0 6 ||| b1 c := rfl
    have e141 : ∀ z, (kfS (tS (brS σ (nI p)) row d9 s4) c (nI p) (nI t) (σ 5 0 8)) 14 1 z = if z = c then nI p else σ 14 1 z := fun z => by
      show (up3 σ 14 1 c (nI p)) 14 1 z = _
      rw [up3_i2]
    have e142 : ∀ z, (kfS (tS (brS σ (nI p)) row d9 s4) c (nI p) (nI t) (σ 5 0 8)) 14 2 z = if z = c then nI t else σ 14 2 z := fun z => by
      show (up3 σ 14 2 c (nI t)) 14 2 z = _
      rw [up3_i2]
    have e143 : ∀ z, (kfS (tS (brS σ (nI p)) row d9 s4) c (nI p) (nI t) (σ 5 0 8)) 14 3 z = if z = c then σ 5 0 8 else σ 14 3 z := fun z => by
      show (up3 σ 14 3 c (σ 5 0 8)) 14 3 z = _
      rw [up3_i2]
    have e16 : ∀ i, i < 16 → (kfS (tS (brS σ (nI p)) row d9 s4) c (nI p) (nI t) (σ 5 0 8)) 16 c i = row i := fun i hi => by
      show (upR σ 16 c (va_cpy row (σ 16 c) 0 0 16)) 16 c i = _
      rw [upR_self]
      unfold va_cpy
      rw [if_pos (by omega)]
      congr 1
      omega
    refine ⟨a, p, ha, hp, hr.symm, ⟨shE_of (σ := σ) (fun _ _ => rfl) (fun _ _ => rfl) (fun _ _ => rfl) rfl rfl rfl rfl i1, loK_of (σ := σ) rfl i2, ndK_of (σ := σ) (fun _ _ => rfl) (fun _ _ => rfl) rfl i3, lrK_of (σ := σ) rfl rfl rfl rfl rfl rfl i4, ltK_of (σ := σ) (fun _ _ => rfl) (fun _ _ => rfl) (fun _ _ => rfl) rfl i5, ⟨by rw [e5]; exact m16_and i6.1 _, by rw [e6]; exact m16_or i6.2.1 (m16_b1 hc), fun z hz hb => ?_⟩, ldK_of (σ := σ) rfl (by omega) i7⟩, ?_, by rw [e141, if_pos rfl], rfl, fun k hk hin => ⟨by rw [e143, if_pos rfl]; exact hin, ?_⟩⟩
    · rw [e141, e142]
      by_cases e : z = c
      · rw [if_pos e, if_pos e]
        exact ⟨⟨p, by omega, rfl⟩, t, hle, rfl⟩
      · rw [if_neg e, if_neg e]
        rw [e6, b_or, bt_b1 (by omega), decide_eq_false e, Bool.or_false] at hb
        exact i6.2.2 z hz hb
    · rw [e6, b_or, bt_b1 (by omega), decide_eq_true rfl, Bool.or_true]
    · rw [e16 k hk]
      obtain ⟨-, g1, g2⟩ := (i4 k hk).1 hin
      rw [← g1, ← g2]
      exact hrw2 k hk hin
set_option maxRecDepth 100000 in
set_option maxHeartbeats 4000000 in
theorem v_enter {l : Launch} {D : va_G} {ad : Nat → Nat → Nat} {aC : Nat → ClassId} (σ : gSig) (τ : gTau) (c k : Nat) (hc : c < 16) (o : Nat → Nat) (hK : shK σ o) (hlo : loK σ) (h5 : m16 (σ 13 0 5)) (hd : drK σ c k) (hk2 : k ≤ 12) (h1 : dep (σ 2 16) k = 1) : VT l D ad aC yX5_enter cX5_enter 2 (some .int) 8 2 [.ref (ad 0 0), .int (nI c)] σ τ (fun r σ2 τ2 => ∃ ord ro o2 x, m16 x ∧ ordI ord o2 16 ∧ ordT ((fmS σ c k) 7 3) o2 16 ∧ ordJ o2 16 ∧ ordS o2 ∧ (∀ z, z < 16 → rsE ((fmS σ c k) 7 3) ro z) ∧ some (.int (bcJ x)) = r ∧ enS σ c k ord ro = σ2 ∧ τ = τ2) :=
  ⟨_, _, c_enter σ τ (nI c) k hd.1 hk2 (fun c2 hc2 h => hn_en hK (dr_rd hd).1 c2 hc2 h), fun r σ2 τ2 ⟨c2, hc2, e, _, ord, ro, o2, q1, q2, q3, q4, q5, h1, h2, h3⟩ => by
    obtain rfl := nI_one hc hc2 e
    exact ⟨ord, ro, o2, _, m16_and h5 _, q1, q2, q3, q4, q5, h1, h2, h3⟩, fun E σ2 τ2 ⟨h, _⟩ => by
    rcases h with ⟨_, h⟩ | ⟨_, c2, hc2, e, h⟩
    · exact h (isC_of hc)
    · obtain rfl := nI_one hc hc2 e
      exact h (en_ok hK hlo hd h1)⟩
set_option maxRecDepth 100000 in
set_option maxHeartbeats 4000000 in
theorem v_input {l : Launch} {D : va_G} {ad : Nat → Nat → Nat} {aC : Nat → ClassId} (σ : gSig) (τ : gTau) (c : Nat) (lo hi : Int32) (hc : c < 16) (o : Nat → Nat) (hK : shK σ o) (h5 : m16 (σ 13 0 5)) (hr : (-1000000 : Int32) ≤ lo ∧ lo ≤ hi ∧ hi ≤ 1000000) : VT l D ad aC yX5_input cX5_input 4 (some .int) 8 2 [.ref (ad 0 0), .int (nI c), .int lo, .int hi] σ τ (fun r σ2 τ2 => ∃ ord ro o2 x, m16 x ∧ ordI ord o2 16 ∧ ordT ((inS σ c lo hi) 7 3) o2 16 ∧ ordJ o2 16 ∧ ordS o2 ∧ (∀ z, z < 16 → rsE ((inS σ c lo hi) 7 3) ro z) ∧ some (.int (bcJ x)) = r ∧ ipS σ c lo hi ord ro = σ2 ∧ τ = τ2) :=
  ⟨_, _, c_input σ τ (nI c) lo hi (fun c2 lo2 hi2 hc2 => hn_in hK c2 lo2 hi2 hc2), fun r σ2 τ2 ⟨c2, hc2, e, _, ord, ro, o2, q1, q2, q3, q4, q5, h1, h2, h3⟩ => by
    obtain rfl := nI_one hc hc2 e
    exact ⟨ord, ro, o2, _, m16_and h5 _, q1, q2, q3, q4, q5, h1, h2, h3⟩, fun E σ2 τ2 ⟨h, _⟩ => by
    rcases h with ⟨_, h⟩ | ⟨_, c2, hc2, e, h⟩
    · exact h (isC_of hc)
    · exact h hr⟩
theorem bc_pos {x : Int32} (h : m16 x) : ¬ bcJ x < 0 := by
  rw [bcJ_cn h]
  have := cnB_le (bt x) 16
  exact nI_pos (by omega)
