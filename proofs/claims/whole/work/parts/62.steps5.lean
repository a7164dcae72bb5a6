/-! ===== the step attempt: printed by g62.py ===== -/
theorem inB_congr {rd rd' : Nat → Int32} (h : ∀ c, c < 16 → rd c = rd' c) (x : Nat) (ρ : List Nat) : ∀ j, j ≤ 16 → inB rd x ρ j = inB rd' x ρ j
  | 0, _ => rfl
  | j + 1, hj => by
    unfold inB
    rw [inB_congr h x ρ j (by omega), h j (by omega)]
theorem bfs_congr {rd rd' : Nat → Int32} (h : ∀ c, c < 16 → rd c = rd' c) : ∀ f i (ρ : List Nat), bfs rd f i ρ = bfs rd' f i ρ
  | 0, _, _ => rfl
  | f + 1, i, ρ => by
    cases hx : ρ[i]? with
    | none => rw [bfs_end hx, bfs_end hx]
    | some x => rw [bfs_go hx, bfs_go hx, inB_congr h x ρ 16 (Nat.le_refl _), bfs_congr h f]
theorem unL_congr {rd rd' : Nat → Int32} (h : ∀ c, c < 16 → rd c = rd' c) (c : Nat) (F : Int32) : unL rd c F = unL rd' c F := by
  unfold unL
  rw [bfs_congr h]
theorem unL_len (rd : Nat → Int32) {c : Nat} (hc : c < 16) (F : Int32) : (unL rd c F).length ≤ 16 := by
  obtain ⟨a, b⟩ := bfs_ok (rd := rd) 16 0 [c] (by simp) (fun x hx => by simp at hx; omega)
  exact nodup_len (a.filter _) (fun x hx => b x (List.mem_filter.mp hx).1)
theorem un_eq {σ : gSig} (hR : Rel σ) {o o' : Nat → Nat} (hK : shK σ o) (hM : moK σ o') {c : Nat} (hc : c < 16) : unL (σ 7 3) c (lcC σ o &&& (lkF (σ 7 3) (σ 13 0 6 &&& (b1 c ^^^ (-1))) (wvF (σ 18 1) (σ 17 0 3) 16) o 16 ^^^ (-1))) = unL (mR σ) c (mlk σ (flM σ) (wvM σ) o' &&& (mlk σ (flM σ &&& (b1 c ^^^ (-1))) (wvM σ) o' ^^^ (-1))) := by
  have e : lkF (σ 7 3) (σ 13 0 6 &&& (b1 c ^^^ (-1))) (wvF (σ 18 1) (σ 17 0 3) 16) o 16 = mlk σ (flM σ &&& (b1 c ^^^ (-1))) (wvM σ) o' := by
    unfold mlk
    exact lk_same (fun z hz => rel_rd hR.2.1 hz) (fun z hz => by rw [b_and, b_and, rel_fl hR.2.2.2.1 hz]) (fun z hz => rel_wv hR.2.2.2.2.1 hz) (fun z hz => rel_m16 hR.2.1 hz) (fun i hi => (hK.1 i hi).2) hK.2.2.1 hK.2.2.2.1 hK.2.1 (fun i hi => (hM.1 i hi).2) hM.2.2.1 hM.2.2.2.1 hM.2.1
  rw [e, rel_lk hR hK hM]
  exact unL_congr (fun z hz => rel_rd hR.2.1 hz) c _
theorem at_pass {σ : gSig} (hR : Rel σ) {c : Nat} (hc : c < 16) (rowC : Nat → Int32) (d : Nat) (s4 : Nat → Nat → Int32) (rowM vs fs st : Nat → Int32) : Rel (mpS (up3 (up3 (up3 (tS σ rowC d s4) 13 0 6 (σ 13 0 6 &&& (b1 c ^^^ (-1)))) 13 0 5 (σ 13 0 5 ||| b1 c)) 19 0 0 0) rowM vs fs st c) := by
  obtain ⟨a9, b9, c9, d9, e9, f9⟩ := hR
  refine ⟨rDr_of (σ := σ) rfl rfl rfl rfl rfl rfl rfl rfl a9, rSh_of (σ := σ) (fun _ _ => rfl) (fun _ _ => rfl) (fun _ _ => rfl) rfl rfl rfl rfl rfl rfl rfl rfl rfl rfl rfl rfl b9, rPr_of (σ := σ) (fun _ _ => rfl) rfl rfl rfl rfl rfl c9, ?_, rDk_of (σ := σ) rfl rfl rfl rfl rfl rfl rfl rfl e9, rUn_of (σ := σ) rfl rfl rfl rfl f9⟩
  obtain ⟨g1, g2, g3⟩ := d9
  refine ⟨m16_or g1 (m16_b1 hc), m16_and g2 _, fun z hz => ?_⟩
  obtain ⟨h1, h2, h3, h4⟩ := g3 z hz
  have e5 : bt ((mpS (up3 (up3 (up3 (tS σ rowC d s4) 13 0 6 (σ 13 0 6 &&& (b1 c ^^^ (-1)))) 13 0 5 (σ 13 0 5 ||| b1 c)) 19 0 0 0) rowM vs fs st c) 13 0 5) z = (bt (σ 13 0 5) z || decide (z = c)) := by
    show bt (σ 13 0 5 ||| b1 c) z = _
    rw [b_or, bt_b1 (by omega)]
  have e6 : bt ((mpS (up3 (up3 (up3 (tS σ rowC d s4) 13 0 6 (σ 13 0 6 &&& (b1 c ^^^ (-1)))) 13 0 5 (σ 13 0 5 ||| b1 c)) 19 0 0 0) rowM vs fs st c) 13 0 6) z = (bt (σ 13 0 6) z && !decide (z = c)) := bt_clr (by omega) (by omega) _
  have n12 : (mpS (up3 (up3 (up3 (tS σ rowC d s4) 13 0 6 (σ 13 0 6 &&& (b1 c ^^^ (-1)))) 13 0 5 (σ 13 0 5 ||| b1 c)) 19 0 0 0) rowM vs fs st c) 20 12 z = if z = c then 1 else σ 20 12 z := by
    show (up3 σ 20 12 c 1) 20 12 z = _
    rw [up3_i2]
  have n15 : (mpS (up3 (up3 (up3 (tS σ rowC d s4) 13 0 6 (σ 13 0 6 &&& (b1 c ^^^ (-1)))) 13 0 5 (σ 13 0 5 ||| b1 c)) 19 0 0 0) rowM vs fs st c) 20 15 z = if z = c then -1 else σ 20 15 z := by
    show (up3 σ 20 15 c (-1)) 20 15 z = _
    rw [up3_i2]
  unfold veC
  rw [e5, e6, n12, n15]
  by_cases e : z = c
  · rw [decide_eq_true e, if_pos e, if_pos e, Bool.not_true, Bool.and_false, Bool.or_true]
    exact ⟨fun q => (by cases q), rfl, fun q => (by cases q), fun _ => rfl⟩
  · rw [decide_eq_false e, if_neg e, if_neg e, Bool.not_false, Bool.and_true, Bool.or_false]
    exact ⟨h1, h2, h3, h4⟩
theorem at_un {σ : gSig} (hR : Rel σ) {c : Nat} (hc : c < 16) {rowC : Nat → Int32} {d : Nat} {s4 : Nat → Nat → Int32} {rowM vs fs st g g2 u : Nat → Int32} {L L2 : List Nat} (hL : L = L2) (hl : L.length ≤ 16) (h1 : onL g L) (h2 : onL u L2) : Rel (ulS (mpS (up3 (kS (up3 (up3 (tS σ rowC d s4) 13 0 6 (σ 13 0 6 &&& (b1 c ^^^ (-1)))) 13 0 5 (σ 13 0 5 ||| b1 c)) g L.length) 19 0 0 0) rowM vs fs st c) g2 u L2.length) := by
  subst hL
  obtain ⟨a9, b9, c9, d9, e9, f9⟩ := at_pass hR hc rowC d s4 rowM vs fs st
  refine ⟨rDr_of (σ := (mpS (up3 (up3 (up3 (tS σ rowC d s4) 13 0 6 (σ 13 0 6 &&& (b1 c ^^^ (-1)))) 13 0 5 (σ 13 0 5 ||| b1 c)) 19 0 0 0) rowM vs fs st c)) rfl rfl rfl rfl rfl rfl rfl rfl a9, rSh_of (σ := (mpS (up3 (up3 (up3 (tS σ rowC d s4) 13 0 6 (σ 13 0 6 &&& (b1 c ^^^ (-1)))) 13 0 5 (σ 13 0 5 ||| b1 c)) 19 0 0 0) rowM vs fs st c)) (fun _ _ => rfl) (fun _ _ => rfl) (fun _ _ => rfl) rfl rfl rfl rfl rfl rfl rfl rfl rfl rfl rfl rfl b9, rPr_of (σ := (mpS (up3 (up3 (up3 (tS σ rowC d s4) 13 0 6 (σ 13 0 6 &&& (b1 c ^^^ (-1)))) 13 0 5 (σ 13 0 5 ||| b1 c)) 19 0 0 0) rowM vs fs st c)) (fun _ _ => rfl) rfl rfl rfl rfl rfl c9, rVe_of (σ := (mpS (up3 (up3 (up3 (tS σ rowC d s4) 13 0 6 (σ 13 0 6 &&& (b1 c ^^^ (-1)))) 13 0 5 (σ 13 0 5 ||| b1 c)) 19 0 0 0) rowM vs fs st c)) rfl rfl rfl rfl rfl rfl rfl rfl rfl rfl rfl d9, rDk_of (σ := (mpS (up3 (up3 (up3 (tS σ rowC d s4) 13 0 6 (σ 13 0 6 &&& (b1 c ^^^ (-1)))) 13 0 5 (σ 13 0 5 ||| b1 c)) 19 0 0 0) rowM vs fs st c)) rfl rfl rfl rfl rfl rfl rfl rfl e9, ⟨L.length, hl, rfl, rfl, fun j hj => ?_⟩⟩
  show g j = u j
  rw [h1 j _ (List.getElem?_eq_getElem hj), h2 j _ (List.getElem?_eq_getElem hj)]
theorem at_fail {σ : gSig} (hR : Rel σ) {c : Nat} (hc : c < 16) {rowC : Nat → Int32} {d : Nat} {s4 : Nat → Nat → Int32} {rowM vs fs st : Nat → Int32} {pp kk kk2 : Int32} (hkk : kk = kk2) (hA : Ag σ rowC rowM) : Rel (mxS (up3 (kfS (tS σ rowC d s4) c pp kk (σ 5 0 8)) 19 0 0 0) rowM vs fs st c pp kk2 16) := by
  subst hkk
  obtain ⟨a9, b9, c9, d9, e9, f9⟩ := hR
  refine ⟨rDr_of (σ := σ) rfl rfl rfl rfl rfl rfl rfl rfl a9, rSh_of (σ := σ) (fun _ _ => rfl) (fun _ _ => rfl) (fun _ _ => rfl) rfl rfl rfl rfl rfl rfl rfl rfl rfl rfl rfl rfl b9, rPr_of (σ := σ) (fun _ _ => rfl) rfl rfl rfl rfl rfl c9, ?_, rDk_of (σ := σ) rfl rfl rfl rfl rfl rfl rfl rfl e9, rUn_of (σ := σ) rfl rfl rfl rfl f9⟩
  obtain ⟨g1, g2, g3⟩ := d9
  refine ⟨m16_and g1 _, m16_or g2 (m16_b1 hc), fun z hz => ?_⟩
  obtain ⟨h1, h2, h3, h4⟩ := g3 z hz
  have e5 : bt ((mxS (up3 (kfS (tS σ rowC d s4) c pp kk (σ 5 0 8)) 19 0 0 0) rowM vs fs st c pp kk 16) 13 0 5) z = (bt (σ 13 0 5) z && !decide (z = c)) := bt_clr (by omega) (by omega) _
  have e6 : bt ((mxS (up3 (kfS (tS σ rowC d s4) c pp kk (σ 5 0 8)) 19 0 0 0) rowM vs fs st c pp kk 16) 13 0 6) z = (bt (σ 13 0 6) z || decide (z = c)) := by
    show bt (σ 13 0 6 ||| b1 c) z = _
    rw [b_or, bt_b1 (by omega)]
  have e141 : (mxS (up3 (kfS (tS σ rowC d s4) c pp kk (σ 5 0 8)) 19 0 0 0) rowM vs fs st c pp kk 16) 14 1 z = if z = c then pp else σ 14 1 z := by
    show (up3 σ 14 1 c pp) 14 1 z = _
    rw [up3_i2]
  have e142 : (mxS (up3 (kfS (tS σ rowC d s4) c pp kk (σ 5 0 8)) 19 0 0 0) rowM vs fs st c pp kk 16) 14 2 z = if z = c then kk else σ 14 2 z := by
    show (up3 σ 14 2 c kk) 14 2 z = _
    rw [up3_i2]
  have e143 : (mxS (up3 (kfS (tS σ rowC d s4) c pp kk (σ 5 0 8)) 19 0 0 0) rowM vs fs st c pp kk 16) 14 3 z = if z = c then σ 5 0 8 else σ 14 3 z := by
    show (up3 σ 14 3 c (σ 5 0 8)) 14 3 z = _
    rw [up3_i2]
  have e16c : ∀ i, i < 16 → z = c → (mxS (up3 (kfS (tS σ rowC d s4) c pp kk (σ 5 0 8)) 19 0 0 0) rowM vs fs st c pp kk 16) 16 z i = rowC i := fun i hi e => by
    subst e
    show (upR σ 16 z (va_cpy rowC (σ 16 z) 0 0 16)) 16 z i = _
    rw [upR_self]
    unfold va_cpy
    rw [if_pos (by omega)]
    congr 1
    omega
  have e16n : ¬ z = c → (mxS (up3 (kfS (tS σ rowC d s4) c pp kk (σ 5 0 8)) 19 0 0 0) rowM vs fs st c pp kk 16) 16 z = σ 16 z := fun e => by
    show (upR σ 16 c (va_cpy rowC (σ 16 c) 0 0 16)) 16 z = _
    exact upR_ne _ _ _ _ (fun q => e (congrArg Prod.snd q))
  have n12 : (mxS (up3 (kfS (tS σ rowC d s4) c pp kk (σ 5 0 8)) 19 0 0 0) rowM vs fs st c pp kk 16) 20 12 z = if z = c then 2 else σ 20 12 z := by
    show (up3 σ 20 12 c 2) 20 12 z = _
    rw [up3_i2]
  have n13 : (mxS (up3 (kfS (tS σ rowC d s4) c pp kk (σ 5 0 8)) 19 0 0 0) rowM vs fs st c pp kk 16) 20 13 z = if z = c then pp else σ 20 13 z := by
    show (up3 σ 20 13 c pp) 20 13 z = _
    rw [up3_i2]
  have n16 : (mxS (up3 (kfS (tS σ rowC d s4) c pp kk (σ 5 0 8)) 19 0 0 0) rowM vs fs st c pp kk 16) 20 16 z = if z = c then kk else σ 20 16 z := by
    show (up3 σ 20 16 c kk) 20 16 z = _
    rw [up3_i2]
  have n15 : (mxS (up3 (kfS (tS σ rowC d s4) c pp kk (σ 5 0 8)) 19 0 0 0) rowM vs fs st c pp kk 16) 20 15 z = if z = c then inM (mIn σ) 16 else σ 20 15 z := by
    show (up3 σ 20 15 c (inM (mIn σ) 16)) 20 15 z = _
    rw [up3_i2]
  have n14 : ∀ i, (mxS (up3 (kfS (tS σ rowC d s4) c pp kk (σ 5 0 8)) 19 0 0 0) rowM vs fs st c pp kk 16) 20 14 i = cpR (σ 20 14) rowM (16 * c) 16 i := fun _ => rfl
  unfold veC
  rw [e5, e6, e141, e142, e143, n12, n13, n15, n16]
  by_cases e : z = c
  · rw [decide_eq_true e, if_pos e, if_pos e, if_pos e, if_pos e, if_pos e, if_pos e, if_pos e, Bool.not_true, Bool.and_false, Bool.or_true]
    refine ⟨fun _ => rfl, rfl, fun _ => ⟨rfl, rfl, fun q => ?_, fun i hi => ⟨?_, fun q => ?_⟩⟩, fun q => (by cases q)⟩
    · have h9 := inM_m16 (mIn σ) 16 (Nat.le_refl _)
      rw [q, b_m1 16 (by decide)] at h9; cases h9
    · rw [inM_in _ hi]; exact rel_inp b9 hi
    · rw [e16c i hi e, n14, e]
      unfold cpR
      rw [if_pos (by omega), Nat.add_sub_cancel_left]
      exact hA i hi ((rel_inp b9 hi).symm.trans q)
  · rw [decide_eq_false e, if_neg e, if_neg e, if_neg e, if_neg e, if_neg e, if_neg e, if_neg e, Bool.not_false, Bool.and_true, Bool.or_false]
    refine ⟨h1, h2, fun q => ?_, h4⟩
    obtain ⟨k1, k2, k3, k4⟩ := h3 q
    refine ⟨k1, k2, k3, fun i hi => ⟨(k4 i hi).1, fun q2 => ?_⟩⟩
    rw [e16n e, n14]
    unfold cpR
    rw [if_neg (by omega)]
    exact (k4 i hi).2 q2
theorem nI_nm1 {a : Nat} (h : a < 2 ^ 31) : ¬ nI a = -1 := fun q => by
  have := nI_pos h
  rw [q] at this
  exact this (by decide)
theorem rel_br {σ : gSig} (hR : Rel σ) (b : Int32) : Rel (brS σ b) := by
  obtain ⟨a9, b9, c9, d9, e9, f9⟩ := hR
  exact ⟨rDr_of rfl rfl rfl rfl rfl rfl rfl rfl a9, rSh_of (fun _ _ => rfl) (fun _ _ => rfl) (fun _ _ => rfl) rfl rfl rfl rfl rfl rfl rfl rfl rfl rfl rfl rfl b9, rPr_of (fun _ _ => rfl) rfl rfl rfl rfl rfl c9, rVe_of rfl rfl rfl rfl rfl rfl rfl rfl rfl rfl rfl d9, rDk_of rfl rfl rfl rfl rfl rfl rfl rfl e9, rUn_of rfl rfl rfl rfl f9⟩
theorem s_attempt {σ σ1 σ2 : gSig} {τ τ1 τ2 : gTau} {cl sd ro : Int32} {k0 b : Int32} (hR : Rel σ) {o o' : Nat → Nat} (hK : shK σ o) (hM : moK σ o') (h1 : wrQ [xIOB, xIAE] (fun r σ' τ' => ∃ c sdn Rn q, c < 16 ∧ cl = nI c ∧ sd = nI sdn ∧ ro = nI Rn ∧ sdn < 7875 ∧ Rn ≤ 20 ∧ ((¬ sd < 0 ∧ sd < 7875) ∧ (1 ≤ ro ∧ ro ≤ 20)) ∧ plK σ c q ∧ atQ σ τ o c q sdn Rn r σ' τ') (fun E σ' τ' => ((E = xIOB ∧ ¬ isC cl) ∨ (E = xIAE ∧ ∃ c, c < 16 ∧ cl = nI c ∧ ¬ ((¬ sd < 0 ∧ sd < 7875) ∧ (1 ≤ ro ∧ ro ≤ 20)))) ∧ σ = σ' ∧ τ = τ') (some (.int k0)) σ1 τ1) (h2 : (fun r σ' τ' => (¬ isC cl ∧ thQ σ1 τ1 1 r σ' τ') ∨ (isC cl ∧ ¬ (((0 : Int32) ≤ sd ∧ sd ≤ 7874) ∧ ((1 : Int32) ≤ ro ∧ ro ≤ 20)) ∧ thQ σ1 τ1 2 r σ' τ') ∨ ∃ c sdn Rn q, c < 16 ∧ cl = nI c ∧ sd = nI sdn ∧ ro = nI Rn ∧ sdn < 7875 ∧ Rn ≤ 20 ∧ (((0 : Int32) ≤ sd ∧ sd ≤ 7874) ∧ ((1 : Int32) ≤ ro ∧ ro ≤ 20)) ∧ mpK σ1 c q ∧ maQ (up3 σ1 19 0 0 0) τ1 (flM σ1) (wvM σ1) o' c q sdn Rn r σ' τ') (some (.int b)) σ2 τ2) : Stq k0 b σ2 τ2 := by
  obtain ⟨a9, b9, c9, d9, e9, f9⟩ := id hR
  have go : ((¬ sd < 0 ∧ sd < 7875) ∧ (1 ≤ ro ∧ ro ≤ 20)) ↔ (((0 : Int32) ≤ sd ∧ sd ≤ 7874) ∧ ((1 : Int32) ≤ ro ∧ ro ≤ 20)) := by
    rw [Int32.not_lt]
    refine and_congr (and_congr Iff.rfl ?_) Iff.rfl
    rw [fa_lt, fa_le]
    have e1 : (7875 : Int32).toInt = 7875 := by decide
    have e2 : (7874 : Int32).toInt = 7874 := by decide
    omega
  rcases h1 with ⟨x, τ', ⟨c, sdn, Rn, q, hc, rfl, rfl, rfl, hs, hR20, hok, hq, σB, hrun, hu1, hu2⟩, hk0, rfl⟩ | ⟨E, i, hi, ⟨hp, rfl, rfl⟩, hk0⟩
  · rcases h2 with ⟨hn, -⟩ | ⟨-, hn, -⟩ | ⟨c2, sdn2, Rn2, q3, hc2, e2, es, er, hs2, hR2, -, hq3, hτ, hm⟩
    · exact no_C hc rfl hn
    · exact absurd (go.mp hok) hn
    obtain rfl := nI_one hc hc2 e2
    obtain rfl : sdn = sdn2 := (nI_eq (by omega) (by omega)).mp es
    obtain rfl : Rn = Rn2 := (nI_eq (by omega) (by omega)).mp er
    cases hk0
    obtain ⟨q2, p1, p2, -⟩ := c9 c hc
    have hq4 := hq.2.1
    have hq24 := p1.2.1
    have eq2 : q2 = q := (nI_eq (by omega) (by omega)).mp (p1.1.symm.trans hq.1)
    subst eq2
    have hpr : ∀ a z, z < q2 → prC σ c z c (trC σ sdn (a + 1)).1 = prM σ c z (trM σ sdn (a + 1)).1 := fun a z hz => rel_prC b9 c9 (rel_trR b9 sdn a) hc hq hz
    have hoka : ∀ a, okA σ c q2 sdn a ↔ okM σ c q2 sdn a := fun a => ⟨fun h z hz => by rw [← hpr a z hz]; exact h z hz, fun h z hz => by rw [hpr a z hz]; exact h z hz⟩
    have hve : bt (σ 13 0 6) c = true ↔ σ 20 12 c = 2 := by rw [(d9.2.2 c hc).2.1, ve_2]
    have hq34 := hq3.2.1
    rcases hrun with ⟨s4, t8, bk, hall, hr, rfl, rfl⟩ | ⟨a, p, s4, t8, ha, hp, hb4, hz, hf, hr, rfl, rfl⟩
    · by_cases hb6 : bt (σ 13 0 6) c = true
      · obtain ⟨g, rfl, hg⟩ := hu1 ⟨hb6, hr.symm⟩
        have eq3 : q2 = q3 := (nI_eq (by omega) (by omega)).mp (p2.1.symm.trans hq3.1)
        subst eq3
        rcases hm with ⟨vs, fs, st, -, hb, ⟨h9, -⟩ | ⟨-, g2, u, rfl, hu⟩⟩ | ⟨a, p, vs, fs, st, ha, hp, -, -, hf, -⟩
        · exact absurd (hve.mp hb6) h9
        · exact st_ok (at_un (σ := brS σ bk) (rel_br hR bk) hc (un_eq (σ := brS σ bk) (rel_br hR bk) hK hM hc) (unL_len _ hc _) hg hu) rfl hr hb hτ
        · have h8 := (hoka a).mp (hall a ha) p hp
          cases h8.symm.trans hf
      · obtain rfl := hu2 (fun z => hb6 z.1)
        have eq3 : q2 = q3 := (nI_eq (by omega) (by omega)).mp (p2.1.symm.trans hq3.1)
        subst eq3
        rcases hm with ⟨vs, fs, st, -, hb, ⟨-, rfl⟩ | ⟨h9, -⟩⟩ | ⟨a, p, vs, fs, st, ha, hp, -, -, hf, -⟩
        · exact st_ok (at_pass (σ := brS σ bk) (rel_br hR bk) hc _ _ _ _ _ _ _) rfl hr hb hτ
        · exact absurd (hve.mpr h9) hb6
        · have h8 := (hoka a).mp (hall a ha) p hp
          cases h8.symm.trans hf
    · obtain rfl := hu2 (fun z => by
        have h8 := hr.trans z.2
        exact nI_nm1 (by omega) (Value.int.inj (Option.some.inj h8)))
      have eq3 : q2 = q3 := (nI_eq (by omega) (by omega)).mp (p2.1.symm.trans hq3.1)
      subst eq3
      have hf9 : prM σ c p (trM σ sdn (a + 1)).1 = false := (hpr a p hp).symm.trans hf
      rcases hm with ⟨vs, fs, st, hall2, -⟩ | ⟨a2, pz, vs, fs, st, ha2, hp2, hb42, hz2, hf2, hb, rfl⟩
      · have h8 : okM σ c q2 sdn a := hall2 a ha
        cases (h8 p hp).symm.trans hf9
      · have hf29 : prM σ c pz (trM σ sdn (a2 + 1)).1 = false := hf2
        have ea : a = a2 := by
          rcases Nat.lt_trichotomy a a2 with h | h | h
          · have h8 : okM σ c q2 sdn a := hb42 a h
            cases (h8 p hp).symm.trans hf9
          · exact h
          · have h8 := (hoka a2).mp (hb4 a2 h)
            cases (h8 pz hp2).symm.trans hf29
        subst ea
        have ep : p = pz := by
          rcases Nat.lt_trichotomy p pz with h | h | h
          · have h8 : prM σ c p (trM σ sdn (a + 1)).1 = true := hz2 p h
            cases h8.symm.trans hf9
          · exact h
          · have h8 := (hpr a pz hp2).symm.trans (hz pz h)
            cases h8.symm.trans hf29
        subst ep
        obtain ⟨hkk, hAg⟩ := rel_msF (fun r r' h => rel_ss b9 c9 hc hq hp h) 60 (rel_trR b9 sdn a (row := σ 14 0) (row' := σ 20 22))
        exact st_ok (at_fail (σ := brS σ (nI p)) (rel_br hR (nI p)) hc (congrArg nI hkk) hAg) rfl hr hb hτ
  · rcases hp with ⟨rfl, hn⟩ | ⟨rfl, c, hc, rfl, hrg⟩
    · obtain rfl := cs_ix (by decide) hi 0 rfl
      rcases h2 with ⟨-, h2⟩ | ⟨h3, -⟩ | ⟨c2, sdn2, Rn2, q3, hc2, e2, -⟩
      · exact st_thr hR 0 (by decide) hk0 h2 rfl
      · exact absurd h3 hn
      · exact no_C hc2 e2 hn
    · obtain rfl := cs_ix (by decide) hi 1 rfl
      rcases h2 with ⟨hn, -⟩ | ⟨-, -, h2⟩ | ⟨c2, sdn2, Rn2, q3, hc2, e2, -, -, -, -, h3, -⟩
      · exact no_C hc rfl hn
      · exact st_thr hR 1 (by decide) hk0 h2 rfl
      · exact absurd (go.mpr h3) hrg
