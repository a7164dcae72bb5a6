/-! ===== bits counted, masks by predicates, closures ===== -/
/-- how many of the first bits stand -/
def cnB (p : Nat → Bool) : Nat → Nat
  | 0 => 0
  | n + 1 => cnB p n + (if p n then 1 else 0)
theorem cnB_congr {p q : Nat → Bool} : ∀ {n : Nat}, (∀ i, i < n → p i = q i) → cnB p n = cnB q n
  | 0, _ => rfl
  | n + 1, h => by
    unfold cnB
    rw [cnB_congr (fun i hi => h i (by omega)), h n (by omega)]
theorem cnB_le (p : Nat → Bool) : ∀ n, cnB p n ≤ n
  | 0 => Nat.le_refl 0
  | n + 1 => by
    unfold cnB
    have := cnB_le p n
    split <;> omega
theorem bt_nI {k : Nat} (hk : k < 2 ^ 31) (i : Nat) : bt (nI k) i = k.testBit i := by
  unfold bt
  rw [show (nI k).toBitVec = BitVec.ofNat 32 k from rfl, BitVec.getLsbD_ofNat]
  rcases Nat.lt_or_ge i 32 with h | h
  · simp [h]
  · rw [Nat.testBit_lt_two_pow (Nat.lt_of_lt_of_le hk (Nat.pow_le_pow_right (by decide) (by omega)))]
    simp
theorem nI_shr (n : Nat) (hn : n < 32) {k : Nat} (hk : k < 2 ^ 31) : ((nI k).toUInt32 >>> ((nI n).toUInt32 &&& Int32.toUInt32 31)).toInt32 = nI (k >>> n) := by
  apply b_ext
  intro i hi
  have h2 : k >>> n < 2 ^ 31 := Nat.lt_of_le_of_lt (Nat.shiftRight_le k n) hk
  rw [b_ushr n hn, bt_nI hk, bt_nI h2, Nat.testBit_shiftRight]
theorem nI_andN {a b : Nat} (ha : a < 2 ^ 31) (hb : b < 2 ^ 31) : nI a &&& nI b = nI (a &&& b) := by
  apply b_ext
  intro i hi
  rw [b_and, bt_nI ha, bt_nI hb, bt_nI (Nat.lt_of_le_of_lt Nat.and_le_left ha), Nat.testBit_and]
theorem nI_subN {a b : Nat} (h : b ≤ a) : nI a - nI b = nI (a - b) := by
  have e : nI (a - b) + nI b = nI a := by rw [nI_add, Nat.sub_add_cancel h]
  rw [← e]
  exact Int32.add_sub_cancel _ _
def bcN (k : Nat) : Nat :=
  let a := k - ((k >>> 1) &&& 1431655765)
  let b := (a &&& 858993459) + ((a >>> 2) &&& 858993459)
  let c := (b + (b >>> 4)) &&& 252645135
  let d := c + (c >>> 8)
  (d + (d >>> 16)) &&& 63
theorem bcJ_N {k : Nat} (hk : k < 65536) : bcJ (nI k) = nI (bcN k) := by
  have e1 : bc1 (nI k) = nI (k - ((k >>> 1) &&& 1431655765)) := by
    unfold bc1
    rw [show (1 : Int32) = nI 1 from rfl, nI_shr 1 (by decide) (by omega), show (1431655765 : Int32) = nI 1431655765 from rfl, nI_andN (Nat.lt_of_le_of_lt (Nat.shiftRight_le k 1) (by omega)) (by decide)]
    exact nI_subN (Nat.le_trans Nat.and_le_left (Nat.shiftRight_le k 1))
  have hA : k - ((k >>> 1) &&& 1431655765) < 65536 := by omega
  generalize hAe : k - ((k >>> 1) &&& 1431655765) = a at e1 hA
  have e2 : bc2 (nI a) = nI ((a &&& 858993459) + ((a >>> 2) &&& 858993459)) := by
    unfold bc2
    rw [show (2 : Int32) = nI 2 from rfl, nI_shr 2 (by decide) (by omega), show (858993459 : Int32) = nI 858993459 from rfl, nI_andN (by omega) (by decide), nI_andN (Nat.lt_of_le_of_lt (Nat.shiftRight_le a 2) (by omega)) (by decide), nI_add]
  have hB : (a &&& 858993459) + ((a >>> 2) &&& 858993459) < 131072 := by
    have h1 : a &&& 858993459 ≤ a := Nat.and_le_left
    have h2 : (a >>> 2) &&& 858993459 ≤ a := Nat.le_trans Nat.and_le_left (Nat.shiftRight_le a 2)
    omega
  generalize hBe : (a &&& 858993459) + ((a >>> 2) &&& 858993459) = b at e2 hB
  have e3 : bc3 (nI b) = nI ((b + (b >>> 4)) &&& 252645135) := by
    unfold bc3
    rw [show (4 : Int32) = nI 4 from rfl, nI_shr 4 (by decide) (by omega), nI_add, show (252645135 : Int32) = nI 252645135 from rfl, nI_andN (by have := Nat.shiftRight_le b 4; omega) (by decide)]
  have hC : (b + (b >>> 4)) &&& 252645135 < 262144 := by
    have h1 : (b + (b >>> 4)) &&& 252645135 ≤ b + (b >>> 4) := Nat.and_le_left
    have := Nat.shiftRight_le b 4
    omega
  generalize hCe : (b + (b >>> 4)) &&& 252645135 = c at e3 hC
  have e4 : bc4 (nI c) = nI (c + (c >>> 8)) := by
    unfold bc4
    rw [show (8 : Int32) = nI 8 from rfl, nI_shr 8 (by decide) (by omega), nI_add]
  have hD : c + (c >>> 8) < 524288 := by have := Nat.shiftRight_le c 8; omega
  generalize hDe : c + (c >>> 8) = d at e4 hD
  have e5 : bc5 (nI d) &&& (63 : Int32) = nI ((d + (d >>> 16)) &&& 63) := by
    unfold bc5
    rw [show (16 : Int32) = nI 16 from rfl, nI_shr 16 (by decide) (by omega), nI_add, show (63 : Int32) = nI 63 from rfl, nI_andN (by have := Nat.shiftRight_le d 16; omega) (by decide)]
  unfold bcJ bcN
  rw [e1, e2, e3, e4, e5]
  simp only [hAe, hBe, hCe, hDe]
def on16 (k : Nat) : Nat := k / 1 % 2 + k / 2 % 2 + k / 4 % 2 + k / 8 % 2 + k / 16 % 2 + k / 32 % 2 + k / 64 % 2 + k / 128 % 2 + k / 256 % 2 + k / 512 % 2 + k / 1024 % 2 + k / 2048 % 2 + k / 4096 % 2 + k / 8192 % 2 + k / 16384 % 2 + k / 32768 % 2
def lpT (f : Nat → Bool) : Nat → Bool
  | 0 => true
  | n + 1 => f n && lpT f n
theorem lpT_all {f : Nat → Bool} : ∀ {n : Nat}, lpT f n = true → ∀ k, k < n → f k = true
  | 0, _, k, hk => absurd hk (Nat.not_lt_zero k)
  | n + 1, h, k, hk => by
    have h2 : (f n && lpT f n) = true := h
    rw [Bool.and_eq_true] at h2
    by_cases e : k = n
    · subst e; exact h2.1
    · exact lpT_all h2.2 k (by omega)
def bcT (m a : Nat) : Bool := lpT (fun b => Nat.beq (bcN (256 * (32 * m + a) + b)) (on16 (256 * (32 * m + a) + b))) 256
theorem bcT_0 : lpT (bcT 0) 32 = true := by decide +kernel
theorem bcT_1 : lpT (bcT 1) 32 = true := by decide +kernel
theorem bcT_2 : lpT (bcT 2) 32 = true := by decide +kernel
theorem bcT_3 : lpT (bcT 3) 32 = true := by decide +kernel
theorem bcT_4 : lpT (bcT 4) 32 = true := by decide +kernel
theorem bcT_5 : lpT (bcT 5) 32 = true := by decide +kernel
theorem bcT_6 : lpT (bcT 6) 32 = true := by decide +kernel
theorem bcT_7 : lpT (bcT 7) 32 = true := by decide +kernel
theorem bcN_all {k : Nat} (hk : k < 65536) : bcN k = on16 k := by
  have hm : ∀ m, m < 8 → lpT (bcT m) 32 = true := fun m hm => match m, hm with
    | 0, _ => bcT_0
    | 1, _ => bcT_1
    | 2, _ => bcT_2
    | 3, _ => bcT_3
    | 4, _ => bcT_4
    | 5, _ => bcT_5
    | 6, _ => bcT_6
    | 7, _ => bcT_7
    | m + 8, h => absurd h (by omega)
  have h1 := lpT_all (hm (k / 8192) (by omega)) (k / 256 % 32) (by omega)
  have h2 := lpT_all h1 (k % 256) (by omega)
  have e : 256 * (32 * (k / 8192) + k / 256 % 32) + k % 256 = k := by omega
  rw [e] at h2
  exact Nat.eq_of_beq_eq_true h2
theorem tb_mod (k i : Nat) : (if k.testBit i = true then 1 else 0) = k / 2 ^ i % 2 := by
  rw [Nat.testBit_eq_decide_div_mod_eq]
  have := Nat.mod_lt (k / 2 ^ i) (show 2 > 0 by decide)
  by_cases h : k / 2 ^ i % 2 = 1
  · simp [h]
  · rw [if_neg (by simpa using h)]
    omega
theorem on16_cn (k : Nat) : on16 k = cnB (Nat.testBit k) 16 := by
  unfold on16
  simp only [cnB, tb_mod]
  simp
theorem m16_nI {x : Int32} (h : m16 x) : ∃ k, k < 65536 ∧ x = nI k := by
  refine ⟨x.toBitVec.toNat, ?_, ?_⟩
  · show x.toBitVec.toNat < 2 ^ 16
    refine Nat.lt_pow_two_of_testBit _ (fun i hi => ?_)
    exact h i hi
  · apply Int32.toBitVec_inj.mp
    show x.toBitVec = BitVec.ofNat 32 x.toBitVec.toNat
    simp
theorem bcJ_cn {x : Int32} (h : m16 x) : bcJ x = nI (cnB (bt x) 16) := by
  obtain ⟨k, hk, rfl⟩ := m16_nI h
  rw [bcJ_N hk, bcN_all hk, on16_cn]
  congr 1
  exact cnB_congr (fun i _ => (bt_nI (by omega) i).symm)
/-! closures -/
theorem scR_sub (rd : Nat → Int32) (R : Int32) {e : Nat} (h : bt R e = true) : ∀ n, bt (scR rd R n) e = true
  | 0 => h
  | n + 1 => by
    have ih := scR_sub rd R h n
    cases hb : bt (scR rd R n) n with
    | true => rw [scR_t hb, b_or, ih]; rfl
    | false => rw [scR_f hb]; exact ih
theorem scR_rd (rd : Nat → Int32) (R : Int32) {e d : Nat} (h : bt R e = true) (hr : bt (rd e) d = true) : ∀ n, e < n → bt (scR rd R n) d = true
  | 0, hn => absurd hn (Nat.not_lt_zero e)
  | n + 1, hn => by
    by_cases q : e = n
    · subst q
      rw [scR_t (scR_sub rd R h e), b_or, hr, Bool.or_true]
    · have ih := scR_rd rd R h hr n (by omega)
      cases hb : bt (scR rd R n) n with
      | true => rw [scR_t hb, b_or, ih]; rfl
      | false => rw [scR_f hb]; exact ih
theorem scR_ind (rd : Nat → Int32) (R : Int32) (P : Nat → Prop) (h0 : ∀ e, bt R e = true → P e) (h1 : ∀ e d, e < 16 → P e → bt (rd e) d = true → P d) : ∀ n, n ≤ 16 → ∀ e, bt (scR rd R n) e = true → P e
  | 0, _, e, h => h0 e h
  | n + 1, hn, e, h => by
    have ih := scR_ind rd R P h0 h1 n (by omega)
    cases hb : bt (scR rd R n) n with
    | true =>
      rw [scR_t hb, b_or, Bool.or_eq_true] at h
      rcases h with h | h
      · exact ih e h
      · exact h1 n e (by omega) (ih n hb) h
    | false => rw [scR_f hb] at h; exact ih e h
theorem clR_ind (rd : Nat → Int32) (R : Int32) (P : Nat → Prop) (h0 : ∀ e, bt R e = true → P e) (h1 : ∀ e d, e < 16 → P e → bt (rd e) d = true → P d) : ∀ n e, bt (clR rd R n) e = true → P e
  | 0, e, h => h0 e h
  | n + 1, e, h => scR_ind rd (clR rd R n) P (clR_ind rd R P h0 h1 n) h1 16 (Nat.le_refl _) e h
theorem clR_up (rd : Nat → Int32) (R : Int32) {e : Nat} {n : Nat} (h : bt (clR rd R n) e = true) : ∀ k, bt (clR rd R (n + k)) e = true
  | 0 => h
  | k + 1 => scR_sub rd _ (clR_up rd R h k) 16
theorem clR_le (rd : Nat → Int32) (R : Int32) {e n m : Nat} (hnm : n ≤ m) (h : bt (clR rd R n) e = true) : bt (clR rd R m) e = true := by
  have := clR_up rd R h (m - n)
  rwa [Nat.add_sub_cancel' hnm] at this
theorem clR_st (rd : Nat → Int32) (R : Int32) {e d n : Nat} (he : e < 16) (h : bt (clR rd R n) e = true) (hr : bt (rd e) d = true) : bt (clR rd R (n + 1)) d = true := scR_rd rd _ h hr 16 he
/-- with a rank, sixteen rounds are enough -/
theorem clR_early {rd : Nat → Int32} {R : Int32} {rk : Nat → Nat} (hR : m16 R) (hm : ∀ c, c < 16 → m16 (rd c)) (hk : ∀ c, c < 16 → rk c < 16) (hrk : ∀ c d, c < 16 → d < 16 → bt (rd c) d = true → rk d < rk c) (n : Nat) : ∀ e, bt (clR rd R n) e = true → e < 16 ∧ bt (clR rd R (15 - rk e)) e = true := by
  refine clR_ind rd R (fun e => e < 16 ∧ bt (clR rd R (15 - rk e)) e = true) (fun e h => ?_) (fun e d he hp hr => ?_) n
  · have he : e < 16 := by
      rcases Nat.lt_or_ge e 16 with q | q
      · exact q
      · rw [hR e q] at h; cases h
    exact ⟨he, clR_le rd R (Nat.zero_le _) (show bt (clR rd R 0) e = true from h)⟩
  · have hd : d < 16 := by
      rcases Nat.lt_or_ge d 16 with q | q
      · exact q
      · rw [hm e he d q] at hr; cases hr
    have h1 := hrk e d he hd hr
    have h2 := hk e he
    exact ⟨hd, clR_le rd R (show 15 - rk e + 1 ≤ 15 - rk d by omega) (clR_st rd R he hp.2 hr)⟩
theorem clR_closed {rd : Nat → Int32} {R : Int32} {rk : Nat → Nat} (hR : m16 R) (hm : ∀ c, c < 16 → m16 (rd c)) (hk : ∀ c, c < 16 → rk c < 16) (hrk : ∀ c d, c < 16 → d < 16 → bt (rd c) d = true → rk d < rk c) {e d : Nat} (h : bt (clR rd R 16) e = true) (hr : bt (rd e) d = true) : bt (clR rd R 16) d = true := by
  obtain ⟨he, h2⟩ := clR_early hR hm hk hrk 16 e h
  exact clR_le rd R (show 15 - rk e + 1 ≤ 16 by omega) (clR_st rd R he h2 hr)
theorem clR_m16 {rd : Nat → Int32} {R : Int32} (hR : m16 R) (hm : ∀ c, c < 16 → m16 (rd c)) (n : Nat) : m16 (clR rd R n) := fun i hi => by
  cases hb : bt (clR rd R n) i with
  | false => rfl
  | true =>
    exfalso
    have := clR_ind rd R (fun e => e < 16) (fun e h => by
      rcases Nat.lt_or_ge e 16 with q | q
      · exact q
      · rw [hR e q] at h; cases h) (fun e d he _ hr => by
      rcases Nat.lt_or_ge d 16 with q | q
      · exact q
      · rw [hm e he d q] at hr; cases hr) n i hb
    omega
/-- what the class keeps of it is the closure -/
theorem clR_rest {rd ro : Nat → Int32} {o : Nat → Nat} {R : Int32} (hT : ordT rd o 16) (hJ : ordJ o 16) (hS : ordS o) (hro : ∀ c, c < 16 → rsE rd ro c) (hm : ∀ c, c < 16 → m16 (rd c)) (hR : m16 R) : clR rd R 16 = rotF ro R 16 := by
  obtain ⟨rk, hk, hrk⟩ := ord_rk hJ hS hT
  have hM : m16 (rotF ro R 16) := fun i hi => by
    rw [rotF_bt, hR i hi, Bool.false_or]
    cases hq : anyB (fun e => bt R e && bt (ro e) i) 16 with
    | false => rfl
    | true =>
      obtain ⟨e, he, h2⟩ := anyB_true.mp hq
      rw [Bool.and_eq_true, (hro e he).1 i hi] at h2
      cases h2.2
  refine m16_ext (clR_m16 hR hm 16) hM (fun i hi => ?_)
  apply Bool.eq_iff_iff.mpr
  constructor
  · refine clR_ind rd R (fun e => bt (rotF ro R 16) e = true) (fun e h => by rw [rotF_bt, h]; rfl) (fun e d he hp hr => ?_) 16 i
    rw [rotF_bt, Bool.or_eq_true] at hp ⊢
    right
    rcases hp with hp | hp
    · exact anyB_true.mpr ⟨e, he, by rw [hp, rs_rd (hro e he) hr]; rfl⟩
    · obtain ⟨x, hx, h2⟩ := anyB_true.mp hp
      rw [Bool.and_eq_true] at h2
      obtain ⟨j, hj, rfl⟩ := hS x hx
      exact anyB_true.mpr ⟨o j, hx, by rw [h2.1, rs_trans hT hS hro (j + 1) j (by omega) hj e d he h2.2 hx hr]; rfl⟩
  · intro h
    rw [rotF_bt, Bool.or_eq_true] at h
    rcases h with h | h
    · exact clR_le rd R (Nat.zero_le 16) (show bt (clR rd R 0) i = true from h)
    · obtain ⟨e, he, h2⟩ := anyB_true.mp h
      rw [Bool.and_eq_true] at h2
      have go : ∀ n e d, e < 16 → rk e < n → bt (clR rd R 16) e = true → bt (ro e) d = true → bt (clR rd R 16) d = true := by
        intro n
        induction n with
        | zero => intro e d _ h; omega
        | succ n ih =>
          intro e d he hn h3 h4
          rcases rs_cases (hro e he) h4 with h5 | ⟨x, hx, h5, h6⟩
          · exact clR_closed hR hm hk hrk h3 h5
          · exact ih x d hx (by have := hrk e x he hx h5; omega) (clR_closed hR hm hk hrk h3 h5) h6
      exact go (rk e + 1) e i he (by omega) (clR_le rd R (Nat.zero_le 16) (show bt (clR rd R 0) e = true from h2.1)) h2.2
theorem clR_ro {rd ro : Nat → Int32} {o : Nat → Nat} (hT : ordT rd o 16) (hJ : ordJ o 16) (hS : ordS o) (hro : ∀ c, c < 16 → rsE rd ro c) (hm : ∀ c, c < 16 → m16 (rd c)) {c : Nat} (hc : c < 16) : clR rd (rd c) 16 = ro c := by
  rw [clR_rest hT hJ hS hro hm (hm c hc)]
  refine m16_ext (fun i hi => ?_) (hro c hc).1 (fun i hi => by rw [rotF_bt, (hro c hc).2 i])
  rw [rotF_bt, ← (hro c hc).2 i, (hro c hc).1 i hi]
theorem scR_congr {rd rd' : Nat → Int32} (h : ∀ c, c < 16 → rd c = rd' c) (R : Int32) : ∀ n, n ≤ 16 → scR rd R n = scR rd' R n
  | 0, _ => rfl
  | n + 1, hn => by
    unfold scR
    rw [scR_congr h R n (by omega), h n (by omega)]
theorem clR_congr {rd rd' : Nat → Int32} (h : ∀ c, c < 16 → rd c = rd' c) (R : Int32) : ∀ n, clR rd R n = clR rd' R n
  | 0 => rfl
  | n + 1 => by
    show scR rd (clR rd R n) 16 = scR rd' (clR rd' R n) 16
    rw [clR_congr h R n, scR_congr h _ 16 (Nat.le_refl _)]
/-- locked by ways -/
theorem ways_lk {rd : Nat → Int32} {fl wv L : Int32} {rk : Nat → Nat} (hm : ∀ c, c < 16 → m16 (rd c)) (hf : m16 fl) (hk : ∀ c, c < 16 → rk c < 16) (hrk : ∀ c d, c < 16 → d < 16 → bt (rd c) d = true → rk d < rk c) (hL : ∀ c, c < 16 → lkE rd fl wv L c) {c : Nat} (hc : c < 16) : (!decide (clR (fun d => rd d &&& (wv ^^^ (-1))) (b1 c &&& (wv ^^^ (-1))) 16 &&& fl = 0)) = bt L c := by
  have hm' : ∀ d, d < 16 → m16 (rd d &&& (wv ^^^ (-1))) := fun d hd => m16_and (hm d hd) _
  have hR' : m16 (b1 c &&& (wv ^^^ (-1))) := m16_and (m16_b1 hc) _
  have hrk' : ∀ e d, e < 16 → d < 16 → bt (rd e &&& (wv ^^^ (-1))) d = true → rk d < rk e := fun e d he hd h => hrk e d he hd (by rw [b_and, Bool.and_eq_true] at h; exact h.1)
  have hA := clR_m16 hR' hm' 16
  have hn : ∀ e, e < 16 → bt (wv ^^^ (-1)) e = !bt wv e := fun e he => bt_not wv (by omega)
  rw [and_any hA]
  apply Bool.eq_iff_iff.mpr
  constructor
  · intro h
    obtain ⟨x, hx, h2⟩ := anyB_true.mp h
    rw [Bool.and_eq_true] at h2
    have key := clR_ind (fun d => rd d &&& (wv ^^^ (-1))) (b1 c &&& (wv ^^^ (-1))) (fun e => e < 16 → bt wv e = false ∧ (bt L e = true → bt L c = true)) (fun e h3 he => by
      rw [b_and, Bool.and_eq_true, bt_b1 (by omega), hn e he] at h3
      have e1 : e = c := by simpa using h3.1
      subst e1
      exact ⟨by simpa using h3.2, fun z => z⟩) (fun e d he hp hr hd => by
      rw [b_and, Bool.and_eq_true, hn d hd] at hr
      refine ⟨by simpa using hr.2, fun hLd => (hp he).2 ?_⟩
      rw [hL e he, (hp he).1, Bool.not_false, Bool.true_and, Bool.or_eq_true]
      exact Or.inr (anyB_true.mpr ⟨d, hd, by rw [hr.1, hLd]; rfl⟩)) 16 x h2.1 hx
    refine key.2 ?_
    rw [hL x hx, key.1, h2.2]
    rfl
  · intro h
    have go : ∀ n e, e < 16 → rk e < n → bt (clR (fun d => rd d &&& (wv ^^^ (-1))) (b1 c &&& (wv ^^^ (-1))) 16) e = true → bt L e = true → anyB (fun d => bt (clR (fun d => rd d &&& (wv ^^^ (-1))) (b1 c &&& (wv ^^^ (-1))) 16) d && bt fl d) 16 = true := by
      intro n
      induction n with
      | zero => intro e _ h; omega
      | succ n ih =>
        intro e he hnk h3 h4
        rw [hL e he, Bool.and_eq_true, Bool.or_eq_true] at h4
        rcases h4.2 with h5 | h5
        · exact anyB_true.mpr ⟨e, he, by rw [h3, h5]; rfl⟩
        · obtain ⟨d, hd, h6⟩ := anyB_true.mp h5
          rw [Bool.and_eq_true] at h6
          have h7 := h6.2
          rw [hL d hd, Bool.and_eq_true] at h7
          exact ih d hd (by have := hrk e d he hd h6.1; omega) (clR_closed hR' hm' hk hrk' h3 (by rw [b_and, h6.1, hn d hd, h7.1]; rfl)) h6.2
    have h8 := h
    rw [hL c hc, Bool.and_eq_true] at h8
    exact go (rk c + 1) c hc (by omega) (clR_le _ _ (Nat.zero_le 16) (show bt (b1 c &&& (wv ^^^ (-1))) c = true from by rw [b_and, bt_b1 (by omega), hn c hc, h8.1]; simp)) h
