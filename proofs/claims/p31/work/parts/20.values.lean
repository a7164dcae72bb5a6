/-! ===== the values of all cells, properties, rows of trials, and how they are made smaller: words for both sides ===== -/
theorem evN_congr {V V' : Nat → Option Int32} {kd kd' nm nm' : Nat → Int32} : ∀ {n : Nat}, (∀ q, q < n → kd q = kd' q ∧ (kd q = 12 → nm q = nm' q) ∧ (kd q = 13 → nm q = nm' q ∧ V (nm q).toNatClampNeg = V' (nm q).toNatClampNeg)) → evN V kd nm n = evN V' kd' nm' n
  | 0, _ => rfl
  | n + 1, h => by
    show (evN V kd nm n).bind _ = (evN V' kd' nm' n).bind _
    rw [evN_congr (fun q hq => h q (by omega))]
    congr 1
    funext st
    obtain ⟨h1, h2, h3⟩ := h n (by omega)
    unfold evS
    rw [← h1]
    by_cases e : kd n = 12
    · rw [if_pos e, if_pos e, h2 e]
    · rw [if_neg e, if_neg e]
      by_cases e2 : kd n = 13
      · rw [if_pos e2, if_pos e2, ← (h3 e2).1, (h3 e2).2]
      · rw [if_neg e2, if_neg e2]
theorem evF_congr {V V' : Nat → Option Int32} {kd kd' nm nm' : Nat → Int32} {n : Nat} (h : ∀ q, q < n → kd q = kd' q ∧ (kd q = 12 → nm q = nm' q) ∧ (kd q = 13 → nm q = nm' q ∧ V (nm q).toNatClampNeg = V' (nm q).toNatClampNeg)) : evF V kd nm n = evF V' kd' nm' n := by
  unfold evF
  rw [evN_congr h]
/-- the values, as far as f steps go down -/
def vN (inp : Nat → Bool) (kd nm : Nat → Nat → Int32) (ln : Nat → Nat) (row : Nat → Int32) : Nat → Nat → Option Int32
  | 0, _ => none
  | f + 1, c => if inp c then some (row c) else evF (vN inp kd nm ln row f) (kd c) (nm c) (ln c)
/-- what the parts read lies ahead in an order -/
def lnK (inp : Nat → Bool) (kd nm : Nat → Nat → Int32) (ln : Nat → Nat) (o : Nat → Nat) : Prop := ∀ i, i < 16 → inp (o i) = false → ∀ q, q < ln (o i) → kd (o i) q = 13 → ∃ j, j < i ∧ nm (o i) q = nI (o j) ∧ o j < 16
theorem vN_stay {inp : Nat → Bool} {kd nm : Nat → Nat → Int32} {ln : Nat → Nat} {row : Nat → Int32} {o : Nat → Nat} (h : lnK inp kd nm ln o) : ∀ n i, i < n → i < 16 → ∀ f f', i < f → i < f' → vN inp kd nm ln row f (o i) = vN inp kd nm ln row f' (o i) := by
  intro n
  induction n with
  | zero => intro i hi; omega
  | succ n ih =>
    intro i hi hi16 f f' hf hf'
    obtain ⟨f, rfl⟩ : ∃ z, f = z + 1 := ⟨f - 1, by omega⟩
    obtain ⟨f', rfl⟩ : ∃ z, f' = z + 1 := ⟨f' - 1, by omega⟩
    unfold vN
    cases hb : inp (o i) with
    | true => rfl
    | false =>
      simp only [Bool.false_eq_true, if_false]
      refine evF_congr (fun q hq => ⟨rfl, fun _ => rfl, fun hk => ⟨rfl, ?_⟩⟩)
      obtain ⟨j, hj, e, hjo⟩ := h i hi16 hb q hq hk
      rw [e, nI_clamp (by omega)]
      exact ih j (by omega) (by omega) f f' (by omega) (by omega)
theorem vN_succ (inp : Nat → Bool) (kd nm : Nat → Nat → Int32) (ln : Nat → Nat) (row : Nat → Int32) (f c : Nat) : vN inp kd nm ln row (f + 1) c = if inp c then some (row c) else evF (vN inp kd nm ln row f) (kd c) (nm c) (ln c) := rfl
theorem vN_eqf {inp : Nat → Bool} {kd nm : Nat → Nat → Int32} {ln : Nat → Nat} {row : Nat → Int32} {o : Nat → Nat} (h : lnK inp kd nm ln o) (hS : ordS o) (f : Nat) (hf : 15 ≤ f) : ∀ c, c < 16 → vN inp kd nm ln row (f + 1) c = if inp c then some (row c) else evF (vN inp kd nm ln row (f + 1)) (kd c) (nm c) (ln c) := by
  intro c hc
  obtain ⟨i, hi, rfl⟩ := hS c hc
  rw [vN_succ]
  cases hb : inp (o i) with
  | true => rfl
  | false =>
    simp only [Bool.false_eq_true, if_false]
    refine evF_congr (fun q hq => ⟨rfl, fun _ => rfl, fun hk => ⟨rfl, ?_⟩⟩)
    obtain ⟨j, hj, e, hjo⟩ := h i hi hb q hq hk
    rw [e, nI_clamp (by omega)]
    exact vN_stay h 16 j (by omega) (by omega) f (f + 1) (by omega) (by omega)
theorem vN_eq {inp : Nat → Bool} {kd nm : Nat → Nat → Int32} {ln : Nat → Nat} {row : Nat → Int32} {o : Nat → Nat} (h : lnK inp kd nm ln o) (hS : ordS o) : ∀ c, c < 16 → vN inp kd nm ln row 16 c = if inp c then some (row c) else evF (vN inp kd nm ln row 16) (kd c) (nm c) (ln c) := vN_eqf h hS 15 (by decide)
/-- one valuation alone -/
theorem vN_one {inp : Nat → Bool} {kd nm : Nat → Nat → Int32} {ln : Nat → Nat} {row : Nat → Int32} {o : Nat → Nat} (h : lnK inp kd nm ln o) (hS : ordS o) {V : Nat → Option Int32} (hV : ∀ c, c < 16 → V c = if inp c then some (row c) else evF V (kd c) (nm c) (ln c)) : ∀ n i, i < n → i < 16 → o i < 16 → V (o i) = vN inp kd nm ln row 16 (o i) := by
  intro n
  induction n with
  | zero => intro i hi; omega
  | succ n ih =>
    intro i hi hi16 ho
    rw [hV _ ho, vN_eq h hS _ ho]
    cases hb : inp (o i) with
    | true => rfl
    | false =>
      simp only [Bool.false_eq_true, if_false]
      refine evF_congr (fun q hq => ⟨rfl, fun _ => rfl, fun hk => ⟨rfl, ?_⟩⟩)
      obtain ⟨j, hj, e, hjo⟩ := h i hi16 hb q hq hk
      rw [e, nI_clamp (by omega)]
      exact ih j (by omega) (by omega) hjo
/-- the class's values by a row -/
def gV (σ : gSig) (row : Nat → Int32) : Nat → Option Int32 := vN (fun c => bt (σ 5 0 8) c) (fun c => σ 2 c) (fun c => σ 3 c) (fun c => flen σ c) row 16
theorem shK_ln {σ : gSig} {o : Nat → Nat} (hK : shK σ o) : lnK (fun c => bt (σ 5 0 8) c) (fun c => σ 2 c) (fun c => σ 3 c) (fun c => flen σ c) o := by
  obtain ⟨hO, hT, hJ, hS, hR, hF, hI⟩ := hK
  intro i hi hb q hq hk
  obtain ⟨ho1, ho2⟩ := hO i hi
  obtain ⟨⟨f1, f2, f3, f4, f5⟩, f6⟩ := (hF _ ho2).2 hb
  obtain ⟨d, hd, e⟩ := isC_nI ((f4 q hq).2.2 hk)
  have hrd : bt (σ 7 3 (o i)) d = true := by
    rw [f6]
    exact rsM_in (fun z hz => (f4 z hz).2.2) hq hk e hd
  obtain ⟨j, hj, e2⟩ := hT i hi d hd hrd
  exact ⟨j, hj, by rw [e2]; exact e, by omega⟩
theorem gV_eq {σ : gSig} {o : Nat → Nat} (hK : shK σ o) (row : Nat → Int32) : vEq σ row (gV σ row) := fun c hc => by
  have h := vN_eq (row := row) (shK_ln hK) hK.2.2.2.1 c hc
  exact h
/-- whether a property holds: by the values by a row -/
def prH (Vf : (Nat → Int32) → Nat → Option Int32) (inp : Nat → Bool) (hi : Nat → Int32) (cell : Nat) (kd n : Int32) (row : Nat → Int32) : Bool :=
  match Vf row cell with
  | none => false
  | some v => if kd = 0 then decide (n ≤ v) else if kd = 1 then decide (v ≤ n) else if kd = 2 then decide (Vf row n.toNatClampNeg = some v) else
    if inp n.toNatClampNeg = false ∨ hi n.toNatClampNeg ≤ row n.toNatClampNeg then true else
    match Vf (upd row n.toNatClampNeg (row n.toNatClampNeg + 1)) cell with
    | none => false
    | some w => decide (v ≤ w)
/-- the first that doesn't hold; none: -1 -/
def fbE (h : Nat → Bool) (q : Nat) (res : Int32) : Prop := (res = -1 ∧ ∀ z, z < q → h z = true) ∨ ∃ p, p < q ∧ res = nI p ∧ h p = false ∧ ∀ z, z < p → h z = true
/-- the number behind a number drawn -/
def nxD (a d : Nat) : Nat := if a ≤ 1 then d else (421 * d + 1663) % 7875
/-- an input's value in a row -/
def rvV (a : Nat) (lo hi : Int32) (d : Nat) : Int32 := if a = 0 then lo else if a = 1 then hi else lo + (nI d - nI d / (hi - lo + 1) * (hi - lo + 1))
/-- a row filled, as far as n cells go -/
def frF (inp : Nat → Bool) (lo hi : Nat → Int32) (a : Nat) (row : Nat → Int32) (d : Nat) : Nat → (Nat → Int32) × Nat
  | 0 => (row, d)
  | c + 1 => if inp c then (upd (frF inp lo hi a row d c).1 c (rvV a (lo c) (hi c) (nxD a (frF inp lo hi a row d c).2)), nxD a (frF inp lo hi a row d c).2) else frF inp lo hi a row d c
/-- an input made smaller by half and half -/
def dlF (h : (Nat → Int32) → Bool) (row : Nat → Int32) (c : Nat) : Nat → Nat → Option (Nat → Int32)
  | 0, _ => none
  | f + 1, l => if l = 0 then none else if h (upd row c (row c - nI l)) = false then some (upd row c (row c - nI l)) else dlF h row c f (l / 2)
/-- one step smaller: from the input n on, in rising order, k of them -/
def ssF (inp : Nat → Bool) (lo : Nat → Int32) (h : (Nat → Int32) → Bool) (row : Nat → Int32) : Nat → Nat → Option (Nat → Int32)
  | 0, _ => none
  | k + 1, n => if inp n then (match dlF h row n 32 (row n - lo n).toNatClampNeg with
    | some r => some r
    | none => ssF inp lo h row k (n + 1)) else ssF inp lo h row k (n + 1)
/-- so many steps at most: how many, and the row -/
def msF (step : (Nat → Int32) → Option (Nat → Int32)) : Nat → (Nat → Int32) → Nat × (Nat → Int32)
  | 0, row => (0, row)
  | k + 1, row => match step row with
    | none => (0, row)
    | some r => ((msF step k r).1 + 1, (msF step k r).2)
/-- inputs in their ranges -/
def rwK (inp : Nat → Bool) (lo hi : Nat → Int32) (row : Nat → Int32) : Prop := ∀ c, c < 16 → inp c = true → lo c ≤ row c ∧ row c ≤ hi c
def rgK (inp : Nat → Bool) (lo hi : Nat → Int32) : Prop := ∀ c, c < 16 → inp c = true → (-1000000 : Int32) ≤ lo c ∧ lo c ≤ hi c ∧ hi c ≤ 1000000
theorem rg_int {lo hi : Int32} (h : (-1000000 : Int32) ≤ lo ∧ lo ≤ hi ∧ hi ≤ 1000000) : (-1000000 : Int) ≤ lo.toInt ∧ lo.toInt ≤ hi.toInt ∧ hi.toInt ≤ 1000000 := by
  obtain ⟨h1, h2, h3⟩ := h
  have a := Int32.le_iff_toInt_le.mp h1
  have b := Int32.le_iff_toInt_le.mp h2
  have c := Int32.le_iff_toInt_le.mp h3
  have e1 : (-1000000 : Int32).toInt = -1000000 := by decide
  have e2 : (1000000 : Int32).toInt = 1000000 := by decide
  omega
theorem i32_sub {x y : Int32} (hx : (-1000000 : Int) ≤ x.toInt ∧ x.toInt ≤ 1000000) (hy : (-1000000 : Int) ≤ y.toInt ∧ y.toInt ≤ 1000000) : (x - y).toInt = x.toInt - y.toInt := fb_subI (by omega) (by omega)
theorem rg_size {lo hi : Int32} (h : (-1000000 : Int32) ≤ lo ∧ lo ≤ hi ∧ hi ≤ 1000000) : ∃ z : Nat, 1 ≤ z ∧ z ≤ 2000001 ∧ hi - lo + 1 = nI z ∧ (z : Int) = hi.toInt - lo.toInt + 1 := by
  obtain ⟨h1, h2, h3⟩ := rg_int h
  have e := i32_sub (x := hi) (y := lo) (by omega) (by omega)
  refine ⟨(hi.toInt - lo.toInt + 1).toNat, by omega, by omega, ?_, by omega⟩
  apply Int32.toInt_inj.mp
  have h1' : (1 : Int32).toInt = 1 := by decide
  have h2' := fb_addI (x := hi - lo) (y := 1) (by rw [e, h1']; omega) (by rw [e, h1']; omega)
  rw [h2', e, nI_toInt (by omega), h1']
  omega
theorem nI_div {m k : Nat} (hm : m < 2 ^ 31) (hk : k < 2 ^ 31) : nI m / nI k = nI (m / k) := by
  apply Int32.toInt_inj.mp
  have hq : m / k < 2 ^ 31 := Nat.lt_of_le_of_lt (Nat.div_le_self m k) hm
  rw [Int32.toInt_div, nI_toInt hm, nI_toInt hk, nI_toInt hq]
  rw [show (m : Int).tdiv (k : Int) = ((m / k : Nat) : Int) from (Int.ofNat_tdiv m k).symm]
  generalize m / k = z at hq
  exact fb_bmod (by omega) (by omega)
theorem nI_rem {m k : Nat} (hm : m < 2 ^ 31) (hk : k < 2 ^ 31) : nI m - nI m / nI k * nI k = nI (m % k) := by
  rw [nI_div hm hk]
  apply Int32.toInt_inj.mp
  have hle : m / k * k ≤ m := Nat.div_mul_le_self m k
  have hq : m / k < 2 ^ 31 := Nat.lt_of_le_of_lt (Nat.div_le_self m k) hm
  have hdm : m / k * k + m % k = m := by rw [Nat.mul_comm]; exact Nat.div_add_mod m k
  generalize m / k = z at *
  generalize m % k = w at *
  have hcast : ((z * k : Nat) : Int) = (z : Int) * (k : Int) := Int.natCast_mul _ _
  generalize hzk : z * k = y at *
  have e : (nI z * nI k).toInt = (y : Int) := by
    rw [fb_mulI, nI_toInt hq, nI_toInt hk, ← hcast]
    · rw [nI_toInt hq, nI_toInt hk, ← hcast]; omega
    · rw [nI_toInt hq, nI_toInt hk, ← hcast]; omega
  rw [fb_subI, e, nI_toInt hm, nI_toInt (by omega)]
  · omega
  · rw [e, nI_toInt hm]; omega
  · rw [e, nI_toInt hm]; omega
theorem fmN {m k : Nat} (hm : m < 2 ^ 31) (hk : k < 2 ^ 31) : fmJ (nI m) (nI k) = nI (m % k) := by
  unfold fmJ
  have hx : (0 : Int32) ≤ nI m ^^^ nI k := by
    rw [fb_xorI]
    exact nI_pos' (Nat.xor_lt_two_pow hm hk)
  rw [if_pos hx, nI_rem hm hk]
theorem nx_drawn {d : Nat} (hd : d < 7875) : fmJ (421 * nI d + 1663) 7875 = nI ((421 * d + 1663) % 7875) := by
  have e : (421 : Int32) * nI d + 1663 = nI (421 * d + 1663) := by
    rw [← nI_add]
    congr 1
    apply Int32.toInt_inj.mp
    have e1 : (421 : Int32).toInt = 421 := by decide
    rw [fb_mulI, nI_toInt (by omega), nI_toInt (by omega), e1]
    · omega
    · rw [nI_toInt (by omega), e1]; omega
    · rw [nI_toInt (by omega), e1]; omega
  rw [e]
  exact fmN (k := 7875) (by omega) (by decide)
theorem nxD_lt {a d : Nat} (h : d < 7875) : nxD a d < 7875 := by
  unfold nxD
  split
  · exact h
  · exact Nat.mod_lt _ (by decide)
