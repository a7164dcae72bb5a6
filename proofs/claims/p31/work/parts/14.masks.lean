/-! ===== sets of cells: the bits below 16 ===== -/
/-- a set of cells: nothing above bit 15 -/
def m16 (m : Int32) : Prop := ∀ i, 16 ≤ i → bt m i = false
theorem m16_0 : m16 0 := fun i _ => b_0 i
theorem m16_or {x y : Int32} (hx : m16 x) (hy : m16 y) : m16 (x ||| y) := fun i h => by rw [b_or, hx i h, hy i h]; rfl
theorem m16_and {x : Int32} (hx : m16 x) (y : Int32) : m16 (x &&& y) := fun i h => by rw [b_and, hx i h]; rfl
theorem m16_and2 {y : Int32} (x : Int32) (hy : m16 y) : m16 (x &&& y) := fun i h => by rw [b_and, hy i h, Bool.and_false]
theorem m16_ext {x y : Int32} (hx : m16 x) (hy : m16 y) (h : ∀ i, i < 16 → bt x i = bt y i) : x = y := b_ext (fun i _ => by
  rcases Nat.lt_or_ge i 16 with q | q
  · exact h i q
  · rw [hx i q, hy i q])
/-- one cell -/
def b1 (c : Nat) : Int32 := (1 : Int32) <<< (nI c &&& 31)
theorem bt_1 (i : Nat) : bt 1 i = decide (i = 0) := by
  unfold bt
  rcases Nat.lt_or_ge i 32 with h | h
  · have : ∀ i, i < 32 → ((1 : Int32).toBitVec).getLsbD i = decide (i = 0) := by decide
    exact this i h
  · rw [BitVec.getLsbD_of_ge _ _ h]
    simp
    omega
theorem bt_b1 {c : Nat} (hc : c < 32) (i : Nat) : bt (b1 c) i = decide (i = c) := by
  rcases Nat.lt_or_ge i 32 with h | h
  · unfold b1
    rw [b_shl c hc 1 h, bt_1]
    by_cases e : i = c
    · subst e; simp
    · rw [decide_eq_false e]
      by_cases e2 : c ≤ i
      · rw [decide_eq_false (show ¬ i - c = 0 by omega)]; simp
      · rw [decide_eq_false e2]; rfl
  · rw [b_big h, decide_eq_false (by omega)]
theorem m16_b1 {c : Nat} (hc : c < 16) : m16 (b1 c) := fun i h => by rw [bt_b1 (by omega), decide_eq_false (by omega)]
theorem bt_not (x : Int32) {i : Nat} (hi : i < 32) : bt (x ^^^ (-1)) i = !bt x i := by rw [b_xor, b_m1 i hi]; simp
/-- whether a shifted set's last bit stands -/
theorem bt_and1 (x : Int32) : x &&& 1 = if bt x 0 then 1 else 0 := by
  apply b_ext
  intro i hi
  rw [b_and, bt_1]
  by_cases e : i = 0
  · subst e
    cases bt x 0 <;> simp [bt_1, b_0]
  · rw [decide_eq_false e, Bool.and_false]
    cases bt x 0 <;> simp [bt_1, b_0, e]
theorem bt_sh {c : Nat} (hc : c < 32) (x : Int32) : (x >>> (nI c &&& 31)) &&& 1 = if bt x c then 1 else 0 := by
  rw [bt_and1, b_sshr c hc x (by decide), if_pos (show c + 0 < 32 by omega), Nat.add_zero]
theorem bt_sh0 {c : Nat} (hc : c < 32) (x : Int32) : (x >>> (nI c &&& 31)) &&& 1 = 0 ↔ bt x c = false := by
  rw [bt_sh hc]
  cases bt x c <;> simp
theorem bt_sh1 {c : Nat} (hc : c < 32) (x : Int32) : (x >>> (nI c &&& 31)) &&& 1 = 1 ↔ bt x c = true := by
  rw [bt_sh hc]
  cases bt x c <;> simp
theorem hasB_bt {c : Nat} (hc : c < 16) (x : Int32) : hasB x (nI c) = bt x c := by
  unfold hasB
  rw [if_neg (nI_pos (by omega)), if_neg (fun q => by have := (nI_leI (a := 16) (b := c) (by decide) (by omega)).mp q; omega)]
  by_cases h : bt x c = true
  · rw [if_neg (fun q => by rw [(bt_sh0 (by omega) x).mp q] at h; cases h), h]
  · rw [Bool.not_eq_true] at h
    rw [if_pos ((bt_sh0 (by omega) x).mpr h), h]
theorem mask_0 (x : Int32) : x = 0 ↔ ∀ i, i < 32 → bt x i = false := by
  constructor
  · intro h i _; rw [h, b_0]
  · intro h; exact b_ext (fun i hi => by rw [h i hi, b_0])
theorem mask_ne0 {x : Int32} (h : ¬ x = 0) : ∃ i, i < 32 ∧ bt x i = true := by
  rcases Classical.em (∃ i, i < 32 ∧ bt x i = true) with q | q
  · exact q
  · exfalso
    apply h
    rw [mask_0]
    intro i hi
    cases hb : bt x i with
    | false => rfl
    | true => exact absurd ⟨i, hi, hb⟩ q
/-- any of the first cells -/
def anyB (p : Nat → Bool) : Nat → Bool
  | 0 => false
  | i + 1 => anyB p i || p i
theorem anyB_true {p : Nat → Bool} : ∀ {n : Nat}, anyB p n = true ↔ ∃ i, i < n ∧ p i = true
  | 0 => ⟨fun h => (by cases h), fun ⟨i, h, _⟩ => absurd h (Nat.not_lt_zero i)⟩
  | n + 1 => by
    unfold anyB
    rw [Bool.or_eq_true, anyB_true]
    constructor
    · rintro (⟨i, h1, h2⟩ | h)
      · exact ⟨i, by omega, h2⟩
      · exact ⟨n, by omega, h⟩
    · rintro ⟨i, h1, h2⟩
      by_cases e : i = n
      · subst e; exact Or.inr h2
      · exact Or.inl ⟨i, by omega, h2⟩
theorem anyB_congr {p q : Nat → Bool} : ∀ {n : Nat}, (∀ i, i < n → p i = q i) → anyB p n = anyB q n
  | 0, _ => rfl
  | n + 1, h => by
    unfold anyB
    rw [anyB_congr (fun i hi => h i (by omega)), h n (by omega)]
/-- the cells among a formula's first parts -/
theorem rsM_bt (kd nm : Nat → Int32) : ∀ (n : Nat), (∀ i, i < n → kd i = 13 → isC (nm i)) → ∀ c, bt (rsM kd nm n) c = anyB (fun i => decide (kd i = 13) && decide (nm i = nI c) && decide (c < 16)) n
  | 0, _, c => by
    show bt 0 c = false
    exact b_0 c
  | n + 1, h, c => by
    have ih := rsM_bt kd nm n (fun i hi => h i (by omega)) c
    unfold rsM anyB
    by_cases hk : kd n = 13
    · rw [if_pos hk, b_or, ih]
      obtain ⟨k, hk16, e⟩ := isC_nI (h n (by omega) hk)
      have e2 : bt ((1 : Int32) <<< (nm n &&& 31)) c = (decide (kd n = 13) && decide (nm n = nI c) && decide (c < 16)) := by
        rw [e]
        have := bt_b1 (c := k) (by omega) c
        unfold b1 at this
        rw [this, decide_eq_true hk, Bool.true_and]
        rcases Nat.lt_or_ge c 16 with q | q
        · rw [decide_eq_true q, Bool.and_true]
          by_cases e3 : c = k
          · subst e3; simp
          · rw [decide_eq_false e3, decide_eq_false]
            intro q2
            exact e3 ((nI_eq (by omega) (by omega)).mp q2).symm
        · rw [decide_eq_false (show ¬ c = k by omega), decide_eq_false (show ¬ c < 16 by omega), Bool.and_false]
      rw [e2]
    · rw [if_neg hk, ih, decide_eq_false hk]
      simp
theorem rsM_m16 (kd nm : Nat → Int32) (n : Nat) (h : ∀ i, i < n → kd i = 13 → isC (nm i)) : m16 (rsM kd nm n) := fun c hc => by
  rw [rsM_bt kd nm n h c]
  rcases hx : anyB _ n with _ | _
  · rfl
  · obtain ⟨i, -, h2⟩ := anyB_true.mp hx
    simp at h2
    omega
