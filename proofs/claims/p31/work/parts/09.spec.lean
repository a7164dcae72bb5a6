/-! ===== what a formula's parts say ===== -/
/-- the set of the cells among the first parts -/
def rsM (kd nm : Nat → Int32) : Nat → Int32
  | 0 => 0
  | i + 1 => if kd i = 13 then rsM kd nm i ||| ((1 : Int32) <<< (nm i &&& 31)) else rsM kd nm i
/-- an operation; none is a fault -/
def opF (o a b : Int32) : Option Int32 :=
  if o = 0 then some (a + b) else if o = 1 then some (a - b) else if o = 2 then some (a * b) else if o = 3 then (if b = 0 then none else some (a / b)) else
  if o = 4 then some (if b < a then b else a) else if o = 5 then some (if a < b then b else a) else if o = 6 then some (if a < b then 1 else 0) else if o = 7 then some (if a = b then 1 else 0) else
  if o = 8 then some (a &&& b) else if o = 9 then some (a ||| b) else if o = 10 then some (a <<< (b &&& 31)) else some (a >>> (b &&& 31))
abbrev gF : Int64 := 4294967296
/-- a value that may be a fault, as the class writes it -/
def oL (o : Option Int32) : Int64 := match o with
  | none => gF
  | some x => x.toInt64
theorem oL_ne (x : Int32) : x.toInt64 ≠ gF := by
  intro h
  have h1 : x.toInt64.toInt = gF.toInt := by rw [h]
  rw [Int32.toInt_toInt64] at h1
  have h2 := Int32.toInt_lt x
  have h3 : gF.toInt = 4294967296 := by decide
  omega
theorem oL_some {o : Option Int32} (h : ¬ oL o = gF) : ∃ x, o = some x := by
  cases o with
  | none => exact absurd rfl h
  | some x => exact ⟨x, rfl⟩
/-- one part laid on the values that stand -/
def evS (V : Nat → Option Int32) (kd nm : Int32) (st : List Int32) : Option (List Int32) :=
  if kd = 12 then some (nm :: st) else if kd = 13 then (V nm.toNatClampNeg).map (fun x => x :: st) else
  match st with
  | b :: a :: r => (opF kd a b).map (fun x => x :: r)
  | _ => none
/-- the values that stand behind the first parts; none: a fault -/
def evN (V : Nat → Option Int32) (kd nm : Nat → Int32) : Nat → Option (List Int32)
  | 0 => some []
  | i + 1 => (evN V kd nm i).bind (evS V (kd i) (nm i))
theorem evN_none {V : Nat → Option Int32} {kd nm : Nat → Int32} {i : Nat} (h : evN V kd nm i = none) : ∀ j, evN V kd nm (i + j) = none
  | 0 => h
  | j + 1 => by
    show (evN V kd nm (i + j)).bind _ = none
    rw [evN_none h j]
    rfl
/-- a formula's value -/
def evF (V : Nat → Option Int32) (kd nm : Nat → Int32) (n : Nat) : Option Int32 := (evN V kd nm n).bind List.head?
/-- how many values stand behind the first parts -/
def dep (kd : Nat → Int32) : Nat → Nat
  | 0 => 0
  | i + 1 => if kd i < 12 then dep kd i - 1 else dep kd i + 1
theorem dep_le (kd : Nat → Int32) : ∀ i, dep kd i ≤ i
  | 0 => Nat.le_refl 0
  | i + 1 => by
    unfold dep
    have := dep_le kd i
    split <;> omega
/-- parts that make formulas: an operation finds two, a kind is a kind, a cell is a cell -/
def okP (kd nm : Nat → Int32) (n : Nat) : Prop := ∀ i, i < n → (¬ kd i < 0 ∧ kd i ≤ 13) ∧ (kd i < 12 → 2 ≤ dep kd i) ∧ (kd i = 13 → isC (nm i))
theorem evS_len {V : Nat → Option Int32} {kd nm : Int32} {st st' : List Int32} (h : evS V kd nm st = some st') (hk : ¬ kd < 12 → kd = 12 ∨ kd = 13) : st'.length = if kd < 12 then st.length - 1 else st.length + 1 := by
  unfold evS at h
  by_cases h1 : kd = 12
  · subst h1; rw [if_pos rfl] at h; cases h; rfl
  · rw [if_neg h1] at h
    by_cases h2 : kd = 13
    · subst h2
      rw [if_pos rfl] at h
      cases hv : V nm.toNatClampNeg with
      | none => rw [hv] at h; cases h
      | some x => rw [hv] at h; cases h; rfl
    · rw [if_neg h2] at h
      have h3 : kd < 12 := by
        rcases Classical.em (kd < 12) with q | q
        · exact q
        · rcases hk q with q | q
          · exact absurd q h1
          · exact absurd q h2
      rw [if_pos h3]
      match st, h with
      | b :: a :: r, h =>
        cases ho : opF kd a b with
        | none => simp only [ho] at h; cases h
        | some x => simp only [ho] at h; cases h; rfl
      | [b], h => cases h
      | [], h => cases h
theorem evN_len {V : Nat → Option Int32} {kd nm : Nat → Int32} {n : Nat} (hk : ∀ i, i < n → ¬ kd i < 12 → kd i = 12 ∨ kd i = 13) : ∀ (i : Nat), i ≤ n → ∀ st, evN V kd nm i = some st → st.length = dep kd i
  | 0, _, st, h => by cases h; rfl
  | i + 1, hi, st, h => by
    have h1 : (evN V kd nm i).bind (evS V (kd i) (nm i)) = some st := h
    cases he : evN V kd nm i with
    | none => rw [he] at h1; cases h1
    | some s0 =>
      rw [he] at h1
      have h2 := evN_len hk i (by omega) s0 he
      have h3 := evS_len (V := V) (st := s0) (st' := st) h1 (hk i (by omega))
      rw [h3, h2]
      rfl
/-- what the machine's remainder is, toward below -/
def fmJ (x y : Int32) : Int32 := if 0 ≤ x ^^^ y then x - x / y * y else if x - x / y * y = 0 then x - x / y * y else x - x / y * y + y
/-- how many bits, as the library counts them -/
def bc1 (x : Int32) : Int32 := x - ((x.toUInt32 >>> ((1 : Int32).toUInt32 &&& Int32.toUInt32 31)).toInt32 &&& 1431655765)
def bc2 (x : Int32) : Int32 := (x &&& 858993459) + ((x.toUInt32 >>> ((2 : Int32).toUInt32 &&& Int32.toUInt32 31)).toInt32 &&& 858993459)
def bc3 (x : Int32) : Int32 := (x + (x.toUInt32 >>> ((4 : Int32).toUInt32 &&& Int32.toUInt32 31)).toInt32) &&& 252645135
def bc4 (x : Int32) : Int32 := x + (x.toUInt32 >>> ((8 : Int32).toUInt32 &&& Int32.toUInt32 31)).toInt32
def bc5 (x : Int32) : Int32 := x + (x.toUInt32 >>> ((16 : Int32).toUInt32 &&& Int32.toUInt32 31)).toInt32
def bcJ (x : Int32) : Int32 := bc5 (bc4 (bc3 (bc2 (bc1 x)))) &&& 63
