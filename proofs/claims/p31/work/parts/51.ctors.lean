/-! ===== constructors: printed by g51.py ===== -/
theorem ko_X0 : Cond.methodLink RX0 3 Lib.objectInit ∈ wsG := wsG_of (by decide +kernel) (by decide +kernel)
theorem ko_X1 : Cond.methodLink RX1 3 Lib.objectInit ∈ wsG := wsG_of (by decide +kernel) (by decide +kernel)
theorem ko_X2 : Cond.methodLink RX2 3 Lib.objectInit ∈ wsG := wsG_of (by decide +kernel) (by decide +kernel)
theorem ko_X3 : Cond.methodLink RX3 3 Lib.objectInit ∈ wsG := wsG_of (by decide +kernel) (by decide +kernel)
theorem ko_X4 : Cond.methodLink RX4 3 Lib.objectInit ∈ wsG := wsG_of (by decide +kernel) (by decide +kernel)
theorem ko_X5 : Cond.methodLink RX5 1 Lib.objectInit ∈ wsG := wsG_of (by decide +kernel) (by decide +kernel)
theorem ko_i : Cond.instanceMethod Lib.objectInit ∈ wsG := wsG_of (by decide +kernel) (by decide +kernel)
theorem ko_c : Cond.code Lib.objectInit ⟨#[0xb1]⟩ 1 none ∈ wsG := wsG_of (by decide +kernel) (by decide +kernel)
theorem kA_int : Cond.arrayClass .int ∈ wsG := wsG_of (by decide +kernel) (by decide +kernel)
theorem kA_long : Cond.arrayClass .long ∈ wsG := wsG_of (by decide +kernel) (by decide +kernel)
theorem kz_X5_7 : Cond.classLink RX5 7 RX0 ∈ wsG := wsG_of (by decide +kernel) (by decide +kernel)
theorem kz_X5_16 : Cond.classLink RX5 16 RX3 ∈ wsG := wsG_of (by decide +kernel) (by decide +kernel)
theorem kz_X5_23 : Cond.classLink RX5 23 RX2 ∈ wsG := wsG_of (by decide +kernel) (by decide +kernel)
theorem kz_X5_30 : Cond.classLink RX5 30 RX4 ∈ wsG := wsG_of (by decide +kernel) (by decide +kernel)
theorem kz_X5_37 : Cond.classLink RX5 37 RX1 ∈ wsG := wsG_of (by decide +kernel) (by decide +kernel)
theorem kz_X3_9 : Cond.classLink RX3 9 RX0 ∈ wsG := wsG_of (by decide +kernel) (by decide +kernel)
theorem kz_X4_24 : Cond.classLink RX4 24 ("[" ++ (FieldType.array .int).toString) ∈ wsG := wsG_of (by decide +kernel) (by decide +kernel)
theorem kzi_X0 : Cond.instantiable RX0 5 ∈ wsG := wsG_of (by decide +kernel) (by decide +kernel)
theorem kzn_X0 : Cond.initialized RX0 ∈ wsG := wsG_of (by decide +kernel) (by decide +kernel)
theorem kzi_X1 : Cond.instantiable RX1 5 ∈ wsG := wsG_of (by decide +kernel) (by decide +kernel)
theorem kzn_X1 : Cond.initialized RX1 ∈ wsG := wsG_of (by decide +kernel) (by decide +kernel)
theorem kzi_X2 : Cond.instantiable RX2 3 ∈ wsG := wsG_of (by decide +kernel) (by decide +kernel)
theorem kzn_X2 : Cond.initialized RX2 ∈ wsG := wsG_of (by decide +kernel) (by decide +kernel)
theorem kzi_X3 : Cond.instantiable RX3 9 ∈ wsG := wsG_of (by decide +kernel) (by decide +kernel)
theorem kzn_X3 : Cond.initialized RX3 ∈ wsG := wsG_of (by decide +kernel) (by decide +kernel)
theorem kzi_X4 : Cond.instantiable RX4 9 ∈ wsG := wsG_of (by decide +kernel) (by decide +kernel)
theorem kzn_X4 : Cond.initialized RX4 ∈ wsG := wsG_of (by decide +kernel) (by decide +kernel)
theorem b_swk {S : bS} {n k n' k' pc : Nat} {ws ws' : va_W} {L L' : gLoc} {st : List Value} (h : S n k ws pc L st) (e0 : n = n') (e9 : k = k') (e1 : ws = ws') (e3 : L = L') : S n' k' ws' pc L' st := by subst e0; subst e9; subst e1; subst e3; exact h
/-- an array's function may be another one, if it is the same below the length -/
theorem b_arr {l : Launch} {D : va_G} {aC : Nat → ClassId} {cc : ByteArray} {own : String} {nL d u v : Nat} {I : Prop} {w0 ws : va_W} {PW : va_W → Prop} {S : bS} {n k pc : Nat} {L : gLoc} {st : List Value} (C : Bx l D aC cc own nL d u v I w0 PW S) {a : Nat} {cA : ClassId} {z : vp_A} (q0 : Nat) (z' : vp_A) (he : ws[q0]? = some (a, .inl (cA, z))) (hz : vp_cell cA z = vp_cell cA z') (kk : S n k (ws.set q0 (a, .inl (cA, z'))) pc L st) : S n k ws pc L st := by
  obtain ⟨p, e, R, s, m, args, below, meth, c, Q, A, hx, hb, hml, hown, hts, hK, hNx, hO, hA, hRf, hRl, hRc, hRs, hI, rfl⟩ := C
  intro H locs ls hP hD hS hl
  refine kk H locs ls ?_ (hD.set he) hS hl
  refine va_P.set (H := H) hP hD he ?_ (fun _ _ => rfl)
  have h1 := hP q0 _ he
  show H[a]? = some (vp_cell cA z')
  rw [← hz]
  exact h1
theorem b_swap {l : Launch} {D : va_G} {aC : Nat → ClassId} {cc : ByteArray} {own : String} {nL d u v : Nat} {I : Prop} {w0 wa wb wc : va_W} {PW : va_W → Prop} {S : bS} {n k pc : Nat} {L : gLoc} {st : List Value} (C : Bx l D aC cc own nL d u v I w0 PW S) (kk : S n k ((wa ++ wc) ++ wb) pc L st) : S n k ((wa ++ wb) ++ wc) pc L st := by
  obtain ⟨p, e, R, s, m, args, below, meth, c, Q, A, hx, hb, hml, hown, hts, hK, hNx, hO, hA, hRf, hRl, hRc, hRs, hI, rfl⟩ := C
  intro H locs ls hP hD hS hl
  exact kk H locs ls hP.swap hD.swap hS hl
theorem arr_ext (c : ClassId) (n : Nat) {f g : Nat → Value} (h : ∀ j, j < n → f j = g j) : arrV c n f = arrV c n g := by
  unfold arrV
  congr 1
  congr 1
  funext j
  exact h j.1 j.2
theorem cv_i (c : ClassId) (n : Nat) {f g : Nat → Int32} (h : ∀ j, j < n → f j = g j) : vp_cell c (n, .inl f) = vp_cell c (n, .inl g) := by
  rw [vp_cell_i, vp_cell_i]
  exact arr_ext c n (fun j hj => by rw [h j hj])
theorem cv_q (c : ClassId) (n : Nat) {f g : Nat → Option Nat} (h : ∀ j, j < n → f j = g j) : vp_cell c (n, .inr (.inr (.inr (.inr f)))) = vp_cell c (n, .inr (.inr (.inr (.inr g)))) := by
  rw [vp_cell_q, vp_cell_q]
  exact arr_ext c n (fun j hj => by rw [h j hj])
theorem lp_0 (x : Int32) : (fun j : Nat => if j < 0 then x else (0 : Int32)) = fun _ => 0 := by funext j; simp
theorem lp_0n : (fun j : Nat => if j < 0 then nI j else (0 : Int32)) = fun _ => 0 := by funext j; simp
theorem lp_c (x : Int32) (i : Nat) : upd (fun j : Nat => if j < i then x else (0 : Int32)) i x = fun j => if j < i + 1 then x else 0 := by
  funext j
  unfold upd
  by_cases h : j = i
  · subst h; simp
  · by_cases h2 : j < i
    · simp [h, h2, show j < i + 1 by omega]
    · simp [h, h2, show ¬ j < i + 1 by omega]
theorem lp_n (i : Nat) : upd (fun j : Nat => if j < i then nI j else (0 : Int32)) i (nI i) = fun j => if j < i + 1 then nI j else 0 := by
  funext j
  unfold upd
  by_cases h : j = i
  · subst h; simp
  · by_cases h2 : j < i
    · simp [h, h2, show j < i + 1 by omega]
    · simp [h, h2, show ¬ j < i + 1 by omega]
/-- addresses by family and member: one member more -/
def gup (g : Nat → Nat → Nat) (i a1 a2 a3 a4 : Nat) : Nat → Nat → Nat := fun f j => if j = i then (if f = 1 ∨ f = 10 then a1 else if f = 2 ∨ f = 11 then a2 else if f = 3 ∨ f = 12 then a3 else a4) else g f j
abbrev gA12 (aC : Nat → ClassId) : va_E := .inl (aC 0, 12, .inl (fun _ => 0))
def flF (aC : Nat → ClassId) (g : Nat → Nat → Nat) (n : Nat) : va_W := (List.range n).flatMap (fun c => [(g 1 c, .inr (0, [.ref (g 2 c), .ref (g 3 c), .ref (g 4 c), .int 0, .int 0])), (g 2 c, gA12 aC), (g 3 c, gA12 aC), (g 4 c, gA12 aC)])
abbrev gA4 (aC : Nat → ClassId) : va_E := .inl (aC 0, 4, .inl (fun _ => 0))
def plF (aC : Nat → ClassId) (g : Nat → Nat → Nat) (n : Nat) : va_W := (List.range n).flatMap (fun c => [(g 10 c, .inr (2, [.ref (g 11 c), .ref (g 12 c), .int 0])), (g 11 c, gA4 aC), (g 12 c, gA4 aC)])
theorem flF_s (aC : Nat → ClassId) (g : Nat → Nat → Nat) (i a1 a2 a3 a4 : Nat) : flF aC (gup g i a1 a2 a3 a4) (i + 1) = flF aC g i ++ [(a1, .inr (0, [.ref a2, .ref a3, .ref a4, .int 0, .int 0])), (a2, gA12 aC), (a3, gA12 aC), (a4, gA12 aC)] := by
  unfold flF
  rw [List.range_succ, List.flatMap_append]
  congr 1
  · rw [List.flatMap_def, List.flatMap_def]
    congr 1
    refine List.map_congr_left (fun c hc => ?_)
    have hn : c ≠ i := by have := List.mem_range.mp hc; omega
    simp [gup, hn]
  · simp [gup]
theorem plF_s (aC : Nat → ClassId) (g : Nat → Nat → Nat) (i a1 a2 a3 a4 : Nat) : plF aC (gup g i a1 a2 a3 a4) (i + 1) = plF aC g i ++ [(a1, .inr (2, [.ref a2, .ref a3, .int 0])), (a2, gA4 aC), (a3, gA4 aC)] := by
  unfold plF
  rw [List.range_succ, List.flatMap_append]
  congr 1
  · rw [List.flatMap_def, List.flatMap_def]
    congr 1
    refine List.map_congr_left (fun c hc => ?_)
    have hn : c ≠ i := by have := List.mem_range.mp hc; omega
    simp [gup, hn]
  · simp [gup]
theorem lp_q (f : Nat) (g : Nat → Nat → Nat) (i a1 a2 a3 a4 : Nat) (hf : f = 1 ∨ f = 10) : va_up (fun j => if j < i then some (g f j) else none) i (some a1) = fun j => if j < i + 1 then some (gup g i a1 a2 a3 a4 f j) else none := by
  funext j
  unfold va_up gup
  by_cases h : j = i
  · subst h; rcases hf with rfl | rfl <;> simp
  · by_cases h2 : j < i
    · simp [h, h2, show j < i + 1 by omega]
    · simp [h, h2, show ¬ j < i + 1 by omega]
theorem lp_q0 (f : Nat) (g : Nat → Nat → Nat) : (fun j : Nat => if j < 0 then some (g f j) else none) = fun _ => none := by funext j; simp
set_option maxRecDepth 100000 in
set_option maxHeartbeats 4000000 in
theorem c_X0_init {l : Launch} {D : va_G} {aC : Nat → ClassId} (h : Nat) : CB l D aC yX0_init cX0_init 1 1 3 36 [.ref h] [(h, .inr (0, [.null, .null, .null, .int 0, .int 0]))] (fun ws' => ∃ a b c, ws' = [(h, .inr (0, [.ref a, .ref b, .ref c, .int 0, .int 0])), (a, .inl (aC 0, 12, .inl (fun _ => 0))), (b, .inl (aC 0, 12, .inl (fun _ => 0))), (c, .inl (aC 0, 12, .inl (fun _ => 0)))]) := by
  refine CB.of (own := RX0) (by decide +kernel) rfl rfl (Nat.le_of_ble_eq_true rfl) (fun S C => ?_)
  refine b_aload_n C dX0_init_0 rfl rfl ?_
  refine b_objInit C dX0_init_1 ko_X0 ko_i ko_c (by decide) (by decide) ?_
  show S (0) (0) ([(h, .inr (0, [.null, .null, .null, .int 0, .int 0]))]) 4 [some (.ref h)] []
  refine b_aload_n C dX0_init_4 rfl rfl ?_
  refine b_bipush (v := 12) C dX0_init_5 rfl ?_
  refine b_newa (t0 := 0) (N := 12) (a0 := (12, .inl (fun _ => 0))) C dX0_init_7 rfl (fun _ h => by cases h) kA_int rfl (fun _ => rfl) (by decide) (by decide) (Nat.le_of_ble_eq_true rfl) (Nat.le_of_ble_eq_true rfl) (Nat.le_of_ble_eq_true rfl) ?_
  intro q7
  refine b_putF (f := 0) (ty := tyX0 0) C trivial 0 dX0_init_9 rfl rfl kU0 tyX0 tyX0_ok nmX0 (by decide) kf_X0_9 rfl rfl rfl (tyX0_ok 0 (by decide)) rfl rfl (Nat.le_of_ble_eq_true rfl) ?_
  show S (1) (12) ([(h, .inr (0, [.ref q7, .null, .null, .int 0, .int 0])), (q7, .inl (aC 0, 12, .inl (fun _ => 0)))]) 12 [some (.ref h)] []
  refine b_aload_n C dX0_init_12 rfl rfl ?_
  refine b_bipush (v := 12) C dX0_init_13 rfl ?_
  refine b_newa (t0 := 0) (N := 12) (a0 := (12, .inl (fun _ => 0))) C dX0_init_15 rfl (fun _ h => by cases h) kA_int rfl (fun _ => rfl) (by decide) (by decide) (Nat.le_of_ble_eq_true rfl) (Nat.le_of_ble_eq_true rfl) (Nat.le_of_ble_eq_true rfl) ?_
  intro q15
  refine b_putF (f := 1) (ty := tyX0 1) C trivial 0 dX0_init_17 rfl rfl kU0 tyX0 tyX0_ok nmX0 (by decide) kf_X0_15 rfl rfl rfl (tyX0_ok 1 (by decide)) rfl rfl (Nat.le_of_ble_eq_true rfl) ?_
  show S (2) (24) ([(h, .inr (0, [.ref q7, .ref q15, .null, .int 0, .int 0])), (q7, .inl (aC 0, 12, .inl (fun _ => 0))), (q15, .inl (aC 0, 12, .inl (fun _ => 0)))]) 20 [some (.ref h)] []
  refine b_aload_n C dX0_init_20 rfl rfl ?_
  refine b_bipush (v := 12) C dX0_init_21 rfl ?_
  refine b_newa (t0 := 0) (N := 12) (a0 := (12, .inl (fun _ => 0))) C dX0_init_23 rfl (fun _ h => by cases h) kA_int rfl (fun _ => rfl) (by decide) (by decide) (Nat.le_of_ble_eq_true rfl) (Nat.le_of_ble_eq_true rfl) (Nat.le_of_ble_eq_true rfl) ?_
  intro q23
  refine b_putF (f := 2) (ty := tyX0 2) C trivial 0 dX0_init_25 rfl rfl kU0 tyX0 tyX0_ok nmX0 (by decide) kf_X0_18 rfl rfl rfl (tyX0_ok 2 (by decide)) rfl rfl (Nat.le_of_ble_eq_true rfl) ?_
  show S (3) (36) ([(h, .inr (0, [.ref q7, .ref q15, .ref q23, .int 0, .int 0])), (q7, .inl (aC 0, 12, .inl (fun _ => 0))), (q15, .inl (aC 0, 12, .inl (fun _ => 0))), (q23, .inl (aC 0, 12, .inl (fun _ => 0)))]) 28 [some (.ref h)] []
  exact b_ret C trivial dX0_init_28 (by decide) (by decide) ⟨q7, q15, q23, rfl⟩
set_option maxRecDepth 100000 in
set_option maxHeartbeats 4000000 in
theorem c_X2_init {l : Launch} {D : va_G} {aC : Nat → ClassId} (h : Nat) : CB l D aC yX2_init cX2_init 1 1 2 8 [.ref h] [(h, .inr (2, [.null, .null, .int 0]))] (fun ws' => ∃ a b, ws' = [(h, .inr (2, [.ref a, .ref b, .int 0])), (a, .inl (aC 0, 4, .inl (fun _ => 0))), (b, .inl (aC 0, 4, .inl (fun _ => 0)))]) := by
  refine CB.of (own := RX2) (by decide +kernel) rfl rfl (Nat.le_of_ble_eq_true rfl) (fun S C => ?_)
  refine b_aload_n C dX2_init_0 rfl rfl ?_
  refine b_objInit C dX2_init_1 ko_X2 ko_i ko_c (by decide) (by decide) ?_
  show S (0) (0) ([(h, .inr (2, [.null, .null, .int 0]))]) 4 [some (.ref h)] []
  refine b_aload_n C dX2_init_4 rfl rfl ?_
  refine b_iconst (v := 4) C dX2_init_5 rfl ?_
  refine b_newa (t0 := 0) (N := 4) (a0 := (4, .inl (fun _ => 0))) C dX2_init_6 rfl (fun _ h => by cases h) kA_int rfl (fun _ => rfl) (by decide) (by decide) (Nat.le_of_ble_eq_true rfl) (Nat.le_of_ble_eq_true rfl) (Nat.le_of_ble_eq_true rfl) ?_
  intro q6
  refine b_putF (f := 0) (ty := tyX2 0) C trivial 0 dX2_init_8 rfl rfl kU2 tyX2 tyX2_ok nmX2 (by decide) kf_X2_9 rfl rfl rfl (tyX2_ok 0 (by decide)) rfl rfl (Nat.le_of_ble_eq_true rfl) ?_
  show S (1) (4) ([(h, .inr (2, [.ref q6, .null, .int 0])), (q6, .inl (aC 0, 4, .inl (fun _ => 0)))]) 11 [some (.ref h)] []
  refine b_aload_n C dX2_init_11 rfl rfl ?_
  refine b_iconst (v := 4) C dX2_init_12 rfl ?_
  refine b_newa (t0 := 0) (N := 4) (a0 := (4, .inl (fun _ => 0))) C dX2_init_13 rfl (fun _ h => by cases h) kA_int rfl (fun _ => rfl) (by decide) (by decide) (Nat.le_of_ble_eq_true rfl) (Nat.le_of_ble_eq_true rfl) (Nat.le_of_ble_eq_true rfl) ?_
  intro q13
  refine b_putF (f := 1) (ty := tyX2 1) C trivial 0 dX2_init_15 rfl rfl kU2 tyX2 tyX2_ok nmX2 (by decide) kf_X2_15 rfl rfl rfl (tyX2_ok 1 (by decide)) rfl rfl (Nat.le_of_ble_eq_true rfl) ?_
  show S (2) (8) ([(h, .inr (2, [.ref q6, .ref q13, .int 0])), (q6, .inl (aC 0, 4, .inl (fun _ => 0))), (q13, .inl (aC 0, 4, .inl (fun _ => 0)))]) 18 [some (.ref h)] []
  exact b_ret C trivial dX2_init_18 (by decide) (by decide) ⟨q6, q13, rfl⟩
set_option maxRecDepth 100000 in
set_option maxHeartbeats 4000000 in
theorem c_X1_init {l : Launch} {D : va_G} {aC : Nat → ClassId} (h : Nat) : CB l D aC yX1_init cX1_init 2 1 3 48 [.ref h] [(h, .inr (1, [.null, .null, .null, .int 0, .int 0]))] (fun ws' => ∃ a b c, ws' = [(h, .inr (1, [.ref a, .ref b, .ref c, .int 0, .int 0])), (a, .inl (aC 0, 16, .inl (fun _ => 0))), (b, .inl (aC 0, 16, .inl (fun _ => -1))), (c, .inl (aC 0, 16, .inl (fun _ => 0)))]) := by
  refine CB.of (own := RX1) (by decide +kernel) rfl rfl (Nat.le_of_ble_eq_true rfl) (fun S C => ?_)
  refine b_aload_n C dX1_init_0 rfl rfl ?_
  refine b_objInit C dX1_init_1 ko_X1 ko_i ko_c (by decide) (by decide) ?_
  show S (0) (0) ([(h, .inr (1, [.null, .null, .null, .int 0, .int 0]))]) 4 [some (.ref h), none] []
  refine b_aload_n C dX1_init_4 rfl rfl ?_
  refine b_bipush (v := 16) C dX1_init_5 rfl ?_
  refine b_newa (t0 := 0) (N := 16) (a0 := (16, .inl (fun _ => 0))) C dX1_init_7 rfl (fun _ h => by cases h) kA_int rfl (fun _ => rfl) (by decide) (by decide) (Nat.le_of_ble_eq_true rfl) (Nat.le_of_ble_eq_true rfl) (Nat.le_of_ble_eq_true rfl) ?_
  intro q7
  refine b_putF (f := 0) (ty := tyX1 0) C trivial 0 dX1_init_9 rfl rfl kU1 tyX1 tyX1_ok nmX1 (by decide) kf_X1_9 rfl rfl rfl (tyX1_ok 0 (by decide)) rfl rfl (Nat.le_of_ble_eq_true rfl) ?_
  show S (1) (16) ([(h, .inr (1, [.ref q7, .null, .null, .int 0, .int 0])), (q7, .inl (aC 0, 16, .inl (fun _ => 0)))]) 12 [some (.ref h), none] []
  refine b_aload_n C dX1_init_12 rfl rfl ?_
  refine b_bipush (v := 16) C dX1_init_13 rfl ?_
  refine b_newa (t0 := 0) (N := 16) (a0 := (16, .inl (fun _ => 0))) C dX1_init_15 rfl (fun _ h => by cases h) kA_int rfl (fun _ => rfl) (by decide) (by decide) (Nat.le_of_ble_eq_true rfl) (Nat.le_of_ble_eq_true rfl) (Nat.le_of_ble_eq_true rfl) ?_
  intro q15
  refine b_putF (f := 1) (ty := tyX1 1) C trivial 0 dX1_init_17 rfl rfl kU1 tyX1 tyX1_ok nmX1 (by decide) kf_X1_15 rfl rfl rfl (tyX1_ok 1 (by decide)) rfl rfl (Nat.le_of_ble_eq_true rfl) ?_
  show S (2) (32) ([(h, .inr (1, [.ref q7, .ref q15, .null, .int 0, .int 0])), (q7, .inl (aC 0, 16, .inl (fun _ => 0))), (q15, .inl (aC 0, 16, .inl (fun _ => 0)))]) 20 [some (.ref h), none] []
  refine b_aload_n C dX1_init_20 rfl rfl ?_
  refine b_bipush (v := 16) C dX1_init_21 rfl ?_
  refine b_newa (t0 := 0) (N := 16) (a0 := (16, .inl (fun _ => 0))) C dX1_init_23 rfl (fun _ h => by cases h) kA_int rfl (fun _ => rfl) (by decide) (by decide) (Nat.le_of_ble_eq_true rfl) (Nat.le_of_ble_eq_true rfl) (Nat.le_of_ble_eq_true rfl) ?_
  intro q23
  refine b_putF (f := 2) (ty := tyX1 2) C trivial 0 dX1_init_25 rfl rfl kU1 tyX1 tyX1_ok nmX1 (by decide) kf_X1_18 rfl rfl rfl (tyX1_ok 2 (by decide)) rfl rfl (Nat.le_of_ble_eq_true rfl) ?_
  show S (3) (48) ([(h, .inr (1, [.ref q7, .ref q15, .ref q23, .int 0, .int 0])), (q7, .inl (aC 0, 16, .inl (fun _ => 0))), (q15, .inl (aC 0, 16, .inl (fun _ => 0))), (q23, .inl (aC 0, 16, .inl (fun _ => 0)))]) 28 [some (.ref h), none] []
  refine b_iconst (v := 0) C dX1_init_28 rfl ?_
  refine b_istore_n C dX1_init_29 rfl (by decide) rfl ?_
  have loop : ∀ m i, i ≤ 16 → 16 - i < m → S 3 48 ([(h, .inr (1, [.ref q7, .ref q15, .ref q23, .int 0, .int 0])), (q7, .inl (aC 0, 16, .inl (fun _ => 0))), (q15, .inl (aC 0, 16, .inl (fun j => if j < i then (-1) else 0))), (q23, .inl (aC 0, 16, .inl (fun _ => 0)))]) 30 [some (.ref h), some (.int (nI i))] [] := by
    intro m
    induction m with
    | zero => intro i _ hm; omega
    | succ m ih =>
      intro i hi hm
      refine b_iload_n C dX1_init_30 rfl rfl ?_
      refine b_bipush (v := 16) C dX1_init_31 rfl ?_
      refine b_icmpge (tgt := 49) C dX1_init_33 (by decide) (fun c33 => ?_) (fun c33 => ?_)
      · have hi16 : i = 16 := by
          have := (nI_leI (a := 16) (by omega) (by omega)).mp c33
          omega
        subst hi16
        refine b_arr C 2 (16, .inl (fun _ => -1)) rfl (cv_i _ _ (fun j hj => if_pos hj)) ?_
        exact b_ret C trivial dX1_init_49 (by decide) (by decide) ⟨q7, q15, q23, rfl⟩
      · have hil : i < 16 := (nI_ltI (b := 16) (by omega) (by omega)).mp (Int32.not_le.mp c33)
        refine b_aload_n C dX1_init_36 rfl rfl ?_
        refine b_get (f := 1) C 0 dX1_init_37 rfl rfl kU1 (by decide) kf_X1_15 rfl rfl ?_
        refine b_iload_n C dX1_init_40 rfl rfl ?_
        refine b_iconst (v := (-1)) C dX1_init_41 rfl ?_
        refine b_iast C 2 dX1_init_42 rfl (vp_in_nI hil (by decide)) ?_
        rw [nI_clamp (by omega), lp_c]
        refine b_iinc C dX1_init_43 rfl rfl (by decide) rfl ?_
        refine b_goto (tgt := 30) C dX1_init_46 (by decide) ?_
        exact b_swk (ih (i + 1) (by omega) (by omega)) rfl rfl rfl (by rw [← nI_p1]; rfl)
  exact b_swk (loop 17 0 (by omega) (by omega)) rfl rfl (by rw [lp_0]) rfl
set_option maxRecDepth 100000 in
set_option maxHeartbeats 4000000 in
theorem c_X4_init {l : Launch} {D : va_G} {aC : Nat → ClassId} (h : Nat) : CB l D aC yX4_init cX4_init 1 1 21 336 [.ref h] [(h, .inr (4, [.null, .null, .null, .null, .null, .int 0, .int 0, .int 0, .int 0]))] (fun ws' => ∃ (a b c e q : Nat) (r : Nat → Nat), ws' = [(h, .inr (4, [.ref a, .ref b, .ref c, .ref e, .ref q, .int 0, .int 0, .int 0, .int 0])), (a, .inl (aC 0, 16, .inl (fun _ => 0))), (b, .inl (aC 0, 16, .inl (fun _ => 0))), (c, .inl (aC 0, 16, .inl (fun _ => 0))), (e, .inl (aC 0, 16, .inl (fun _ => 0))), (q, .inl (aC 5, 16, .inr (.inr (.inr (.inr (fun i => some (r i)))))))] ++ (List.range 16).map (fun i => (r i, .inl (aC 0, 16, .inl (fun _ => 0))))) := by
  refine CB.of (own := RX4) (by decide +kernel) rfl rfl (Nat.le_of_ble_eq_true rfl) (fun S C => ?_)
  refine b_aload_n C dX4_init_0 rfl rfl ?_
  refine b_objInit C dX4_init_1 ko_X4 ko_i ko_c (by decide) (by decide) ?_
  show S (0) (0) ([(h, .inr (4, [.null, .null, .null, .null, .null, .int 0, .int 0, .int 0, .int 0]))]) 4 [some (.ref h)] []
  refine b_aload_n C dX4_init_4 rfl rfl ?_
  refine b_bipush (v := 16) C dX4_init_5 rfl ?_
  refine b_newa (t0 := 0) (N := 16) (a0 := (16, .inl (fun _ => 0))) C dX4_init_7 rfl (fun _ h => by cases h) kA_int rfl (fun _ => rfl) (by decide) (by decide) (Nat.le_of_ble_eq_true rfl) (Nat.le_of_ble_eq_true rfl) (Nat.le_of_ble_eq_true rfl) ?_
  intro q7
  refine b_putF (f := 0) (ty := tyX4 0) C trivial 0 dX4_init_9 rfl rfl kU4 tyX4 tyX4_ok nmX4 (by decide) kf_X4_9 rfl rfl rfl (tyX4_ok 0 (by decide)) rfl rfl (Nat.le_of_ble_eq_true rfl) ?_
  show S (1) (16) ([(h, .inr (4, [.ref q7, .null, .null, .null, .null, .int 0, .int 0, .int 0, .int 0])), (q7, .inl (aC 0, 16, .inl (fun _ => 0)))]) 12 [some (.ref h)] []
  refine b_aload_n C dX4_init_12 rfl rfl ?_
  refine b_bipush (v := 16) C dX4_init_13 rfl ?_
  refine b_newa (t0 := 0) (N := 16) (a0 := (16, .inl (fun _ => 0))) C dX4_init_15 rfl (fun _ h => by cases h) kA_int rfl (fun _ => rfl) (by decide) (by decide) (Nat.le_of_ble_eq_true rfl) (Nat.le_of_ble_eq_true rfl) (Nat.le_of_ble_eq_true rfl) ?_
  intro q15
  refine b_putF (f := 1) (ty := tyX4 1) C trivial 0 dX4_init_17 rfl rfl kU4 tyX4 tyX4_ok nmX4 (by decide) kf_X4_15 rfl rfl rfl (tyX4_ok 1 (by decide)) rfl rfl (Nat.le_of_ble_eq_true rfl) ?_
  show S (2) (32) ([(h, .inr (4, [.ref q7, .ref q15, .null, .null, .null, .int 0, .int 0, .int 0, .int 0])), (q7, .inl (aC 0, 16, .inl (fun _ => 0))), (q15, .inl (aC 0, 16, .inl (fun _ => 0)))]) 20 [some (.ref h)] []
  refine b_aload_n C dX4_init_20 rfl rfl ?_
  refine b_bipush (v := 16) C dX4_init_21 rfl ?_
  refine b_newa (t0 := 0) (N := 16) (a0 := (16, .inl (fun _ => 0))) C dX4_init_23 rfl (fun _ h => by cases h) kA_int rfl (fun _ => rfl) (by decide) (by decide) (Nat.le_of_ble_eq_true rfl) (Nat.le_of_ble_eq_true rfl) (Nat.le_of_ble_eq_true rfl) ?_
  intro q23
  refine b_putF (f := 2) (ty := tyX4 2) C trivial 0 dX4_init_25 rfl rfl kU4 tyX4 tyX4_ok nmX4 (by decide) kf_X4_18 rfl rfl rfl (tyX4_ok 2 (by decide)) rfl rfl (Nat.le_of_ble_eq_true rfl) ?_
  show S (3) (48) ([(h, .inr (4, [.ref q7, .ref q15, .ref q23, .null, .null, .int 0, .int 0, .int 0, .int 0])), (q7, .inl (aC 0, 16, .inl (fun _ => 0))), (q15, .inl (aC 0, 16, .inl (fun _ => 0))), (q23, .inl (aC 0, 16, .inl (fun _ => 0)))]) 28 [some (.ref h)] []
  refine b_aload_n C dX4_init_28 rfl rfl ?_
  refine b_bipush (v := 16) C dX4_init_29 rfl ?_
  refine b_newa (t0 := 0) (N := 16) (a0 := (16, .inl (fun _ => 0))) C dX4_init_31 rfl (fun _ h => by cases h) kA_int rfl (fun _ => rfl) (by decide) (by decide) (Nat.le_of_ble_eq_true rfl) (Nat.le_of_ble_eq_true rfl) (Nat.le_of_ble_eq_true rfl) ?_
  intro q31
  refine b_putF (f := 3) (ty := tyX4 3) C trivial 0 dX4_init_33 rfl rfl kU4 tyX4 tyX4_ok nmX4 (by decide) kf_X4_21 rfl rfl rfl (tyX4_ok 3 (by decide)) rfl rfl (Nat.le_of_ble_eq_true rfl) ?_
  show S (4) (64) ([(h, .inr (4, [.ref q7, .ref q15, .ref q23, .ref q31, .null, .int 0, .int 0, .int 0, .int 0])), (q7, .inl (aC 0, 16, .inl (fun _ => 0))), (q15, .inl (aC 0, 16, .inl (fun _ => 0))), (q23, .inl (aC 0, 16, .inl (fun _ => 0))), (q31, .inl (aC 0, 16, .inl (fun _ => 0)))]) 36 [some (.ref h)] []
  refine b_aload_n C dX4_init_36 rfl rfl ?_
  refine b_bipush (v := 16) C dX4_init_37 rfl ?_
  refine b_bipush (v := 16) C dX4_init_39 rfl ?_
  refine b_mna (t0 := 5) (t1 := 0) (N := 16) (K := 16) C dX4_init_41 kz_X4_24 kA_int rfl rfl (by decide) (by decide) (by decide) (by decide) (Nat.le_of_ble_eq_true rfl) (Nat.le_of_ble_eq_true rfl) (Nat.le_of_ble_eq_true rfl) (Nat.le_of_ble_eq_true rfl) ?_
  intro q41 r
  show S (21) (336) ([(h, .inr (4, [.ref q7, .ref q15, .ref q23, .ref q31, .null, .int 0, .int 0, .int 0, .int 0])), (q7, .inl (aC 0, 16, .inl (fun _ => 0))), (q15, .inl (aC 0, 16, .inl (fun _ => 0))), (q23, .inl (aC 0, 16, .inl (fun _ => 0))), (q31, .inl (aC 0, 16, .inl (fun _ => 0))), (q41, .inl (aC 5, 16, .inr (.inr (.inr (.inr (fun i => if i < 16 then some (r i) else none))))))] ++ (List.range 16).map (fun i => (r i, .inl (aC 0, 16, .inl (fun _ => 0))))) 45 [some (.ref h)] [.ref q41, .ref h]
  refine b_putF (f := 4) (ty := tyX4 4) C trivial 0 dX4_init_45 rfl rfl kU4 tyX4 tyX4_ok nmX4 (by decide) kf_X4_26 rfl rfl rfl (tyX4_ok 4 (by decide)) rfl rfl (Nat.le_of_ble_eq_true rfl) ?_
  refine b_arr C 5 (16, .inr (.inr (.inr (.inr (fun i => some (r i)))))) rfl (cv_q _ _ (fun j hj => if_pos hj)) ?_
  exact b_ret C trivial dX4_init_48 (by decide) (by decide) ⟨q7, q15, q23, q31, q41, r, rfl⟩
set_option maxRecDepth 100000 in
set_option maxHeartbeats 4000000 in
theorem c_X3_init {l : Launch} {D : va_G} {aC : Nat → ClassId} (h : Nat) : CB l D aC yX3_init cX3_init 2 2 72 784 [.ref h] [(h, .inr (3, [.null, .null, .null, .null, .null, .null, .null, .null, .int 0]))] (fun ws' => ∃ (q a0 a1 a2 a3 a4 a5 a6 : Nat) (g : Nat → Nat → Nat), ws' = [(h, .inr (3, [.ref q, .ref a0, .ref a1, .ref a2, .ref a3, .ref a4, .ref a5, .ref a6, .int 65535])), (q, .inl (aC 3, 16, .inr (.inr (.inr (.inr (fun j => some (g 1 j))))))), (a0, .inl (aC 0, 16, .inl (fun _ => 0))), (a1, .inl (aC 0, 16, .inl (fun _ => 0))), (a2, .inl (aC 0, 16, .inl (fun _ => 0))), (a3, .inl (aC 0, 16, .inl (fun _ => 0))), (a4, .inl (aC 0, 16, .inl (fun _ => 0))), (a5, .inl (aC 0, 16, .inl (fun j => nI j))), (a6, .inl (aC 1, 16, .inr (.inl (fun _ => 0))))] ++ flF aC g 16) := by
  refine CB.of (own := RX3) (by decide +kernel) rfl rfl (Nat.le_of_ble_eq_true rfl) (fun S C => ?_)
  refine b_aload_n C dX3_init_0 rfl rfl ?_
  refine b_objInit C dX3_init_1 ko_X3 ko_i ko_c (by decide) (by decide) ?_
  show S (0) (0) ([(h, .inr (3, [.null, .null, .null, .null, .null, .null, .null, .null, .int 0]))]) 4 [some (.ref h), none] []
  refine b_aload_n C dX3_init_4 rfl rfl ?_
  refine b_bipush (v := 16) C dX3_init_5 rfl ?_
  refine b_newq (t0 := 3) (N := 16) C dX3_init_7 kz_X3_9 (fun U h => h.1) rfl (by decide) (by decide) (Nat.le_of_ble_eq_true rfl) (Nat.le_of_ble_eq_true rfl) (Nat.le_of_ble_eq_true rfl) ?_
  intro q7
  refine b_putF (f := 0) (ty := tyX3 0) C trivial 0 dX3_init_10 rfl rfl kU3 tyX3 tyX3_ok nmX3 (by decide) kf_X3_11 rfl rfl rfl (tyX3_ok 0 (by decide)) rfl rfl (Nat.le_of_ble_eq_true rfl) ?_
  show S (1) (16) ([(h, .inr (3, [.ref q7, .null, .null, .null, .null, .null, .null, .null, .int 0])), (q7, .inl (aC 3, 16, .inr (.inr (.inr (.inr (fun _ => none))))))]) 13 [some (.ref h), none] []
  refine b_aload_n C dX3_init_13 rfl rfl ?_
  refine b_bipush (v := 16) C dX3_init_14 rfl ?_
  refine b_newa (t0 := 0) (N := 16) (a0 := (16, .inl (fun _ => 0))) C dX3_init_16 rfl (fun _ h => by cases h) kA_int rfl (fun _ => rfl) (by decide) (by decide) (Nat.le_of_ble_eq_true rfl) (Nat.le_of_ble_eq_true rfl) (Nat.le_of_ble_eq_true rfl) ?_
  intro q16
  refine b_putF (f := 1) (ty := tyX3 1) C trivial 0 dX3_init_18 rfl rfl kU3 tyX3 tyX3_ok nmX3 (by decide) kf_X3_17 rfl rfl rfl (tyX3_ok 1 (by decide)) rfl rfl (Nat.le_of_ble_eq_true rfl) ?_
  show S (2) (32) ([(h, .inr (3, [.ref q7, .ref q16, .null, .null, .null, .null, .null, .null, .int 0])), (q7, .inl (aC 3, 16, .inr (.inr (.inr (.inr (fun _ => none)))))), (q16, .inl (aC 0, 16, .inl (fun _ => 0)))]) 21 [some (.ref h), none] []
  refine b_aload_n C dX3_init_21 rfl rfl ?_
  refine b_bipush (v := 16) C dX3_init_22 rfl ?_
  refine b_newa (t0 := 0) (N := 16) (a0 := (16, .inl (fun _ => 0))) C dX3_init_24 rfl (fun _ h => by cases h) kA_int rfl (fun _ => rfl) (by decide) (by decide) (Nat.le_of_ble_eq_true rfl) (Nat.le_of_ble_eq_true rfl) (Nat.le_of_ble_eq_true rfl) ?_
  intro q24
  refine b_putF (f := 2) (ty := tyX3 2) C trivial 0 dX3_init_26 rfl rfl kU3 tyX3 tyX3_ok nmX3 (by decide) kf_X3_21 rfl rfl rfl (tyX3_ok 2 (by decide)) rfl rfl (Nat.le_of_ble_eq_true rfl) ?_
  show S (3) (48) ([(h, .inr (3, [.ref q7, .ref q16, .ref q24, .null, .null, .null, .null, .null, .int 0])), (q7, .inl (aC 3, 16, .inr (.inr (.inr (.inr (fun _ => none)))))), (q16, .inl (aC 0, 16, .inl (fun _ => 0))), (q24, .inl (aC 0, 16, .inl (fun _ => 0)))]) 29 [some (.ref h), none] []
  refine b_aload_n C dX3_init_29 rfl rfl ?_
  refine b_bipush (v := 16) C dX3_init_30 rfl ?_
  refine b_newa (t0 := 0) (N := 16) (a0 := (16, .inl (fun _ => 0))) C dX3_init_32 rfl (fun _ h => by cases h) kA_int rfl (fun _ => rfl) (by decide) (by decide) (Nat.le_of_ble_eq_true rfl) (Nat.le_of_ble_eq_true rfl) (Nat.le_of_ble_eq_true rfl) ?_
  intro q32
  refine b_putF (f := 3) (ty := tyX3 3) C trivial 0 dX3_init_34 rfl rfl kU3 tyX3 tyX3_ok nmX3 (by decide) kf_X3_24 rfl rfl rfl (tyX3_ok 3 (by decide)) rfl rfl (Nat.le_of_ble_eq_true rfl) ?_
  show S (4) (64) ([(h, .inr (3, [.ref q7, .ref q16, .ref q24, .ref q32, .null, .null, .null, .null, .int 0])), (q7, .inl (aC 3, 16, .inr (.inr (.inr (.inr (fun _ => none)))))), (q16, .inl (aC 0, 16, .inl (fun _ => 0))), (q24, .inl (aC 0, 16, .inl (fun _ => 0))), (q32, .inl (aC 0, 16, .inl (fun _ => 0)))]) 37 [some (.ref h), none] []
  refine b_aload_n C dX3_init_37 rfl rfl ?_
  refine b_bipush (v := 16) C dX3_init_38 rfl ?_
  refine b_newa (t0 := 0) (N := 16) (a0 := (16, .inl (fun _ => 0))) C dX3_init_40 rfl (fun _ h => by cases h) kA_int rfl (fun _ => rfl) (by decide) (by decide) (Nat.le_of_ble_eq_true rfl) (Nat.le_of_ble_eq_true rfl) (Nat.le_of_ble_eq_true rfl) ?_
  intro q40
  refine b_putF (f := 4) (ty := tyX3 4) C trivial 0 dX3_init_42 rfl rfl kU3 tyX3 tyX3_ok nmX3 (by decide) kf_X3_27 rfl rfl rfl (tyX3_ok 4 (by decide)) rfl rfl (Nat.le_of_ble_eq_true rfl) ?_
  show S (5) (80) ([(h, .inr (3, [.ref q7, .ref q16, .ref q24, .ref q32, .ref q40, .null, .null, .null, .int 0])), (q7, .inl (aC 3, 16, .inr (.inr (.inr (.inr (fun _ => none)))))), (q16, .inl (aC 0, 16, .inl (fun _ => 0))), (q24, .inl (aC 0, 16, .inl (fun _ => 0))), (q32, .inl (aC 0, 16, .inl (fun _ => 0))), (q40, .inl (aC 0, 16, .inl (fun _ => 0)))]) 45 [some (.ref h), none] []
  refine b_aload_n C dX3_init_45 rfl rfl ?_
  refine b_bipush (v := 16) C dX3_init_46 rfl ?_
  refine b_newa (t0 := 0) (N := 16) (a0 := (16, .inl (fun _ => 0))) C dX3_init_48 rfl (fun _ h => by cases h) kA_int rfl (fun _ => rfl) (by decide) (by decide) (Nat.le_of_ble_eq_true rfl) (Nat.le_of_ble_eq_true rfl) (Nat.le_of_ble_eq_true rfl) ?_
  intro q48
  refine b_putF (f := 5) (ty := tyX3 5) C trivial 0 dX3_init_50 rfl rfl kU3 tyX3 tyX3_ok nmX3 (by decide) kf_X3_30 rfl rfl rfl (tyX3_ok 5 (by decide)) rfl rfl (Nat.le_of_ble_eq_true rfl) ?_
  show S (6) (96) ([(h, .inr (3, [.ref q7, .ref q16, .ref q24, .ref q32, .ref q40, .ref q48, .null, .null, .int 0])), (q7, .inl (aC 3, 16, .inr (.inr (.inr (.inr (fun _ => none)))))), (q16, .inl (aC 0, 16, .inl (fun _ => 0))), (q24, .inl (aC 0, 16, .inl (fun _ => 0))), (q32, .inl (aC 0, 16, .inl (fun _ => 0))), (q40, .inl (aC 0, 16, .inl (fun _ => 0))), (q48, .inl (aC 0, 16, .inl (fun _ => 0)))]) 53 [some (.ref h), none] []
  refine b_aload_n C dX3_init_53 rfl rfl ?_
  refine b_bipush (v := 16) C dX3_init_54 rfl ?_
  refine b_newa (t0 := 0) (N := 16) (a0 := (16, .inl (fun _ => 0))) C dX3_init_56 rfl (fun _ h => by cases h) kA_int rfl (fun _ => rfl) (by decide) (by decide) (Nat.le_of_ble_eq_true rfl) (Nat.le_of_ble_eq_true rfl) (Nat.le_of_ble_eq_true rfl) ?_
  intro q56
  refine b_putF (f := 6) (ty := tyX3 6) C trivial 0 dX3_init_58 rfl rfl kU3 tyX3 tyX3_ok nmX3 (by decide) kf_X3_33 rfl rfl rfl (tyX3_ok 6 (by decide)) rfl rfl (Nat.le_of_ble_eq_true rfl) ?_
  show S (7) (112) ([(h, .inr (3, [.ref q7, .ref q16, .ref q24, .ref q32, .ref q40, .ref q48, .ref q56, .null, .int 0])), (q7, .inl (aC 3, 16, .inr (.inr (.inr (.inr (fun _ => none)))))), (q16, .inl (aC 0, 16, .inl (fun _ => 0))), (q24, .inl (aC 0, 16, .inl (fun _ => 0))), (q32, .inl (aC 0, 16, .inl (fun _ => 0))), (q40, .inl (aC 0, 16, .inl (fun _ => 0))), (q48, .inl (aC 0, 16, .inl (fun _ => 0))), (q56, .inl (aC 0, 16, .inl (fun _ => 0)))]) 61 [some (.ref h), none] []
  refine b_aload_n C dX3_init_61 rfl rfl ?_
  refine b_bipush (v := 16) C dX3_init_62 rfl ?_
  refine b_newa (t0 := 1) (N := 16) (a0 := (16, .inr (.inl (fun _ => 0)))) C dX3_init_64 rfl (fun _ h => by cases h) kA_long rfl (fun _ => rfl) (by decide) (by decide) (Nat.le_of_ble_eq_true rfl) (Nat.le_of_ble_eq_true rfl) (Nat.le_of_ble_eq_true rfl) ?_
  intro q64
  refine b_putF (f := 7) (ty := tyX3 7) C trivial 0 dX3_init_66 rfl rfl kU3 tyX3 tyX3_ok nmX3 (by decide) kf_X3_36 rfl rfl rfl (tyX3_ok 7 (by decide)) rfl rfl (Nat.le_of_ble_eq_true rfl) ?_
  show S (8) (128) ([(h, .inr (3, [.ref q7, .ref q16, .ref q24, .ref q32, .ref q40, .ref q48, .ref q56, .ref q64, .int 0])), (q7, .inl (aC 3, 16, .inr (.inr (.inr (.inr (fun _ => none)))))), (q16, .inl (aC 0, 16, .inl (fun _ => 0))), (q24, .inl (aC 0, 16, .inl (fun _ => 0))), (q32, .inl (aC 0, 16, .inl (fun _ => 0))), (q40, .inl (aC 0, 16, .inl (fun _ => 0))), (q48, .inl (aC 0, 16, .inl (fun _ => 0))), (q56, .inl (aC 0, 16, .inl (fun _ => 0))), (q64, .inl (aC 1, 16, .inr (.inl (fun _ => 0))))]) 69 [some (.ref h), none] []
  refine b_aload_n C dX3_init_69 rfl rfl ?_
  refine b_ldc C dX3_init_70 kc_X3_40 ?_
  refine b_put (f := 8) (ty := tyX3 8) C 0 dX3_init_72 rfl rfl kU3 tyX3 tyX3_ok nmX3 (by decide) kf_X3_41 rfl rfl (tyX3_ok 8 (by decide)) rfl rfl (Nat.le_of_ble_eq_true rfl) ?_
  show S (8) (128) ([(h, .inr (3, [.ref q7, .ref q16, .ref q24, .ref q32, .ref q40, .ref q48, .ref q56, .ref q64, .int 65535])), (q7, .inl (aC 3, 16, .inr (.inr (.inr (.inr (fun _ => none)))))), (q16, .inl (aC 0, 16, .inl (fun _ => 0))), (q24, .inl (aC 0, 16, .inl (fun _ => 0))), (q32, .inl (aC 0, 16, .inl (fun _ => 0))), (q40, .inl (aC 0, 16, .inl (fun _ => 0))), (q48, .inl (aC 0, 16, .inl (fun _ => 0))), (q56, .inl (aC 0, 16, .inl (fun _ => 0))), (q64, .inl (aC 1, 16, .inr (.inl (fun _ => 0))))]) 75 [some (.ref h), none] []
  refine b_iconst (v := 0) C dX3_init_75 rfl ?_
  refine b_istore_n C dX3_init_76 rfl (by decide) rfl ?_
  have loop : ∀ m i, i ≤ 16 → 16 - i < m → ∀ g : Nat → Nat → Nat, S (8 + 4 * i) (128 + 41 * i) ([(h, .inr (3, [.ref q7, .ref q16, .ref q24, .ref q32, .ref q40, .ref q48, .ref q56, .ref q64, .int 65535])), (q7, .inl (aC 3, 16, .inr (.inr (.inr (.inr (fun j => if j < i then some (g 1 j) else none)))))), (q16, .inl (aC 0, 16, .inl (fun _ => 0))), (q24, .inl (aC 0, 16, .inl (fun _ => 0))), (q32, .inl (aC 0, 16, .inl (fun _ => 0))), (q40, .inl (aC 0, 16, .inl (fun _ => 0))), (q48, .inl (aC 0, 16, .inl (fun _ => 0))), (q56, .inl (aC 0, 16, .inl (fun j => if j < i then nI j else 0))), (q64, .inl (aC 1, 16, .inr (.inl (fun _ => 0))))] ++ flF aC g i) 77 [some (.ref h), some (.int (nI i))] [] := by
    intro m
    induction m with
    | zero => intro i _ hm; omega
    | succ m ih =>
      intro i hi hm g
      refine b_iload_n C dX3_init_77 rfl rfl ?_
      refine b_bipush (v := 16) C dX3_init_78 rfl ?_
      refine b_icmpge (tgt := 109) C dX3_init_80 (by decide) (fun c80 => ?_) (fun c80 => ?_)
      · have hi16 : i = 16 := by
          have := (nI_leI (a := 16) (by omega) (by omega)).mp c80
          omega
        subst hi16
        refine b_arr C 1 (16, .inr (.inr (.inr (.inr (fun j => some (g 1 j)))))) rfl (cv_q _ _ (fun j hj => if_pos hj)) ?_
        refine b_arr C 7 (16, .inl (fun j => nI j)) rfl (cv_i _ _ (fun j hj => if_pos hj)) ?_
        exact b_ret C trivial dX3_init_109 (by decide) (by decide) ⟨q7, q16, q24, q32, q40, q48, q56, q64, g, rfl⟩
      · have hil : i < 16 := (nI_ltI (b := 16) (by omega) (by omega)).mp (Int32.not_le.mp c80)
        refine b_aload_n C dX3_init_83 rfl rfl ?_
        refine b_get (f := 0) C 0 dX3_init_84 rfl rfl kU3 (by decide) kf_X3_11 rfl rfl ?_
        refine b_iload_n C dX3_init_87 rfl rfl ?_
        refine b_new (ci := 0) (N := 5) (fs := [.null, .null, .null, .int 0, .int 0]) C dX3_init_88 kU0 tyX0 tyX0_ok kz_X3_9 kzi_X0 kzn_X0 rfl (by decide) (by omega) (by omega) ?_
        intro q88
        refine b_dup C dX3_init_91 rfl ?_
        refine b_ctor C dX3_init_92 (c_X0_init q88) kB_X0_init kI_X0_init (Or.inr ⟨_, kl_X3_45⟩) rfl (by decide) (Nat.le_of_ble_eq_true rfl) (by omega) (by omega) ?_
        rintro ws' ⟨a, b, c, rfl⟩
        refine b_aast (t0 := 3) (ci := 0) (r := (RX0, TX0, 5)) C 1 dX3_init_95 rfl rfl (List.mem_append_right _ List.mem_cons_self) rfl (vp_in_nI hil (by decide)) ?_
        rw [nI_clamp (by omega), lp_q 1 g i q88 a b c (Or.inl rfl)]
        refine b_aload_n C dX3_init_96 rfl rfl ?_
        refine b_get (f := 6) C 0 dX3_init_97 rfl rfl kU3 (by decide) kf_X3_33 rfl rfl ?_
        refine b_iload_n C dX3_init_100 rfl rfl ?_
        refine b_iload_n C dX3_init_101 rfl rfl ?_
        refine b_iast C 7 dX3_init_102 rfl (vp_in_nI hil (by decide)) ?_
        rw [nI_clamp (by omega), lp_n]
        refine b_iinc C dX3_init_103 rfl rfl (by decide) rfl ?_
        refine b_goto (tgt := 77) C dX3_init_106 (by decide) ?_
        exact b_swk (ih (i + 1) (by omega) (by omega) (gup g i q88 a b c)) (by omega) (by omega) (by rw [flF_s, ← List.append_assoc]; rfl) (by rw [← nI_p1]; rfl)
  exact b_swk (loop 17 0 (by omega) (by omega) (gup (fun _ _ => 0) 0 0 0 0 0)) rfl rfl (by rw [lp_0n, lp_q0]; rfl) rfl
