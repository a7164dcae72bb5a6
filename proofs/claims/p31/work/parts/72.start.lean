/-! ===== the world at the start, and what stands at the entry: printed by p72.py ===== -/
def adW (h dr da db dc sh q a0 a1 a2 a3 a4 a5 a6 tq tr ta tb tc te tx dk ka kb kc : Nat) (g p : Nat → Nat → Nat) (r : Nat → Nat) (l0 l1 l2 l3 : Nat) : Nat → Nat → Nat := fun f c => match f with
  | 0 => h
  | 1 => if c = 16 then dr else g 1 c
  | 2 => if c = 16 then da else g 2 c
  | 3 => if c = 16 then db else g 3 c
  | 4 => if c = 16 then dc else g 4 c
  | 5 => sh
  | 6 => q
  | 7 => [a0, a1, a2, a3, a4, a5].getD c 0
  | 8 => a6
  | 9 => tq
  | 10 => p 10 c
  | 11 => p 11 c
  | 12 => p 12 c
  | 13 => tr
  | 14 => [ta, tb, tc, te].getD c 0
  | 15 => tx
  | 16 => r c
  | 17 => dk
  | 18 => [ka, kb, kc].getD c 0
  | _ => [l0, l1, l2, l3].getD c 0
def sg0 : gSig := fun f c i => match f with
  | 5 => 65535
  | 7 => (match c with
    | 5 => nI i
    | _ => 0)
  | 18 => (match c with
    | 1 => -1
    | _ => 0)
  | _ => 0
def ta0 : gTau := fun _ _ => 0
/-- the places of the world in the order in which it is made -/
def gpI : List (Nat × Nat) := ([(0, 0), (1, 16), (2, 16), (3, 16), (4, 16), (5, 0), (6, 0), (7, 0), (7, 1), (7, 2), (7, 3), (7, 4), (7, 5), (8, 0), (9, 0)] ++ (List.range 16).flatMap (fun c => [(1, c), (2, c), (3, c), (4, c)]) ++ (List.range 16).flatMap (fun c => [(10, c), (11, c), (12, c)]) ++ ([(13, 0), (14, 0), (14, 1), (14, 2), (14, 3), (15, 0)] ++ (List.range 16).map (fun i => (16, i))) ++ [(17, 0), (18, 0), (18, 1), (18, 2)]) ++ [(19, 0)] ++ [(19, 1)] ++ [(19, 2)] ++ [(19, 3)]
theorem gpI_all : ∀ x, x ∈ gix → x ∈ gpI := by
  have h : gix.all (fun x => gpI.contains x) = true := by decide +kernel
  intro x hx
  exact List.contains_iff_mem.mp (List.all_eq_true.mp h x hx)
abbrev I16z (aC : Nat → ClassId) : va_E := .inl (aC 0, 16, .inl (fun _ => 0))
abbrev wsAll (aC : Nat → ClassId) (h dr da db dc sh q a0 a1 a2 a3 a4 a5 a6 tq tr ta tb tc te tx dk ka kb kc : Nat) (g p : Nat → Nat → Nat) (r : Nat → Nat) (l0 l1 l2 l3 : Nat) : va_W := gpW aC h dr da db dc sh q a0 a1 a2 a3 a4 a5 a6 tq tr ta tb tc te tx dk ka kb kc g p r ++ [(l0, I16z aC)] ++ [(l1, I16z aC)] ++ [(l2, I16z aC)] ++ [(l3, I16z aC)]
set_option maxRecDepth 1000000 in
set_option maxHeartbeats 4000000 in
theorem ws_eq (aC : Nat → ClassId) (h dr da db dc sh q a0 a1 a2 a3 a4 a5 a6 tq tr ta tb tc te tx dk ka kb kc : Nat) (g p : Nat → Nat → Nat) (r : Nat → Nat) (l0 l1 l2 l3 : Nat) : (wsAll aC h dr da db dc sh q a0 a1 a2 a3 a4 a5 a6 tq tr ta tb tc te tx dk ka kb kc g p r l0 l1 l2 l3).set 6 (q, cel (adW h dr da db dc sh q a0 a1 a2 a3 a4 a5 a6 tq tr ta tb tc te tx dk ka kb kc g p r l0 l1 l2 l3) aC sg0 ta0 6 0) = gpI.map (fun x => (adW h dr da db dc sh q a0 a1 a2 a3 a4 a5 a6 tq tr ta tb tc te tx dk ka kb kc g p r l0 l1 l2 l3 x.1 x.2, cel (adW h dr da db dc sh q a0 a1 a2 a3 a4 a5 a6 tq tr ta tb tc te tx dk ka kb kc g p r l0 l1 l2 l3) aC sg0 ta0 x.1 x.2)) := rfl
theorem ws_6 (aC : Nat → ClassId) (h dr da db dc sh q a0 a1 a2 a3 a4 a5 a6 tq tr ta tb tc te tx dk ka kb kc : Nat) (g p : Nat → Nat → Nat) (r : Nat → Nat) (l0 l1 l2 l3 : Nat) : (wsAll aC h dr da db dc sh q a0 a1 a2 a3 a4 a5 a6 tq tr ta tb tc te tx dk ka kb kc g p r l0 l1 l2 l3)[6]? = some (q, .inl (aC 3, 16, .inr (.inr (.inr (.inr (fun j => some (g 1 j))))))) := rfl
/-- the world made is the world -/
theorem ws_all {D : va_G} {A : Nat → Prop} {H : Heap} (aC : Nat → ClassId) (h dr da db dc sh q a0 a1 a2 a3 a4 a5 a6 tq tr ta tb tc te tx dk ka kb kc : Nat) (g p : Nat → Nat → Nat) (r : Nat → Nat) (l0 l1 l2 l3 : Nat) (hP : va_P D gcl (wsAll aC h dr da db dc sh q a0 a1 a2 a3 a4 a5 a6 tq tr ta tb tc te tx dk ka kb kc g p r l0 l1 l2 l3) H) (hD : va_D A (wsAll aC h dr da db dc sh q a0 a1 a2 a3 a4 a5 a6 tq tr ta tb tc te tx dk ka kb kc g p r l0 l1 l2 l3)) : va_P D gcl (Wd (adW h dr da db dc sh q a0 a1 a2 a3 a4 a5 a6 tq tr ta tb tc te tx dk ka kb kc g p r l0 l1 l2 l3) aC sg0 ta0) H ∧ gInj (adW h dr da db dc sh q a0 a1 a2 a3 a4 a5 a6 tq tr ta tb tc te tx dk ka kb kc g p r l0 l1 l2 l3) ∧ ∀ x ∈ gix, A (adW h dr da db dc sh q a0 a1 a2 a3 a4 a5 a6 tq tr ta tb tc te tx dk ka kb kc g p r l0 l1 l2 l3 x.1 x.2) := by
  have h6 := ws_6 aC h dr da db dc sh q a0 a1 a2 a3 a4 a5 a6 tq tr ta tb tc te tx dk ka kb kc g p r l0 l1 l2 l3
  have hP2 : va_P D gcl ((wsAll aC h dr da db dc sh q a0 a1 a2 a3 a4 a5 a6 tq tr ta tb tc te tx dk ka kb kc g p r l0 l1 l2 l3).set 6 (q, cel (adW h dr da db dc sh q a0 a1 a2 a3 a4 a5 a6 tq tr ta tb tc te tx dk ka kb kc g p r l0 l1 l2 l3) aC sg0 ta0 6 0)) H := by
    refine va_P.set (H := H) hP hD h6 ?_ (fun _ _ => rfl)
    have h1 := hP 6 _ h6
    show H[q]? = some (vp_cell (aC 3) (16, .inr (.inr (.inr (.inr (fun i => some (adW h dr da db dc sh q a0 a1 a2 a3 a4 a5 a6 tq tr ta tb tc te tx dk ka kb kc g p r l0 l1 l2 l3 1 i)))))))
    rw [← cv_q (aC 3) 16 (f := fun j => some (g 1 j)) (fun j hj => ?_)]
    · exact h1
    · show some (g 1 j) = some (if j = 16 then dr else g 1 j)
      rw [if_neg (by omega)]
  have hD2 := va_D.set hD h6 (e := cel (adW h dr da db dc sh q a0 a1 a2 a3 a4 a5 a6 tq tr ta tb tc te tx dk ka kb kc g p r l0 l1 l2 l3) aC sg0 ta0 6 0)
  rw [ws_eq] at hP2 hD2
  have hat : ∀ x, x ∈ gix → ∃ i, (gpI.map (fun x => (adW h dr da db dc sh q a0 a1 a2 a3 a4 a5 a6 tq tr ta tb tc te tx dk ka kb kc g p r l0 l1 l2 l3 x.1 x.2, cel (adW h dr da db dc sh q a0 a1 a2 a3 a4 a5 a6 tq tr ta tb tc te tx dk ka kb kc g p r l0 l1 l2 l3) aC sg0 ta0 x.1 x.2)))[i]? = some (adW h dr da db dc sh q a0 a1 a2 a3 a4 a5 a6 tq tr ta tb tc te tx dk ka kb kc g p r l0 l1 l2 l3 x.1 x.2, cel (adW h dr da db dc sh q a0 a1 a2 a3 a4 a5 a6 tq tr ta tb tc te tx dk ka kb kc g p r l0 l1 l2 l3) aC sg0 ta0 x.1 x.2) ∧ gpI[i]? = some x := fun x hx => by
    obtain ⟨i, hi⟩ := List.getElem?_of_mem (gpI_all x hx)
    exact ⟨i, by rw [List.getElem?_map, hi]; rfl, hi⟩
  refine ⟨fun k z hz => ?_, fun x hx y hy e => ?_, fun x hx => ?_⟩
  · obtain ⟨x, hx, rfl⟩ := List.mem_map.mp (List.mem_of_getElem? hz)
    obtain ⟨i, hi, -⟩ := hat x hx
    exact hP2 i _ hi
  · obtain ⟨i, hi, hi2⟩ := hat x hx
    obtain ⟨j, hj, hj2⟩ := hat y hy
    have := hD2.1 i j _ _ hi hj e
    subst this
    exact Option.some.inj (hi2.symm.trans hj2)
  · obtain ⟨i, hi, -⟩ := hat x hx
    exact hD2.2 i _ hi
theorem inv0 : Inv sg0 0 := by
  have hb : ∀ c, c < 16 → bt 65535 c = true := fun c hc => by rw [b_65535]; exact decide_eq_true hc
  have hm : m16 65535 := fun i hi => by rw [b_65535]; exact decide_eq_false (by omega)
  refine ⟨⟨fun i => i, fun i hi => ⟨rfl, hi⟩, fun i _ d _ q => ?_, fun i j _ _ e => e, fun c hc => ⟨c, hc, rfl⟩, fun c _ => ⟨m16_0, fun d => ?_⟩, fun c hc => ⟨fun _ => rfl, fun q => ?_⟩, hm⟩, fun c _ d q => ?_, fun c hc q => ?_, fun c hc => ⟨fun _ => ⟨rfl, rfl, rfl⟩, fun q => ?_, ?_, ?_, ?_, ?_⟩, fun c _ => ⟨0, ⟨rfl, Nat.zero_le _, fun p hp => absurd hp (Nat.not_lt_zero p)⟩, rfl⟩, ⟨m16_0, m16_0, fun c _ q => ?_⟩, ⟨0, by omega, rfl⟩⟩
  · have q2 : bt 0 d = true := q
    rw [b_0] at q2; cases q2
  · show bt 0 d = (bt 0 d || anyB (fun e => bt 0 e && bt 0 d) 16)
    rw [anyB_congr (q := fun _ => false) (fun i _ => by rw [b_0]; rfl), b_0]
    rfl
  · have q2 : bt 65535 c = false := q
    rw [hb c hc] at q2; cases q2
  · have q2 : bt 0 d = true := q
    rw [b_0] at q2; cases q2
  · have q2 : bt 65535 c = false := q
    rw [hb c hc] at q2; cases q2
  · have q2 : bt 65535 c = false := q
    rw [hb c hc] at q2; cases q2
  · show (-1000 : Int) ≤ (0 : Int32).toInt
    decide
  · show (0 : Int32).toInt ≤ 1000
    decide
  · show (0 : Int32).toInt ≤ (0 : Int32).toInt
    decide
  · show (0 : Int32).toInt ≤ (0 : Int32).toInt + 299
    decide
  · have q2 : bt 0 c = true := q
    rw [b_0] at q2; cases q2
theorem W_room {p : Program} {l : Launch} {e : Env} {R R' : Room} {s : State} {m : MethodId} {args : Array Value} {below : List Frame} {meth : Method} {c : Code} {H : Heap} {locs : List Loc} {cells slots : Nat} {Q : State → Prop} {g : JFrame} (hf : R'.frames ≤ R.frames) (hl : R'.locals ≤ R.locals) (hc : R'.cells ≤ R.cells) (hs : R'.slots ≤ R.slots) (k : W p l e R' s m args below meth c H locs cells slots Q g) : W p l e R s m args below meth c H locs cells slots Q g := fun T hT X => k T hT ⟨X.admits, X.cas, X.clock, X.frames, hasRoom_mono hf hl hc hs X.room, X.hears, X.method, X.code, X.here, X.tail, X.warmed, X.limits, X.bytes, X.same⟩
theorem aoa_spec {s : State} (h : va_AOA .int s) : ∃ (cA : ClassId) (kA : Class) (comp : ClassId), s.vm.classes[cA]? = some kA ∧ kA.kind = .array comp (.array .int) ∧ s.vm.findClass ("[" ++ (FieldType.array .int).toString) = some cA := by
  unfold va_AOA Cond.before Cond.holds at h
  simp only [Cond.value, beq_iff_eq] at h
  cases hc : s.vm.findClass (FieldType.array .int).toString with
  | none => rw [hc] at h; cases h
  | some comp =>
    simp only [hc, Option.bind_some, Option.bind_eq_some_iff, Option.map_eq_some_iff] at h
    obtain ⟨c, hi, k, hk, hb⟩ := h
    cases hkind : k.kind with
    | array component ty =>
      rw [hkind] at hb
      simp at hb
      exact ⟨c, k, component, hk, by rw [hkind, hb.1], hb.2⟩
    | _ => rw [hkind] at hb; simp at hb
theorem start_K {s : State} {args : Array Value} (hG : ∀ w ∈ wsG, w.before args s = true) (hO : Ox s) : ∃ (D : va_G) (aC : Nat → ClassId), va_K D gcl (gty aC) s := by
  obtain ⟨c0, i0, k0⟩ := u_known (C := RX0) (T := TX0) (N := 5) (n := 5) hG kU0 (hG (.instantiable RX0 5) (wsG_of (by decide +kernel) (by decide +kernel)))
  obtain ⟨c1, i1, k1⟩ := u_known (C := RX1) (T := TX1) (N := 5) (n := 5) hG kU1 (hG (.instantiable RX1 5) (wsG_of (by decide +kernel) (by decide +kernel)))
  obtain ⟨c2, i2, k2⟩ := u_known (C := RX2) (T := TX2) (N := 3) (n := 3) hG kU2 (hG (.instantiable RX2 3) (wsG_of (by decide +kernel) (by decide +kernel)))
  obtain ⟨c3, i3, k3⟩ := u_known (C := RX3) (T := TX3) (N := 9) (n := 9) hG kU3 (hG (.instantiable RX3 9) (wsG_of (by decide +kernel) (by decide +kernel)))
  obtain ⟨c4, i4, k4⟩ := u_known (C := RX4) (T := TX4) (N := 9) (n := 9) hG kU4 (hG (.instantiable RX4 9) (wsG_of (by decide +kernel) (by decide +kernel)))
  obtain ⟨c5, i5, k5⟩ := u_known (C := RX5) (T := TX5) (N := 5) (n := 5) hG kU5 (hG (.instantiable RX5 5) (wsG_of (by decide +kernel) (by decide +kernel)))
  obtain ⟨a0, ka0, co0, f0, g0, h0⟩ := Cond.arrayClass_spec (hG (.arrayClass .int) (wsG_of (by decide +kernel) (by decide +kernel)))
  obtain ⟨a1, ka1, co1, f1, g1, h1⟩ := Cond.arrayClass_spec (hG (.arrayClass .long) (wsG_of (by decide +kernel) (by decide +kernel)))
  obtain ⟨co3, a3, ka3, f3, -, g3, h3, e3⟩ := Cond.arrayOver_spec (va_AO.use (A := #[]) hO.1)
  obtain ⟨co4, a4, ka4, f4, -, g4, h4, e4⟩ := Cond.arrayOver_spec (va_AO.use (A := #[]) hO.2.1)
  obtain ⟨a5, ka5, co5, g5, h5, f5⟩ := aoa_spec hO.2.2
  refine ⟨(fun k => [c0, c1, c2, c3, c4, c5].getD k c0, fun k => [i0, i1, i2, i3, i4, i5].getD k i0), fun k => [a0, a1, a0, a3, a4, a5].getD k a0, fun k q hq => ?_, fun k q hq => ?_⟩
  · match k, hq with
    | 0, hq => cases hq; exact k0
    | 1, hq => cases hq; exact k1
    | 2, hq => cases hq; exact k2
    | 3, hq => cases hq; exact k3
    | 4, hq => cases hq; exact k4
    | 5, hq => cases hq; exact k5
    | k + 6, hq => cases hq
  · match k, hq with
    | 0, hq => cases hq; exact ⟨fun n z => ⟨(fun k h => by cases h), ka0, g0, co0, h0⟩, f0⟩
    | 1, hq => cases hq; exact ⟨fun n z => ⟨(fun k h => by cases h), ka1, g1, co1, h1⟩, f1⟩
    | 2, hq => cases hq; exact ⟨fun n z => ⟨(fun k h => by cases h), ka0, g0, co0, h0⟩, f0⟩
    | 3, hq => cases hq; exact ⟨fun n z => ⟨(fun k h => by cases h), ka3, g3, co3, h3⟩, ka3, co3, g3, h3, f3, e3⟩
    | 4, hq => cases hq; exact ⟨fun n z => ⟨(fun k h => by cases h), ka4, g4, co4, h4⟩, ka4, co4, g4, h4, f4, e4⟩
    | 5, hq => cases hq; exact ⟨fun n z => ⟨(fun k h => by cases h), ka5, g5, co5, h5⟩, f5⟩
    | k + 6, hq => cases hq
theorem st_nw : ∀ w ∈ gNw, w ∈ lw_tbl := by decide +kernel
theorem st_str : ∀ q ∈ gStr, Cond.stringRef q.1 q.2.1 q.2.2 ∈ lw_tbl := by decide +kernel
theorem st_ex : ∀ q ∈ gStr, Cond.exactly (.string q.1 q.2.1) "java/lang/String" ∈ flatC (Jvm.Cond.and given_1 narrow_1) := by decide +kernel
theorem st_is : ∀ w ∈ [Cond.isRef (.static Bundle.tN "UNASSIGNED_STACK" Bundle.steD), Cond.isRef (.static Bundle.tN "SUPPRESSED_SENTINEL" Bundle.listD)], w ∈ flatC (Jvm.Cond.and given_1 narrow_1) := by decide +kernel
theorem st_tb : ∀ w ∈ [Cond.laysStatic Bundle.tN "UNASSIGNED_STACK" Bundle.steD, .laysStatic Bundle.tN "SUPPRESSED_SENTINEL" Bundle.listD, .initialized Bundle.tN, .arrayOver (.object RX0), .arrayOver (.object RX2), .arrayOver (.array .int)], w ∈ lw_tbl := by decide +kernel
theorem start_words {s : State} {args : Array Value} (hts : ∀ w ∈ lw_tbl, w.before args s = true) (hfl : ∀ c ∈ flatC (Jvm.Cond.and given_1 narrow_1), c.before args s = true) : Nx s ∧ Ox s ∧ ∀ A : Nat → Prop, (∀ a : Nat, a < s.heap.size → ¬ A a) → Sx A s := by
  refine ⟨fun w hw => va_Nw.of (gNw_tab hw) (hts w (st_nw w hw)), ⟨va_AO.of (hts _ (st_tb _ (by simp))), va_AO.of (hts _ (st_tb _ (by simp))), va_AOA.of (hts _ (st_tb _ (by simp)))⟩, fun A hA => ⟨vx_Zqof (hts _ (st_tb _ (by simp))) (hts _ (st_tb _ (by simp))) (hfl _ (st_is _ (by simp))) hA, vx_Zqof (hts _ (st_tb _ (by simp))) (hts _ (st_tb _ (by simp))) (hfl _ (st_is _ (by simp))) hA, fun q hq => ?_⟩⟩
  obtain ⟨a, -, -, -, ha, -⟩ := Cond.exactly_spec (hfl _ (st_ex q hq))
  exact ⟨a, vk_R.of (hts _ (st_str q hq)) ha⟩
set_option maxRecDepth 100000 in
set_option maxHeartbeats 4000000 in
theorem l_start {l : Launch} {D : va_G} {aC : Nat → ClassId} {b : Nat} {S : bS} (C : Bx l D aC cL_law RL 16 11 1000 10000 False [] (fun _ => True) S) (kk : ∀ (h dr da db dc sh q a0 a1 a2 a3 a4 a5 a6 tq tr ta tb tc te tx dk ka kb kc : Nat) (g p : Nat → Nat → Nat) (r : Nat → Nat) (l0 l1 l2 l3 : Nat), S 157 1493 (wsAll aC h dr da db dc sh q a0 a1 a2 a3 a4 a5 a6 tq tr ta tb tc te tx dk ka kb kc g p r l0 l1 l2 l3) 30 [some (.ref b), some (.ref h), some (.ref l0), some (.ref l1), some (.ref l2), some (.ref l3), none, none, none, none, none, none, none, none, none, none] []) : S 0 0 [] 0 (mkL 16 [.ref b]) [] := by
  refine b_new (ci := 5) (N := 5) (fs := [.null, .null, .null, .null, .null]) C dL_law_0 kU5 tyX5 tyX5_ok (wsG_of (by decide +kernel) (by decide +kernel)) (wsG_of (by decide +kernel) (by decide +kernel)) (wsG_of (by decide +kernel) (by decide +kernel)) rfl (by decide) (Nat.le_of_ble_eq_true rfl) (Nat.le_of_ble_eq_true rfl) ?_
  intro h
  refine b_dup C dL_law_3 rfl ?_
  refine b_ctor (wr := []) C dL_law_4 (c_X5_init h) kB_X5_init kI_X5_init (Or.inl kl_L_36) rfl (by decide) (Nat.le_of_ble_eq_true rfl) (Nat.le_of_ble_eq_true rfl) (Nat.le_of_ble_eq_true rfl) ?_
  rintro ws' ⟨dr, da, db, dc, sh, q, a0, a1, a2, a3, a4, a5, a6, tq, tr, ta, tb, tc, te, tx, dk, ka, kb, kc, g, p, r, rfl⟩
  refine b_astore_n C dL_law_7 rfl (by decide) rfl ?_
  refine b_bipush (v := 16) C dL_law_8 rfl ?_
  refine b_newa (t0 := 0) (N := 16) (a0 := (16, .inl (fun _ => 0))) C dL_law_10 rfl (fun _ h => by cases h) kA_int rfl (fun _ => rfl) (by decide) (by decide) (Nat.le_of_ble_eq_true rfl) (Nat.le_of_ble_eq_true rfl) (Nat.le_of_ble_eq_true rfl) ?_
  intro l0
  refine b_astore_n C dL_law_12 rfl (by decide) rfl ?_
  refine b_bipush (v := 16) C dL_law_13 rfl ?_
  refine b_newa (t0 := 0) (N := 16) (a0 := (16, .inl (fun _ => 0))) C dL_law_15 rfl (fun _ h => by cases h) kA_int rfl (fun _ => rfl) (by decide) (by decide) (Nat.le_of_ble_eq_true rfl) (Nat.le_of_ble_eq_true rfl) (Nat.le_of_ble_eq_true rfl) ?_
  intro l1
  refine b_astore_n C dL_law_17 rfl (by decide) rfl ?_
  refine b_bipush (v := 16) C dL_law_18 rfl ?_
  refine b_newa (t0 := 0) (N := 16) (a0 := (16, .inl (fun _ => 0))) C dL_law_20 rfl (fun _ h => by cases h) kA_int rfl (fun _ => rfl) (by decide) (by decide) (Nat.le_of_ble_eq_true rfl) (Nat.le_of_ble_eq_true rfl) (Nat.le_of_ble_eq_true rfl) ?_
  intro l2
  refine b_astore C dL_law_22 (by decide) rfl ?_
  refine b_bipush (v := 16) C dL_law_24 rfl ?_
  refine b_newa (t0 := 0) (N := 16) (a0 := (16, .inl (fun _ => 0))) C dL_law_26 rfl (fun _ h => by cases h) kA_int rfl (fun _ => rfl) (by decide) (by decide) (Nat.le_of_ble_eq_true rfl) (Nat.le_of_ble_eq_true rfl) (Nat.le_of_ble_eq_true rfl) ?_
  intro l3
  refine b_astore C dL_law_28 (by decide) rfl ?_
  exact b_swk (kk h dr da db dc sh q a0 a1 a2 a3 a4 a5 a6 tq tr ta tb tc te tx dk ka kb kc g p r l0 l1 l2 l3) rfl rfl rfl rfl
