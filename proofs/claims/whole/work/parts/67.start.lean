/-! ===== the start: what stands at the entry, what is made, the relation: printed by g67.py ===== -/
theorem rel0 : Rel sg0 := by
  have hb : ∀ c, c < 16 → bt 65535 c = true := fun c hc => by rw [b_65535]; exact decide_eq_true hc
  have hm : m16 65535 := fun i hi => by rw [b_65535]; exact decide_eq_false (by omega)
  have hmR : ∀ z, mR sg0 z = 0 := fun z => by
    unfold mR
    rw [show mL sg0 z = 0 from rfl]
    rfl
  have hI : ∀ c, c < 16 → mIn sg0 c = true := fun c hc => rfl
  refine ⟨⟨0, Nat.zero_le _, rfl, rfl, rfl, rfl, fun j hj => absurd hj (Nat.not_lt_zero j), fun j hj => absurd hj (Nat.not_lt_zero j), fun j hj => absurd hj (Nat.not_lt_zero j)⟩, ⟨⟨fun i => i, fun i hi => ⟨rfl, hi⟩, fun i _ d _ q => ?_, fun i j _ _ e => e, fun c hc => ⟨c, hc, rfl⟩, fun c _ => ⟨m16_0, fun d => ?_⟩, fun c hc => ⟨fun _ => rfl, fun q => ?_⟩, hm⟩, ⟨fun i => i, fun i hi => ⟨rfl, hi⟩, fun i _ d _ q => ?_, fun i j _ _ e => e, fun c hc => ⟨c, hc, rfl⟩, fun c _ => ⟨rfl, Nat.zero_le _, fun k hk => absurd hk (Nat.not_lt_zero k)⟩, fun c _ q => absurd rfl q⟩, fun c _ _ => ⟨(by decide : (-1000000 : Int32) ≤ 0), (by decide : (0 : Int32) ≤ 0), (by decide : (0 : Int32) ≤ 1000000)⟩, fun c hc => ⟨(hb c hc).trans (hI c hc).symm, rfl, rfl, fun q => ?_⟩⟩, fun c _ => ⟨0, ⟨rfl, Nat.zero_le _, fun p hp => absurd hp (Nat.not_lt_zero p)⟩, ⟨rfl, Nat.zero_le _, fun p hp => absurd hp (Nat.not_lt_zero p)⟩, fun p hp => absurd hp (Nat.not_lt_zero p)⟩, ⟨m16_0, m16_0, fun c _ => ⟨fun q => ?_, ?_, fun q => ?_, fun _ => rfl⟩⟩, ⟨⟨0, by omega, rfl⟩, rfl, fun c _ => ⟨rfl, rfl, rfl⟩⟩, ⟨0, Nat.zero_le _, rfl, rfl, fun j hj => absurd hj (Nat.not_lt_zero j)⟩⟩
  · have q2 : bt 0 d = true := q
    rw [b_0] at q2; cases q2
  · show bt 0 d = (bt 0 d || anyB (fun e => bt 0 e && bt 0 d) 16)
    rw [anyB_congr (q := fun _ => false) (fun i _ => by rw [b_0]; rfl), b_0]
    rfl
  · have q2 : bt 65535 c = false := q
    rw [hb c hc] at q2; cases q2
  · rw [hmR, b_0] at q; cases q
  · rw [hI c hc] at q; cases q
  · have q2 : bt 0 c = true := q
    rw [b_0] at q2; cases q2
  · unfold veC
    rw [show sg0 13 0 6 = 0 from rfl, show sg0 13 0 5 = 0 from rfl, b_0]
    rfl
  · have q2 : bt 0 c = true := q
    rw [b_0] at q2; cases q2
theorem W_room {p : Program} {l : Launch} {e : Env} {R R' : Room} {s : State} {m : MethodId} {args : Array Value} {below : List Frame} {meth : Method} {c : Code} {H : Heap} {locs : List Loc} {cells slots : Nat} {Q : State → Prop} {g : JFrame} (hf : R'.frames ≤ R.frames) (hl : R'.locals ≤ R.locals) (hc : R'.cells ≤ R.cells) (hs : R'.slots ≤ R.slots) (k : W p l e R' s m args below meth c H locs cells slots Q g) : W p l e R s m args below meth c H locs cells slots Q g := fun T hT X => k T hT ⟨X.admits, X.cas, X.clock, X.frames, hasRoom_mono hf hl hc hs X.room, X.hears, X.method, X.code, X.here, X.tail, X.warmed, X.limits, X.bytes, X.same⟩
theorem aoa_spec {s : State} (h : va_AOA .int s) : ∃ (cA : ClassId) (kA : Class) (comp : ClassId), s.vm.classes[cA]? = some kA ∧ kA.kind = .array comp (.array .int) ∧ s.vm.findClass ("[" ++ (FieldType.array .int).toString) = some cA := by
  unfold va_AOA Cond.before Cond.holds at h
  simp only [Cond.value, beq_iff_eq] at h
  cases hc : s.vm.findClass (FieldType.array .int).toString with
  | none => rw [hc] at h; cases h
  | some comp =>
    simp only [hc, Option.bind_some, Option.bind_eq_some_iff, Option.map_eq_some_iff] at h
    obtain ⟨c, hi, k, hk, hb⟩ := h
    cases hkind : k.kind with
    | array component ty =>
      rw [hkind] at hb
      simp at hb
      exact ⟨c, k, component, hk, by rw [hkind, hb.1], hb.2⟩
    | _ => rw [hkind] at hb; simp at hb
theorem start_K {s : State} {args : Array Value} (hG : ∀ w ∈ wsG, w.before args s = true) (hO : Ox s) : ∃ (D : va_G) (aC : Nat → ClassId), va_K D gcl (gty aC) s := by
  obtain ⟨c0, i0, k0⟩ := u_known (C := RX0) (T := TX0) (N := 5) (n := 5) hG kU0 (hG (.instantiable RX0 5) (wsG_of (by decide +kernel) (by decide +kernel)))
  obtain ⟨c1, i1, k1⟩ := u_known (C := RX1) (T := TX1) (N := 5) (n := 5) hG kU1 (hG (.instantiable RX1 5) (wsG_of (by decide +kernel) (by decide +kernel)))
  obtain ⟨c2, i2, k2⟩ := u_known (C := RX2) (T := TX2) (N := 3) (n := 3) hG kU2 (hG (.instantiable RX2 3) (wsG_of (by decide +kernel) (by decide +kernel)))
  obtain ⟨c3, i3, k3⟩ := u_known (C := RX3) (T := TX3) (N := 9) (n := 9) hG kU3 (hG (.instantiable RX3 9) (wsG_of (by decide +kernel) (by decide +kernel)))
  obtain ⟨c4, i4, k4⟩ := u_known (C := RX4) (T := TX4) (N := 9) (n := 9) hG kU4 (hG (.instantiable RX4 9) (wsG_of (by decide +kernel) (by decide +kernel)))
  obtain ⟨c5, i5, k5⟩ := u_known (C := RX5) (T := TX5) (N := 5) (n := 5) hG kU5 (hG (.instantiable RX5 5) (wsG_of (by decide +kernel) (by decide +kernel)))
  obtain ⟨c6, i6, k6⟩ := u_known (C := RX6) (T := TX6) (N := 30) (n := 30) hG kU6 (hG (.instantiable RX6 30) (wsG_of (by decide +kernel) (by decide +kernel)))
  obtain ⟨a0, ka0, co0, f0, g0, h0⟩ := Cond.arrayClass_spec (hG (.arrayClass .int) (wsG_of (by decide +kernel) (by decide +kernel)))
  obtain ⟨a1, ka1, co1, f1, g1, h1⟩ := Cond.arrayClass_spec (hG (.arrayClass .long) (wsG_of (by decide +kernel) (by decide +kernel)))
  obtain ⟨a2, ka2, co2, f2, g2, h2⟩ := Cond.arrayClass_spec (hG (.arrayClass .boolean) (wsG_of (by decide +kernel) (by decide +kernel)))
  obtain ⟨co3, a3, ka3, f3, -, g3, h3, e3⟩ := Cond.arrayOver_spec (va_AO.use (A := #[]) hO.1)
  obtain ⟨co4, a4, ka4, f4, -, g4, h4, e4⟩ := Cond.arrayOver_spec (va_AO.use (A := #[]) hO.2.1)
  obtain ⟨a5, ka5, co5, g5, h5, f5⟩ := aoa_spec hO.2.2
  refine ⟨(fun k => [c0, c1, c2, c3, c4, c5, c6].getD k c0, fun k => [i0, i1, i2, i3, i4, i5, i6].getD k i0), fun k => [a0, a1, a2, a3, a4, a5].getD k a0, fun k q hq => ?_, fun k q hq => ?_⟩
  · match k, hq with
    | 0, hq => cases hq; exact k0
    | 1, hq => cases hq; exact k1
    | 2, hq => cases hq; exact k2
    | 3, hq => cases hq; exact k3
    | 4, hq => cases hq; exact k4
    | 5, hq => cases hq; exact k5
    | 6, hq => cases hq; exact k6
    | k + 7, hq => cases hq
  · match k, hq with
    | 0, hq => cases hq; exact ⟨fun n z => ⟨(fun k h => by cases h), ka0, g0, co0, h0⟩, f0⟩
    | 1, hq => cases hq; exact ⟨fun n z => ⟨(fun k h => by cases h), ka1, g1, co1, h1⟩, f1⟩
    | 2, hq => cases hq; exact ⟨fun n z => ⟨(fun k h => by cases h), ka2, g2, co2, h2⟩, f2⟩
    | 3, hq => cases hq; exact ⟨fun n z => ⟨(fun k h => by cases h), ka3, g3, co3, h3⟩, ka3, co3, g3, h3, f3, e3⟩
    | 4, hq => cases hq; exact ⟨fun n z => ⟨(fun k h => by cases h), ka4, g4, co4, h4⟩, ka4, co4, g4, h4, f4, e4⟩
    | 5, hq => cases hq; exact ⟨fun n z => ⟨(fun k h => by cases h), ka5, g5, co5, h5⟩, f5⟩
    | k + 6, hq => cases hq
theorem st_nw : ∀ w ∈ gNw, w ∈ lw_tbl := by decide +kernel
theorem st_str : ∀ q ∈ gStr, Cond.stringRef q.1 q.2.1 q.2.2 ∈ lw_tbl := by decide +kernel
theorem st_ex : ∀ q ∈ gStr, Cond.exactly (.string q.1 q.2.1) "java/lang/String" ∈ flatC (Jvm.Cond.and given_1 narrow_1) := by decide +kernel
theorem st_nc : ∀ q ∈ gNc, Cond.not (.castable q.1 q.2) ∈ flatC (Jvm.Cond.and given_1 narrow_1) := by decide +kernel
theorem st_is : ∀ w ∈ [Cond.isRef (.static Bundle.tN "UNASSIGNED_STACK" Bundle.steD), Cond.isRef (.static Bundle.tN "SUPPRESSED_SENTINEL" Bundle.listD)], w ∈ flatC (Jvm.Cond.and given_1 narrow_1) := by decide +kernel
theorem st_tb : ∀ w ∈ [Cond.laysStatic Bundle.tN "UNASSIGNED_STACK" Bundle.steD, .laysStatic Bundle.tN "SUPPRESSED_SENTINEL" Bundle.listD, .initialized Bundle.tN, .arrayOver (.object RX0), .arrayOver (.object RX2), .arrayOver (.array .int)], w ∈ lw_tbl := by decide +kernel
theorem start_words {s : State} {args : Array Value} (hts : ∀ w ∈ lw_tbl, w.before args s = true) (hfl : ∀ c ∈ flatC (Jvm.Cond.and given_1 narrow_1), c.before args s = true) : Nx s ∧ Ox s ∧ Ex s ∧ ∀ A : Nat → Prop, (∀ a : Nat, a < s.heap.size → ¬ A a) → Sx A s := by
  refine ⟨fun w hw => va_Nw.of (gNw_tab hw) (hts w (st_nw w hw)), ⟨va_AO.of (hts _ (st_tb _ (by simp))), va_AO.of (hts _ (st_tb _ (by simp))), va_AOA.of (hts _ (st_tb _ (by simp)))⟩, fun q hq => va_Nc.of (hfl _ (st_nc q hq)), fun A hA => ⟨vx_Zqof (hts _ (st_tb _ (by simp))) (hts _ (st_tb _ (by simp))) (hfl _ (st_is _ (by simp))) hA, vx_Zqof (hts _ (st_tb _ (by simp))) (hts _ (st_tb _ (by simp))) (hfl _ (st_is _ (by simp))) hA, fun q hq => ?_⟩⟩
  obtain ⟨a, -, -, -, ha, -⟩ := Cond.exactly_spec (hfl _ (st_ex q hq))
  exact ⟨a, vk_R.of (hts _ (st_str q hq)) ha⟩
set_option maxRecDepth 100000 in
set_option maxHeartbeats 4000000 in
theorem l_start {l : Launch} {D : va_G} {aC : Nat → ClassId} {b : Nat} {S : bS} (C : Bx l D aC cL_law RL 7 19 1000 10000 False [] (fun _ => True) S) (kk : ∀ (h dr da db dc sh q a0 a1 a2 a3 a4 a5 a6 tq tr ta tb tc te tx dk ka kb kc : Nat) (g p : Nat → Nat → Nat) (r : Nat → Nat) (h2 m0 m1 m2 m3 m4 m5 m6 m7 m8 m9 m10 m11 m12 m13 m14 m15 m16 m17 m18 m19 m20 m21 m22 m23 m24 o : Nat), S 180 2536 (wsAll aC h dr da db dc sh q a0 a1 a2 a3 a4 a5 a6 tq tr ta tb tc te tx dk ka kb kc g p r h2 m0 m1 m2 m3 m4 m5 m6 m7 m8 m9 m10 m11 m12 m13 m14 m15 m16 m17 m18 m19 m20 m21 m22 m23 m24 o) 20 [some (.ref b), some (.ref h), some (.ref h2), some (.ref o), none, none, none] []) : S 0 0 [] 0 (mkL 7 [.ref b]) [] := by
  refine b_new (ci := 5) (N := 5) (fs := [.null, .null, .null, .null, .null]) C dL_law_0 kU5 tyX5 tyX5_ok (wsG_of (by decide +kernel) (by decide +kernel)) (wsG_of (by decide +kernel) (by decide +kernel)) (wsG_of (by decide +kernel) (by decide +kernel)) rfl (by decide) (Nat.le_of_ble_eq_true rfl) (Nat.le_of_ble_eq_true rfl) ?_
  intro h
  refine b_dup C dL_law_3 rfl ?_
  refine b_ctor (wr := []) C dL_law_4 (c_X5_init h) kB_X5_init kI_X5_init (Or.inl kl_L_92) rfl (by decide) (Nat.le_of_ble_eq_true rfl) (Nat.le_of_ble_eq_true rfl) (Nat.le_of_ble_eq_true rfl) ?_
  rintro ws' ⟨dr, da, db, dc, sh, q, a0, a1, a2, a3, a4, a5, a6, tq, tr, ta, tb, tc, te, tx, dk, ka, kb, kc, g, p, r, rfl⟩
  refine b_astore_n C dL_law_7 rfl (by decide) rfl ?_
  refine b_new (ci := 6) (N := 30) (fs := [.int 0, .int 0, .int 0, .int 0, .null, .null, .null, .null, .null, .null, .null, .null, .null, .null, .null, .null, .null, .null, .null, .null, .null, .null, .int 0, .null, .null, .null, .null, .null, .null, .null]) C dL_law_8 kU6 tyX6 tyX6_ok (wsG_of (by decide +kernel) (by decide +kernel)) (wsG_of (by decide +kernel) (by decide +kernel)) (wsG_of (by decide +kernel) (by decide +kernel)) rfl (by decide) (Nat.le_of_ble_eq_true rfl) (Nat.le_of_ble_eq_true rfl) ?_
  intro h2
  refine b_dup C dL_law_11 rfl ?_
  refine b_ctor C dL_law_12 (c_X6_init h2) kB_X6_init kI_X6_init (Or.inl kl_L_95) rfl (by decide) (Nat.le_of_ble_eq_true rfl) (Nat.le_of_ble_eq_true rfl) (Nat.le_of_ble_eq_true rfl) ?_
  rintro ws' ⟨m0, m1, m2, m3, m4, m5, m6, m7, m8, m9, m10, m11, m12, m13, m14, m15, m16, m17, m18, m19, m20, m21, m22, m23, m24, rfl⟩
  refine b_astore_n C dL_law_15 rfl (by decide) rfl ?_
  refine b_iconst (v := 1) C dL_law_16 rfl ?_
  refine b_newa (t0 := 1) (N := 1) (a0 := (1, .inr (.inl (fun _ => 0)))) C dL_law_17 rfl (fun _ h => by cases h) kA_long rfl (fun _ => rfl) (by decide) (by decide) (Nat.le_of_ble_eq_true rfl) (Nat.le_of_ble_eq_true rfl) (Nat.le_of_ble_eq_true rfl) ?_
  intro o
  refine b_astore_n C dL_law_19 rfl (by decide) rfl ?_
  exact b_swk (kk h dr da db dc sh q a0 a1 a2 a3 a4 a5 a6 tq tr ta tb tc te tx dk ka kb kc g p r h2 m0 m1 m2 m3 m4 m5 m6 m7 m8 m9 m10 m11 m12 m13 m14 m15 m16 m17 m18 m19 m20 m21 m22 m23 m24 o) rfl rfl rfl rfl
