/-! THE CLAIM OUT OF ONE WALK OF THE LAW'S BODY. Your part is whole_start (and what it stands on); all else here is the same for every law, but numbers. -/
def R_law : String := "GridprobeLaw"
def lw_P (b : Addr) (xs : List Int32) (args : Array Value) (s : State) : Prop := args = #[.ref b] ∧ s.IntsAt b xs ∧ xs.length ≤ 260 ∧ (Jvm.Cond.and given_1 narrow_1).before args s = true
def lw_Q (_ : Array Value) (s : State) (o : Outcome) (t : State) : Prop := o = .returned (some (.int 1)) ∧ Framed s o t [] 600130 7301080
def lw_Z (below : List Frame) (a : Array Value) (s : State) : State → Prop := fun t => ∃ o, t.status = .running ∧ Ended t below o ∧ lw_Q a s o t
/-- the law's own end, with 1 on the stack, nothing written that was there before, its room as the claim has it -/
theorem lw_ret {p : Program} {l : Launch} {e : Env} {s : State} {m : MethodId} {below : List Frame} {meth : Method} {c : Code} {b : Nat} (hx : p.tables.exec = Jvm.exec) (hb : c.code = code) (hr : meth.sig.returnType = ret) (hlocks : meth.locks = false) {pc : Nat} {H : Heap} {ls : Array Slot} (hdg : decode code pc = .ok (.ireturn, 1)) : W p l e room_1 s m #[Value.ref b] below meth c H [] 600130 7301080 (lw_Z below #[Value.ref b] s) (F0 m pc ls [.int 1]) := by
  intro T hT X
  obtain ⟨fs, hret, hrun, hended, hW, hframe⟩ := X.leave (v := some (.int 1)) (hlocks := hlocks) (fun h => by rw [hr] at h; cases h)
  have hmeth' : T.vm.method? m = some meth := X.method'
  refine ⟨T.setFrames fs, ?_, .returned (some (.int 1)), hrun, hended, rfl, ⟨_, rfl⟩, hW, hframe⟩
  jvm_step X.here [X.here.top, hx, hb, hdg, hmeth', hr, ret, narrow_b1]
  (try refine ⟨rfl, ?_⟩); (try refine ⟨rfl, ?_⟩)
  first | (intro acts; rw [hret _ acts rfl rfl rfl]) | rw [hret _ _ rfl rfl rfl]
  exact Steps.refl _
/-- what holds at the law's entry: the machine, the code, the tables' words (any of lw_tbl by 'hts w (by decide +kernel)'), the script of L ints xs at the cell b, what the Statement gives of the start (any of its parts by flat_of_before) -/
def lw_At (p : Program) (s : State) (m : MethodId) (meth : Method) (c : Code) (b L : Nat) (xs : Nat → Int32) : Prop :=
  p.tables.exec = Jvm.exec ∧ c.code = code ∧ meth.sig.returnType = ret ∧ c.maxLocals = 16 ∧ s.vm.findClass R_law = some m.cls ∧ (∀ w ∈ lw_tbl, w.before #[Value.ref b] s = true) ∧ va_X b L xs s s.heap ∧ b < s.heap.size ∧ meth.locks = false ∧ (Jvm.Cond.and given_1 narrow_1).before #[Value.ref b] s = true
-- ===== YOUR PART BEGINS =====
/-- the law's loop from the world that was made -/
theorem law_go {p : Program} {l : Launch} {e : Env} {s : State} {m : MethodId} {below : List Frame} {meth : Method} {c : Code} {D : va_G} {aC : Nat → ClassId} {ad : Nat → Nat → Nat} {b L : Nat} {xs : Nat → Int32} {H : Heap} {locs : List Loc} {ls : Array Slot} (hL : L ≤ 260) (C0 : lw_At p s m meth c b L xs) (htr : l.stackTraces = false) (hG : ∀ w ∈ wsG, w.before #[Value.ref b] s = true) (hN : Nx s) (hSx : ∀ A : Nat → Prop, (∀ a : Nat, a < s.heap.size → ¬ A a) → Sx A s) (hK : va_K D gcl (gty aC) s) (hI : gInj ad) (hA : ∀ x ∈ gix, s.heap.size ≤ ad x.1 x.2) (hP : va_P D gcl (Wd ad aC sg0 ta0) H) (hS : va_S (fun q : Nat => s.heap.size ≤ q) s.heap H locs)
    (hl : lv_has ls 16 (lvs [some (.ref b), some (.ref (ad 0 0)), some (.ref (ad 19 0)), some (.ref (ad 19 1)), some (.ref (ad 19 2)), some (.ref (ad 19 3)), none, none, none, none, none, none, none, none, none, none])) : W p l e room_1 s m #[Value.ref b] below meth c H locs 157 1493 (lw_Z below #[Value.ref b] s) (F0 m 30 ls []) := by
  obtain ⟨hx, hb, hr, hml, hown, hts, hX, hbl, hlk, hgv⟩ := C0
  have hgA : ∀ q : Nat, gA ad s.heap.size q → s.heap.size ≤ q := fun q h => by
    rcases h with ⟨x, hx, rfl⟩ | h
    · exact hA x hx
    · exact h
  have hbA : ¬ gA ad s.heap.size b := fun h => absurd (hgA b h) (Nat.not_le.mpr hbl)
  have hS2 : va_S (gA ad s.heap.size) s.heap H locs := ⟨hS.1, fun q h1 _ => hS.2.1 q h1 (Nat.not_le.mpr h1), fun z hz => Or.inr (hS.2.2 z hz)⟩
  have hQ : ∀ t, MQ below (QcZ D ad aC s.heap.size (fun r _ _ => r = some (.int 1))) #[Value.ref b] s 50000 (6 * 50000) (gA ad s.heap.size) t → lw_Z below #[Value.ref b] s t := by
    rintro t ⟨o, h1, h2, ⟨⟨r, σ, τ, rfl, rfl, -⟩, -⟩, L9, ⟨f1, f2, f3⟩, hL9⟩
    refine ⟨_, h1, h2, rfl, f1, f2, ?_⟩
    obtain ⟨s1, s2, s3, s4, s5, s6⟩ := f3.mono (c' := 600130) (n' := 7301080) (by decide) (by decide)
    refine ⟨s1, s2, s3, s4, s5, fun a c hc => ?_⟩
    obtain ⟨c', e1, e2, e3, e4⟩ := s6 a c hc
    refine ⟨c', e1, e2, e3, fun i _ => e4 i (fun hm => ?_)⟩
    have h8 : s.heap.size ≤ a := hgA _ (hL9 _ hm)
    have h9 := (Array.getElem?_eq_some_iff.mp hc).1
    omega
  have CL : LX l D ad aC b L xs (SW p l e (rmz 11 50000) s m #[Value.ref b] below meth c (lw_Z below #[Value.ref b] s) D ad aC 16) := ⟨p, e, s, m, _, below, meth, c, _, hx, hb, hml, hown, hG, hr, hlk, hK, hN, hI, hQ, htr, hSx _ (fun a ha h => absurd (hgA a h) (Nat.not_le.mpr ha)), hX, hbl, hbA, rfl⟩
  have c0 := CL.cx
  have go : SW p l e (rmz 11 50000) s m #[Value.ref b] below meth c (lw_Z below #[Value.ref b] s) D ad aC 16 500 sg0 ta0 30 [some (.ref b), some (.ref (ad 0 0)), some (.ref (ad 19 0)), some (.ref (ad 19 1)), some (.ref (ad 19 2)), some (.ref (ad 19 3)), none, none, none, none, none, none, none, none, none, none] [] := by
    refine r_iconst (v := 0) c0 dL_law_30 rfl ?_
    refine r_istore c0 dL_law_31 (by decide) rfl ?_
    exact r_swk (l_loop CL hL 51 0 500 sg0 ta0 (by omega) (by omega) (by omega) inv0) rfl rfl rfl rfl
  exact W_room (R' := rmz 11 50000) (by decide) (by decide) (by decide) (by decide) (W.widen (k := 500) (n := 6 * 500) (by decide) (by decide) (go H locs ls hP hS2 hl))
/-- YOUR PART: from the entry, for every script of at most 260 ints, the law comes to its end with true ('hflags': the launch's flags, for a law that throws: no stack traces) -/
theorem whole_start {p : Program} {e : Env} {s : State} {m : MethodId} {below : List Frame} {meth : Method} {c : Code} (l : Launch) (hflags : l.flags = flags0) {b L : Nat} {xs : Nat → Int32} (hL : L ≤ 260) (C0 : lw_At p s m meth c b L xs) : W p l e room_1 s m #[Value.ref b] below meth c s.heap [] 0 0 (lw_Z below #[Value.ref b] s) (entryFrame m ([Value.ref b] : List Value).toArray 16) := by
  have htr : l.stackTraces = false := by
    unfold Launch.stackTraces
    rw [hflags]
    decide +kernel
  obtain ⟨hx, hb, hr, hml, hown, hts, hX, hbl, hlk, hgv⟩ := id C0
  have hG : ∀ w ∈ wsG, w.before #[Value.ref b] s = true := fun w hw => hts w (wsG_tbl hw)
  obtain ⟨hN, hO, hSx⟩ := start_words hts (flat_of_before _ hgv)
  obtain ⟨D, aC, hK⟩ := start_K hG hO
  have hl := lv_entry [Value.ref b] (n := 16) (Nat.le_of_ble_eq_true rfl)
  rw [lg_entry_eq]
  have CB0 : Bx l D aC cL_law RL 16 11 1000 10000 False [] (fun _ => True) (BW p l e room_1 s m #[Value.ref b] below meth c (lw_Z below #[Value.ref b] s) D 16 (fun q => s.heap.size ≤ q)) := ⟨p, e, room_1, s, m, #[Value.ref b], below, meth, c, _, _, hx, hb, hml, hown, hG, hK, hN, hO, fun q hq => hq, by decide, by decide, by decide, by decide, fun h => h.elim, rfl⟩
  have hP0 : va_P D gcl [] s.heap := fun k q h => by simp at h
  have hD0 : va_D (fun q : Nat => s.heap.size ≤ q) [] := ⟨fun i j p q h => (by simp at h), fun k q h => (by simp at h)⟩
  refine l_start CB0 ?_ s.heap [] _ hP0 hD0 va_S.rf (mkL_has hl)
  intro h dr da db dc sh q a0 a1 a2 a3 a4 a5 a6 tq tr ta tb tc te tx dk ka kb kc g p r l0 l1 l2 l3 H locs ls hP hD hS hl
  obtain ⟨hP2, hI, hA⟩ := ws_all aC h dr da db dc sh q a0 a1 a2 a3 a4 a5 a6 tq tr ta tb tc te tx dk ka kb kc g p r l0 l1 l2 l3 hP hD
  exact law_go hL C0 htr hG hN hSx hK hI hA hP2 hS hl
-- ===== YOUR PART ENDS =====
set_option maxHeartbeats 4000000 in
theorem lw_walk (l : Launch) (hflags : l.flags = flags0) (b : Addr) (xs : List Int32) : MetFree l x (headSpec (Jvm.Cond.code x code maxLocals ret :: tables_1) room_1) (lw_P b xs) (fun _ _ _ _ _ => True) lw_Q := by
  refine MetFree.of_bodyS (code := code) (maxLocals := maxLocals) (ret := ret) (by decide) ?_ ?_
  · intro args s m h hn
    obtain ⟨meth, c, h1, h2, h3, h4, h5, h6, -, -⟩ := Cond.code_spec hn (atoms_spec (ws := Jvm.Cond.code x code maxLocals ret :: tables_1) h _ List.mem_cons_self)
    exact ⟨meth, c, h1, h2, h3, h4, h5, h6⟩
  · intro p e s m args below meth c s₁ B hml0 hP _
    obtain ⟨rfl, hx, hbd, hgv⟩ := hP
    obtain ⟨scr, harrAt, hlist, hof, hsmall⟩ := hx
    obtain ⟨hcb, hkn, -, -⟩ := State.arrayAt?_spec harrAt
    have hown : s.vm.findClass R_law = some m.cls := findClass_of_methodNamed B.named
    have hts0 : ∀ c ∈ (Jvm.Cond.code x code maxLocals ret :: tables_1), c.before #[Value.ref b] s = true := atoms_spec (ws := Jvm.Cond.code x code maxLocals ret :: tables_1) B.pre
    have hts : ∀ w ∈ lw_tbl, w.before #[Value.ref b] s = true := k2_hts_sels lw_privs (fun w hw => hts0 w (List.mem_cons_of_mem _ hw)) lw_privs_ok
    have hml : c.maxLocals = 16 := B.maxLocals_eq (hts0 _ List.mem_cons_self)
    have X₀ : Stand p l e room_1 s m #[Value.ref b] below meth c s₁ [] 0 0 := Stand.of_body B
    have hh0 : s₁.heap = s.heap := by rw [B.state]; rfl
    have hsz : scr.slots.size = xs.length := by rw [← Array.length_toList, hlist, List.length_map]
    have hval : ∀ j : Nat, j < xs.length → scr.slots[j]? = some (.int (xs.getD j 0)) := fun j hj => by
      rw [← Array.getElem?_toList, hlist]
      simp [hj]
    have hbl : b < s.heap.size := (Array.getElem?_eq_some_iff.mp hcb).1
    have hX : va_X b xs.length (fun j => xs.getD j 0) s s.heap := ⟨scr, hcb, hof, hkn, hsz, hval⟩
    have K : W p l e room_1 s m #[Value.ref b] below meth c s₁.heap [] 0 0 (lw_Z below #[Value.ref b] s) (entryFrame m ([Value.ref b] : List Value).toArray 16) := by
      rw [hh0]
      exact whole_start l hflags hbd ⟨B.exec, B.bytes, B.returns, hml, hown, hts, hX, hbl, B.notSynchronized, hgv⟩
    obtain ⟨t, a1, o, b1, b2, b3⟩ := K s₁ rfl X₀
    exact ⟨t, o, a1, b1, b2, b3⟩
theorem lw_pre_spec {args : Array Value} {s : State} (h : (Jvm.Cond.and given_1 narrow_1).before args s = true) (hr : rest_1_c.before args s = true) : ∃ (b : Addr) (xs : List Int32), lw_P b xs args s := by
  have hs := flat_of_before _ h
  have hq := flat_of_before _ hr
  have hc : (Cond.count 1).before args s = true := hs _ (by decide +kernel)
  have harr : (Cond.arrayOf (.arg 0) .int).before args s = true := hs _ (by decide +kernel)
  have hle : (Cond.le (.length (.arg 0)) (.int 260)).before args s = true := hs _ (by decide +kernel)
  have hlen : (Cond.isInt (.length (.arg 0))).before args s = true := hq _ (by decide +kernel)
  have hall : (Cond.all (.arg 0) (.isInt (.elem (.arg 0) (.index 0)))).before args s = true := hq _ (by decide +kernel)
  obtain ⟨b, xs, hb, hx⟩ := State.ints_of_pre rfl harr hlen hall
  have hsm : xs.length < 2 ^ 31 := hx.choose_spec.2.2.2
  have hev : (Term.length (.arg 0)).eval args s none [] s = some (.int xs.length.toInt32) := hx.length_eval hb
  have hv := Cond.le_ints hev (show (Term.int 260).eval args s none [] s = some (.int 260) from rfl)
  have hd : xs.length.toInt32 ≤ 260 := by
    simpa [Cond.before, Cond.holds, hv] using hle
  have hN : xs.length ≤ 260 := (Int32.ofNat_le_ofNat hsm (by decide)).mp (show Int32.ofNat xs.length ≤ Int32.ofNat 260 from hd)
  exact ⟨b, xs, Cond.one_arg hc (show args[0]? = some (.ref b) from hb), hx, hN, h⟩
theorem lw_comes (l : Launch) (hflags : l.flags = flags0) : Comes l x (Jvm.Cond.code x code maxLocals ret :: tables_1) room_1 (fun tb e args s => Calls_1 tb e args s ∧ rest_1 tb e args s ∧ Pre_1 tb e args s)
    (fun _ _ args s o t => lw_Q args s o t) := by
  intro p e ha hc hk s m args below hf hfit hheap happ hpre
  obtain ⟨b, xs, hP⟩ := lw_pre_spec hpre.2.2 hpre.2.1
  obtain ⟨k, o, h1, h2, h3, hQ⟩ := lw_walk l hflags b xs p e ha hc hk s m args below hf ((Spec.applies_iff_loose hf).mp happ).1 hP trivial
  exact ⟨k, o, h1, h2, h3, hQ⟩
theorem lw_frame {s t : State} {o : Outcome} {args : Array Value} (h : Framed s o t [] 600130 7301080) :
    Framed s o t (fieldLocs frame_1_writes args s ++ arrayLocs frame_1_arrays args s ++ staticLocs frame_1_statics s) 600130 7301080 := h
theorem lw_limb (L : Cond) (hL : ∀ (args : Array Value) (s t : State), L.after args s (.returned (some (.int 1))) t = true) :
    ArmFor flags0 classFile x code maxLocals ret World_1 tables_1 room_1 Calls_1 rest_1 Pre_1
      (fun tb e a s o t => postC L tb e a s o t ∧ Framed s o t (fieldLocs frame_1_writes a s ++ arrayLocs frame_1_arrays a s ++ staticLocs frame_1_statics s) 600130 7301080) := by
  intro l hflags _ _ p e ha hc hk s m args below hf hfit hheap happ hpre
  obtain ⟨k, o, h1, h2, h3, rfl, hF⟩ := lw_comes l hflags p e ha hc hk s m args below hf hfit hheap happ hpre
  exact ⟨k, _, h1, h2, h3, hL args s _, lw_frame hF⟩
theorem i_vc : Claimed_1_1 ∧ Claimed_1_2 := ⟨lw_limb limb_1_1 (fun args s t => by simp [limb_1_1, Cond.after, Cond.holds, Cond.value]), lw_limb limb_1_2 (fun args s t => Cond.after_iff.mpr (by
  first | (rw [show limb_1_2 = Cond.eq .result (.int 1) from rfl, Cond.eq_ints (x := 1) (y := 1) rfl rfl]; simp; done) | (simp [limb_1_2, Cond.value, Term.eval]; done)))⟩
