section
-- ===== PART A: goes FIRST, ahead of the names: the tables' words, and 'selects' of the private methods out of them =====
/-- a private method of a class that the tables say can be made, by its rows of tables_1 -/
def lw_okq (q : MethodName × Nat) : Prop := (q.1.cls ≠ "java/lang/invoke/MethodHandle" ∧ q.1.cls ≠ "java/lang/invoke/VarHandle") ∧ Cond.instantiable q.1.cls q.2 ∈ tables_1 ∧ Cond.privateMethod q.1 ∈ tables_1 ∧ Cond.instanceMethod q.1 ∈ tables_1
theorem lw_p0 : lw_okq (⟨"Gridprobe", "lockedCells", "()I"⟩, 5) := ⟨⟨by decide +kernel, by decide +kernel⟩, List.mem_of_getElem? (i := 22) (by decide +kernel), List.mem_of_getElem? (i := 223) (by decide +kernel), List.mem_of_getElem? (i := 224) (by decide +kernel)⟩
theorem lw_p1 : lw_okq (⟨"java/lang/Throwable", "fillInStackTrace", "(I)Ljava/lang/Throwable;"⟩, 6) := ⟨⟨by decide +kernel, by decide +kernel⟩, List.mem_of_getElem? (i := 301) (by decide +kernel), List.mem_of_getElem? (i := 299) (by decide +kernel), List.mem_of_getElem? (i := 300) (by decide +kernel)⟩
theorem lw_p2 : lw_okq (⟨"Gridprobe$Sheet", "restedOnThrough", "(I)I"⟩, 9) := ⟨⟨by decide +kernel, by decide +kernel⟩, List.mem_of_getElem? (i := 55) (by decide +kernel), List.mem_of_getElem? (i := 419) (by decide +kernel), List.mem_of_getElem? (i := 420) (by decide +kernel)⟩
theorem lw_p3 : lw_okq (⟨"Gridprobe$Sheet", "arrange", "()V"⟩, 9) := ⟨⟨by decide +kernel, by decide +kernel⟩, List.mem_of_getElem? (i := 55) (by decide +kernel), List.mem_of_getElem? (i := 435) (by decide +kernel), List.mem_of_getElem? (i := 436) (by decide +kernel)⟩
theorem lw_p4 : lw_okq (⟨"Gridprobe", "followChange", "(I)I"⟩, 5) := ⟨⟨by decide +kernel, by decide +kernel⟩, List.mem_of_getElem? (i := 22) (by decide +kernel), List.mem_of_getElem? (i := 439) (by decide +kernel), List.mem_of_getElem? (i := 440) (by decide +kernel)⟩
theorem lw_p5 : lw_okq (⟨"Gridprobe$Trials", "fillRow", "(ILGridprobe$Sheet;)V"⟩, 8) := ⟨⟨by decide +kernel, by decide +kernel⟩, List.mem_of_getElem? (i := 121) (by decide +kernel), List.mem_of_getElem? (i := 520) (by decide +kernel), List.mem_of_getElem? (i := 521) (by decide +kernel)⟩
theorem lw_p6 : lw_okq (⟨"Gridprobe$Trials", "rowValue", "(III)I"⟩, 8) := ⟨⟨by decide +kernel, by decide +kernel⟩, List.mem_of_getElem? (i := 121) (by decide +kernel), List.mem_of_getElem? (i := 525) (by decide +kernel), List.mem_of_getElem? (i := 526) (by decide +kernel)⟩
theorem lw_p7 : lw_okq (⟨"Gridprobe$Trials", "makeSmaller", "(ILGridprobe$PropertyList;LGridprobe$Sheet;I)I"⟩, 8) := ⟨⟨by decide +kernel, by decide +kernel⟩, List.mem_of_getElem? (i := 121) (by decide +kernel), List.mem_of_getElem? (i := 572) (by decide +kernel), List.mem_of_getElem? (i := 573) (by decide +kernel)⟩
theorem lw_p8 : lw_okq (⟨"Gridprobe$Trials", "stepSmaller", "(ILGridprobe$PropertyList;LGridprobe$Sheet;I)Z"⟩, 8) := ⟨⟨by decide +kernel, by decide +kernel⟩, List.mem_of_getElem? (i := 121) (by decide +kernel), List.mem_of_getElem? (i := 576) (by decide +kernel), List.mem_of_getElem? (i := 577) (by decide +kernel)⟩
theorem lw_p9 : lw_okq (⟨"Gridprobe$Trials", "keepFailed", "(IIII)V"⟩, 8) := ⟨⟨by decide +kernel, by decide +kernel⟩, List.mem_of_getElem? (i := 121) (by decide +kernel), List.mem_of_getElem? (i := 581) (by decide +kernel), List.mem_of_getElem? (i := 582) (by decide +kernel)⟩
theorem lw_p10 : lw_okq (⟨"GridprobeModel", "adds", "(III)I"⟩, 30) := ⟨⟨by decide +kernel, by decide +kernel⟩, List.mem_of_getElem? (i := 732) (by decide +kernel), List.mem_of_getElem? (i := 838) (by decide +kernel), List.mem_of_getElem? (i := 839) (by decide +kernel)⟩
theorem lw_p11 : lw_okq (⟨"GridprobeModel", "fails", "(I)I"⟩, 30) := ⟨⟨by decide +kernel, by decide +kernel⟩, List.mem_of_getElem? (i := 732) (by decide +kernel), List.mem_of_getElem? (i := 864) (by decide +kernel), List.mem_of_getElem? (i := 865) (by decide +kernel)⟩
theorem lw_p12 : lw_okq (⟨"GridprobeModel", "under", "(I)I"⟩, 30) := ⟨⟨by decide +kernel, by decide +kernel⟩, List.mem_of_getElem? (i := 732) (by decide +kernel), List.mem_of_getElem? (i := 868) (by decide +kernel), List.mem_of_getElem? (i := 869) (by decide +kernel)⟩
theorem lw_p13 : lw_okq (⟨"GridprobeModel", "readBy", "(I)I"⟩, 30) := ⟨⟨by decide +kernel, by decide +kernel⟩, List.mem_of_getElem? (i := 732) (by decide +kernel), List.mem_of_getElem? (i := 872) (by decide +kernel), List.mem_of_getElem? (i := 873) (by decide +kernel)⟩
theorem lw_p14 : lw_okq (⟨"GridprobeModel", "changes", "(I)I"⟩, 30) := ⟨⟨by decide +kernel, by decide +kernel⟩, List.mem_of_getElem? (i := 732) (by decide +kernel), List.mem_of_getElem? (i := 876) (by decide +kernel), List.mem_of_getElem? (i := 877) (by decide +kernel)⟩
theorem lw_p15 : lw_okq (⟨"GridprobeModel", "orders", "()V"⟩, 30) := ⟨⟨by decide +kernel, by decide +kernel⟩, List.mem_of_getElem? (i := 732) (by decide +kernel), List.mem_of_getElem? (i := 880) (by decide +kernel), List.mem_of_getElem? (i := 881) (by decide +kernel)⟩
def lw_privs_1 : List (MethodName × Nat) := [(⟨"Gridprobe", "lockedCells", "()I"⟩, 5), (⟨"java/lang/Throwable", "fillInStackTrace", "(I)Ljava/lang/Throwable;"⟩, 6), (⟨"Gridprobe$Sheet", "restedOnThrough", "(I)I"⟩, 9), (⟨"Gridprobe$Sheet", "arrange", "()V"⟩, 9), (⟨"Gridprobe", "followChange", "(I)I"⟩, 5), (⟨"Gridprobe$Trials", "fillRow", "(ILGridprobe$Sheet;)V"⟩, 8), (⟨"Gridprobe$Trials", "rowValue", "(III)I"⟩, 8), (⟨"Gridprobe$Trials", "makeSmaller", "(ILGridprobe$PropertyList;LGridprobe$Sheet;I)I"⟩, 8), (⟨"Gridprobe$Trials", "stepSmaller", "(ILGridprobe$PropertyList;LGridprobe$Sheet;I)Z"⟩, 8), (⟨"Gridprobe$Trials", "keepFailed", "(IIII)V"⟩, 8), (⟨"GridprobeModel", "adds", "(III)I"⟩, 30), (⟨"GridprobeModel", "fails", "(I)I"⟩, 30), (⟨"GridprobeModel", "under", "(I)I"⟩, 30), (⟨"GridprobeModel", "readBy", "(I)I"⟩, 30), (⟨"GridprobeModel", "changes", "(I)I"⟩, 30), (⟨"GridprobeModel", "orders", "()V"⟩, 30)]
theorem lw_r1 : ∀ q ∈ lw_privs_1, lw_okq q := List.forall_mem_cons.mpr ⟨lw_p0, List.forall_mem_cons.mpr ⟨lw_p1, List.forall_mem_cons.mpr ⟨lw_p2, List.forall_mem_cons.mpr ⟨lw_p3, List.forall_mem_cons.mpr ⟨lw_p4, List.forall_mem_cons.mpr ⟨lw_p5, List.forall_mem_cons.mpr ⟨lw_p6, List.forall_mem_cons.mpr ⟨lw_p7, List.forall_mem_cons.mpr ⟨lw_p8, List.forall_mem_cons.mpr ⟨lw_p9, List.forall_mem_cons.mpr ⟨lw_p10, List.forall_mem_cons.mpr ⟨lw_p11, List.forall_mem_cons.mpr ⟨lw_p12, List.forall_mem_cons.mpr ⟨lw_p13, List.forall_mem_cons.mpr ⟨lw_p14, List.forall_mem_cons.mpr ⟨lw_p15, fun _ h => absurd h List.not_mem_nil⟩⟩⟩⟩⟩⟩⟩⟩⟩⟩⟩⟩⟩⟩⟩⟩
theorem lw_p16 : lw_okq (⟨"GridprobeModel", "holds", "(II)Z"⟩, 30) := ⟨⟨by decide +kernel, by decide +kernel⟩, List.mem_of_getElem? (i := 732) (by decide +kernel), List.mem_of_getElem? (i := 910) (by decide +kernel), List.mem_of_getElem? (i := 911) (by decide +kernel)⟩
theorem lw_p17 : lw_okq (⟨"GridprobeModel", "reckonsAll", "([I)V"⟩, 30) := ⟨⟨by decide +kernel, by decide +kernel⟩, List.mem_of_getElem? (i := 732) (by decide +kernel), List.mem_of_getElem? (i := 914) (by decide +kernel), List.mem_of_getElem? (i := 915) (by decide +kernel)⟩
theorem lw_p18 : lw_okq (⟨"GridprobeModel", "reckons", "(I)V"⟩, 30) := ⟨⟨by decide +kernel, by decide +kernel⟩, List.mem_of_getElem? (i := 732) (by decide +kernel), List.mem_of_getElem? (i := 918) (by decide +kernel), List.mem_of_getElem? (i := 919) (by decide +kernel)⟩
theorem lw_p19 : lw_okq (⟨"GridprobeModel", "exemplifies", "(II)V"⟩, 30) := ⟨⟨by decide +kernel, by decide +kernel⟩, List.mem_of_getElem? (i := 732) (by decide +kernel), List.mem_of_getElem? (i := 925) (by decide +kernel), List.mem_of_getElem? (i := 926) (by decide +kernel)⟩
theorem lw_p20 : lw_okq (⟨"GridprobeModel", "shrinks", "(II)Z"⟩, 30) := ⟨⟨by decide +kernel, by decide +kernel⟩, List.mem_of_getElem? (i := 732) (by decide +kernel), List.mem_of_getElem? (i := 929) (by decide +kernel), List.mem_of_getElem? (i := 930) (by decide +kernel)⟩
theorem lw_p21 : lw_okq (⟨"GridprobeModel", "locks", "()I"⟩, 30) := ⟨⟨by decide +kernel, by decide +kernel⟩, List.mem_of_getElem? (i := 732) (by decide +kernel), List.mem_of_getElem? (i := 933) (by decide +kernel), List.mem_of_getElem? (i := 934) (by decide +kernel)⟩
theorem lw_p22 : lw_okq (⟨"GridprobeModel", "isWaived", "(I)Z"⟩, 30) := ⟨⟨by decide +kernel, by decide +kernel⟩, List.mem_of_getElem? (i := 732) (by decide +kernel), List.mem_of_getElem? (i := 937) (by decide +kernel), List.mem_of_getElem? (i := 938) (by decide +kernel)⟩
theorem lw_p23 : lw_okq (⟨"GridprobeModel", "unlocks", "(II)V"⟩, 30) := ⟨⟨by decide +kernel, by decide +kernel⟩, List.mem_of_getElem? (i := 732) (by decide +kernel), List.mem_of_getElem? (i := 941) (by decide +kernel), List.mem_of_getElem? (i := 942) (by decide +kernel)⟩
def lw_privs_2 : List (MethodName × Nat) := [(⟨"GridprobeModel", "holds", "(II)Z"⟩, 30), (⟨"GridprobeModel", "reckonsAll", "([I)V"⟩, 30), (⟨"GridprobeModel", "reckons", "(I)V"⟩, 30), (⟨"GridprobeModel", "exemplifies", "(II)V"⟩, 30), (⟨"GridprobeModel", "shrinks", "(II)Z"⟩, 30), (⟨"GridprobeModel", "locks", "()I"⟩, 30), (⟨"GridprobeModel", "isWaived", "(I)Z"⟩, 30), (⟨"GridprobeModel", "unlocks", "(II)V"⟩, 30)]
theorem lw_r2 : ∀ q ∈ lw_privs_2, lw_okq q := List.forall_mem_cons.mpr ⟨lw_p16, List.forall_mem_cons.mpr ⟨lw_p17, List.forall_mem_cons.mpr ⟨lw_p18, List.forall_mem_cons.mpr ⟨lw_p19, List.forall_mem_cons.mpr ⟨lw_p20, List.forall_mem_cons.mpr ⟨lw_p21, List.forall_mem_cons.mpr ⟨lw_p22, List.forall_mem_cons.mpr ⟨lw_p23, fun _ h => absurd h List.not_mem_nil⟩⟩⟩⟩⟩⟩⟩⟩
def lw_privs : List (MethodName × Nat) := lw_privs_1 ++ (lw_privs_2)
def lw_tbl : List Cond := k2_sels lw_privs ++ tables_1
theorem lw_privs_ok : ∀ q ∈ lw_privs, lw_okq q := by
  show ∀ q ∈ lw_privs_1 ++ (lw_privs_2), lw_okq q
  exact List.forall_mem_append.mpr ⟨lw_r1, lw_r2⟩
-- ===== end of PART A; then your names; then what follows =====
/-! ===== BEGIN words of one list among another's, by their places ===== -/
theorem goodIn_r {big : List Cond} (ws : List Cond) (ps : List Nat) (hp : ws = ps.filterMap (fun i => big[i]?)) (h : ws.all goodWord = true) : GoodIn big ws := by
  intro w hw
  have h1 := List.all_eq_true.mp h w hw
  rw [hp] at hw
  obtain ⟨i, -, hi⟩ := List.mem_filterMap.mp hw
  have hm : w ∈ big := by first | exact List.mem_of_getElem? hi | exact List.getElem?_mem hi
  exact ⟨hm, good_of_word h1⟩
theorem goodIn_app {big a b : List Cond} (ha : GoodIn big a) (hb : GoodIn big b) : GoodIn big (a ++ b) := fun w h => (List.mem_append.mp h).elim (ha w) (hb w)
theorem goodIn_ca {big a b : List Cond} {c : Cond} (ha : GoodIn big (c :: a)) (hb : GoodIn big b) : GoodIn big (c :: (a ++ b)) := fun w h => (List.mem_cons.mp h).elim (fun e => ha w (List.mem_cons.mpr (Or.inl e))) (fun h => (List.mem_append.mp h).elim (fun h => ha w (List.mem_cons.mpr (Or.inr h))) (hb w))
theorem goodIn_sub {big ws : List Cond} (hm : ∀ w ∈ ws, w ∈ big) (h : ws.all goodWord = true) : GoodIn big ws := fun w hw => ⟨hm w hw, good_of_word (List.all_eq_true.mp h w hw)⟩
/-! ===== END ===== -/

/-! ===== BEGIN new T[n][m]: the outer array a place, the inner ones among the pooled ===== -/
/-- f, but v at every address of l -/
def vr_up {α : Type} (f : Nat → α) (l : List Nat) (v : α) : Nat → α := fun a => if a ∈ l then v else f a
theorem vr_up_in {α : Type} {f : Nat → α} {l : List Nat} {v : α} {a : Nat} (h : a ∈ l) : vr_up f l v a = v := if_pos h
theorem vr_up_ne {α : Type} {f : Nat → α} {l : List Nat} {v : α} {a : Nat} (h : a ∉ l) : vr_up f l v a = f a := if_neg h
theorem vr_rows {L l : List Nat} {f : Nat → va_E} {e : va_E} (h : ∀ a, a ∈ l → a ∉ L) : va_pl L f ++ l.map (fun a => (a, e)) = va_pl (L ++ l) (vr_up f l e) := by
  unfold va_pl
  rw [List.map_append]
  congr 1
  · apply List.map_congr_left
    intro a ha
    rw [vr_up_ne (fun q => h a q ha)]
  · apply List.map_congr_left
    intro a ha
    rw [vr_up_in ha]
theorem vr_lay {X rows : va_W} {x : Nat × va_E} {pl : va_W} {D : va_G} {cl : List vw_C} {H : Heap} (hP : va_P D cl (((X ++ pl) ++ [x]) ++ rows) H) : va_P D cl ((X ++ [x]) ++ (pl ++ rows)) H := by
  rw [List.append_assoc (X ++ pl)] at hP
  have h := va_P.swap hP
  rw [← List.append_assoc X] at h
  have h2 := va_P.swap h
  rw [List.append_assoc (X ++ [x])] at h2
  exact h2
theorem vr_layD {X rows : va_W} {x : Nat × va_E} {pl : va_W} {A : Nat → Prop} (hD : va_D A (((X ++ pl) ++ [x]) ++ rows)) : va_D A ((X ++ [x]) ++ (pl ++ rows)) := by
  rw [List.append_assoc (X ++ pl)] at hD
  have h := va_D.swap hD
  rw [← List.append_assoc X] at h
  have h2 := va_D.swap h
  rw [List.append_assoc (X ++ [x])] at h2
  exact h2
theorem vr_outer (c : ClassId) (N h0 : Nat) : ∀ i : Nat, Jvm.Free.Multi.outerC c N h0 i = arrV c N (fun j => va_rf (if j < i then some (h0 + 1 + j) else none))
  | 0 => by
    show ({ cls := c, slots := Array.replicate N .null, vm := .none } : Cell) = _
    rw [arrV_new]
    refine congrArg (arrV c N) (funext fun j => ?_)
    simp [va_rf]
  | i + 1 => by
    show (Jvm.Free.Multi.outerC c N h0 i).setSlot i (.ref (h0 + 1 + i)) = _
    rw [vr_outer c N h0 i, arrV_store]
    refine congrArg (arrV c N) (funext fun j => ?_)
    by_cases e : j = i
    · subst e
      simp [updV, va_rf]
    · by_cases h : j < i
      · simp [updV, e, h, Nat.lt_succ_of_lt h]
      · simp [updV, e, h, show ¬ j < i + 1 by omega]
/-- what the kit's row names and does not hold: an array of arrays can be made of this type -/
def va_AOA (t : FieldType) (U : State) : Prop := (Cond.arrayOver (.array t)).before #[] U = true
theorem va_AOA.of {t : FieldType} {A : Array Value} {U : State} (h : (Cond.arrayOver (.array t)).before A U = true) : va_AOA t U := h
theorem va_AOA.use {t : FieldType} {A : Array Value} {U : State} (h : va_AOA t U) : (Cond.arrayOver (.array t)).before A U = true := h
section VGM
variable {p : Program} {l : Launch} {e : Env} {R : Room} {s : State} {m : MethodId} {args : Array Value} {below : List Frame} {meth : Method} {c : Code} {H : Heap} {locs : List Loc} {cells slots : Nat} {Q : State → Prop}
variable {cc : ByteArray} {pc : Nat} {ls : Array Slot} {rest : List Value} {D : va_G} {cl : List vw_C} {A : Nat → Prop} {a : Nat} {tys : List (ClassId × FieldType)} {ws : va_W} {H0 : Heap}
theorem va_mna {X : va_W} {L : List Nat} {f : Nat → va_E} {cc : ByteArray} (hexec : p.tables.exec = Jvm.exec) (hb : c.code = cc) {own : String} {index : Nat} {ty : FieldType} {cy : ClassId} (hown : s.vm.findClass own = some m.cls) (hclink : (Cond.classLink own index ("[" ++ (FieldType.array ty).toString)).before args s = true) (hover : va_AOA ty s) (harr : (Cond.arrayClass ty).before args s = true) (hcy : s.vm.findClass (FieldType.array ty).toString = some cy)
    (hK : va_K D cl tys s) (hP : va_P D cl (X ++ va_pl L f) H) (hD : va_D A (X ++ va_pl L f)) (hS : va_S A H0 H locs) (hA : ∀ q, H0.size ≤ q → A q) {n k : Int32} {N' K' : Nat} {z : vp_A} (hn : ¬ n < 0) (hk : ¬ k < 0) (hN : n.toNatClampNeg = N') (hM : k.toNatClampNeg = K')
    (hb1 : N' * 4 ≤ 536870912) (hb2 : K' * componentBytes ty ≤ 536870912) (hb3 : K' ≤ 536870912) (hdf : fits ty (defaultValue ty) = true) (hdd : (defaultValue ty).isDefault = true) (hcells : cells + (1 + N') ≤ R.cells) (hslots : slots + (N' + N' * K') ≤ R.slots) (hz : ∀ c : ClassId, Jvm.Free.Multi.innerC c K' (defaultValue ty) = vp_cell c z) (hdg : decode cc pc = .ok (.multianewarray index 2, 4))
    (kk : ∀ (q : Nat) (r : Nat → Nat) (cA : ClassId) (H1 : Heap), (∀ i j : Nat, i < N' → j < N' → r i = r j → i = j) → (∀ i : Nat, i < N' → r i ∉ L) → va_K D cl (tys ++ [(cA, .array ty)]) s →
      va_P D cl ((X ++ [(q, .inl (cA, N', .inr (.inr (.inr (.inr (fun i => if i < N' then some (r i) else none))))))]) ++ va_pl (L ++ (List.range N').map r) (vr_up f ((List.range N').map r) (.inl (cy, z)))) H1 → va_D A ((X ++ [(q, .inl (cA, N', .inr (.inr (.inr (.inr (fun i => if i < N' then some (r i) else none))))))]) ++ va_pl (L ++ (List.range N').map r) (vr_up f ((List.range N').map r) (.inl (cy, z)))) → va_S A H0 H1 locs →
      W p l e R s m args below meth c H1 locs (cells + 1 + N') (slots + N' + N' * K') Q (F0 m (pc + 4) ls (.ref q :: rest))) : W p l e R s m args below meth c H locs cells slots Q (F0 m pc ls (.int k :: .int n :: rest)) := by
  subst hN
  subst hM
  intro T hT Xs
  obtain ⟨vm₁, cA, comp, -, fA, fC, hO, -, X', step⟩ := Xs.multianewarray2F hexec hown hclink (va_AOA.use hover) harr (g := F0 m pc ls (.int k :: .int n :: rest)) rfl (by rw [hb]; exact hdg) rfl hn hk hb1 hb2 hb3 hdf hdd hcells hslots
  have ec : some cy = some comp := hcy.symm.trans fC
  cases ec
  generalize hF : Jvm.Free.Multi.fill (T.setVm vm₁) cA cy n.toNatClampNeg k.toNatClampNeg (defaultValue ty) n.toNatClampNeg = F at X' step
  have hTh : (T.setVm vm₁).heap = H := hT
  obtain ⟨f1, f2, -, -⟩ := Jvm.Free.Multi.fill_facts (T.setVm vm₁) cA cy n.toNatClampNeg k.toNatClampNeg (defaultValue ty) n.toNatClampNeg
  rw [hF, hTh] at f1 f2
  have hold : ∀ x : Nat, x < H.size → F.heap[x]? = H[x]? := fun x hx => by
    have := Jvm.Free.Multi.fill_old (T.setVm vm₁) cA cy n.toNatClampNeg k.toNatClampNeg (defaultValue ty) (a := x) (by rw [hTh]; exact hx) n.toNatClampNeg
    rw [hF, hTh] at this
    exact this
  have hrow : ∀ j : Nat, j < n.toNatClampNeg → F.heap[H.size + 1 + j]? = some (vp_cell cy z) := fun j hj => by
    have := Jvm.Free.Multi.fill_inner (T.setVm vm₁) cA cy n.toNatClampNeg k.toNatClampNeg (defaultValue ty) n.toNatClampNeg j hj
    rw [hF, hTh, hz] at this
    exact this
  have hout : Jvm.Free.Multi.outerC cA n.toNatClampNeg H.size n.toNatClampNeg = vp_cell cA (n.toNatClampNeg, .inr (.inr (.inr (.inr (fun i => if i < n.toNatClampNeg then some (H.size + 1 + i) else none))))) := by
    rw [vp_cell_q]
    exact vr_outer cA n.toNatClampNeg H.size n.toNatClampNeg
  rw [hout] at f2
  have hlt : ∀ a, a ∈ L → a < H.size := fun a ha => by
    obtain ⟨k9, hk9⟩ := va_pl_get (X := X) (f := f) ha
    exact (hP k9 _ hk9).lt
  have hnl : ∀ i : Nat, i < n.toNatClampNeg → H.size + 1 + i ∉ L := fun i _ h => by
    have := hlt _ h
    omega
  have hnm : ∀ a, a ∈ (List.range n.toNatClampNeg).map (fun i => H.size + 1 + i) → a ∉ L := fun a ha h => by
    obtain ⟨i, -, rfl⟩ := List.mem_map.mp ha
    have := hlt _ h
    omega
  have hP0 : va_P D cl (X ++ va_pl L f) F.heap := hP.kept (fun k9 x hx => hold x.1 ((hP k9 x hx).lt))
  have hP1 : va_P D cl ((X ++ va_pl L f) ++ [(H.size, .inl (cA, n.toNatClampNeg, .inr (.inr (.inr (.inr (fun i => if i < n.toNatClampNeg then some (H.size + 1 + i) else none))))))]) F.heap := hP0.app (fun k9 x hx => by
    have h0 : k9 < 1 := (List.getElem?_eq_some_iff.mp hx).1
    rw [show k9 = 0 by omega] at hx
    cases hx
    exact f2)
  have hP2 : va_P D cl (((X ++ va_pl L f) ++ [(H.size, .inl (cA, n.toNatClampNeg, .inr (.inr (.inr (.inr (fun i => if i < n.toNatClampNeg then some (H.size + 1 + i) else none))))))]) ++ ((List.range n.toNatClampNeg).map (fun i => H.size + 1 + i)).map (fun a => (a, .inl (cy, z)))) F.heap := hP1.app (fun k9 x hx => by
    obtain ⟨a, ha, rfl⟩ := List.mem_map.mp (List.mem_of_getElem? hx)
    obtain ⟨i, hi, rfl⟩ := List.mem_map.mp ha
    exact hrow i (List.mem_range.mp hi))
  have hD2 : va_D A (((X ++ va_pl L f) ++ [(H.size, .inl (cA, n.toNatClampNeg, .inr (.inr (.inr (.inr (fun i => if i < n.toNatClampNeg then some (H.size + 1 + i) else none))))))]) ++ ((List.range n.toNatClampNeg).map (fun i => H.size + 1 + i)).map (fun a => (a, .inl (cy, z)))) := by
    have hD1 := hD.push (e := .inl (cA, n.toNatClampNeg, .inr (.inr (.inr (.inr (fun i => if i < n.toNatClampNeg then some (H.size + 1 + i) else none)))))) hP rfl (hA _ hS.1)
    generalize hW1 : (X ++ va_pl L f) ++ [(H.size, .inl (cA, n.toNatClampNeg, .inr (.inr (.inr (.inr (fun i => if i < n.toNatClampNeg then some (H.size + 1 + i) else none))))))] = W1 at hD1 hP1 ⊢
    have hle : ∀ (k9 : Nat) (x : Nat × va_E), W1[k9]? = some x → x.1 ≤ H.size := fun k9 x hx => by
      rw [← hW1] at hx
      by_cases hl : k9 < (X ++ va_pl L f).length
      · rw [List.getElem?_append_left hl] at hx
        exact Nat.le_of_lt ((hP k9 x hx).lt)
      · rw [List.getElem?_append_right (by omega)] at hx
        have h0 : k9 - (X ++ va_pl L f).length < 1 := (List.getElem?_eq_some_iff.mp hx).1
        rw [show k9 - (X ++ va_pl L f).length = 0 by omega] at hx
        cases hx
        exact Nat.le_refl _
    have hr : ∀ (k9 : Nat) (x : Nat × va_E), (((List.range n.toNatClampNeg).map (fun i => H.size + 1 + i)).map (fun a => ((a, .inl (cy, z)) : Nat × va_E)))[k9]? = some x → x.1 = H.size + 1 + k9 := fun k9 x hx => by
      rw [List.getElem?_map, List.getElem?_map] at hx
      by_cases h9 : k9 < n.toNatClampNeg
      · rw [List.getElem?_range h9] at hx
        cases hx
        rfl
      · have hn0 : (List.range n.toNatClampNeg)[k9]? = none := List.getElem?_eq_none (by rw [List.length_range]; omega)
        rw [hn0] at hx
        cases hx
    refine ⟨fun i j x y hi hj hxy => ?_, fun k9 x hx => ?_⟩
    · by_cases h1 : i < W1.length <;> by_cases h2 : j < W1.length
      · rw [List.getElem?_append_left h1] at hi
        rw [List.getElem?_append_left h2] at hj
        exact hD1.1 i j x y hi hj hxy
      · rw [List.getElem?_append_left h1] at hi
        rw [List.getElem?_append_right (by omega)] at hj
        have := hle _ _ hi
        have := hr _ _ hj
        omega
      · rw [List.getElem?_append_right (by omega)] at hi
        rw [List.getElem?_append_left h2] at hj
        have := hle _ _ hj
        have := hr _ _ hi
        omega
      · rw [List.getElem?_append_right (by omega)] at hi hj
        have := hr _ _ hi
        have := hr _ _ hj
        omega
    · by_cases h1 : k9 < W1.length
      · rw [List.getElem?_append_left h1] at hx
        exact hD1.2 k9 x hx
      · rw [List.getElem?_append_right (by omega)] at hx
        have := hr _ _ hx
        exact hA _ (by have := hS.1; omega)
  have hAr : ArrOfT s cA (.array ty) := fun N9 z9 => by
    obtain ⟨-, k9, hk9, cm9, hkk9⟩ := (hO 0 0 0).1
    exact ⟨(fun q hq => by cases hq), k9, hk9, cm9, hkk9⟩
  have hK2 : va_K D cl (tys ++ [(cA, .array ty)]) s := ⟨hK.1, fun k9 x hx => by
    by_cases hl : k9 < tys.length
    · rw [List.getElem?_append_left hl] at hx
      exact hK.2 k9 x hx
    · rw [List.getElem?_append_right (by omega)] at hx
      have h0 : k9 - tys.length < 1 := (List.getElem?_eq_some_iff.mp hx).1
      rw [show k9 - tys.length = 0 by omega] at hx
      cases hx
      exact ⟨hAr, fA⟩⟩
  obtain ⟨t, a1, b1⟩ := kk H.size (fun i => H.size + 1 + i) cA F.heap (fun i j _ _ h => by have h9 : H.size + 1 + i = H.size + 1 + j := h; omega) hnl hK2 (by rw [← vr_rows hnm]; exact vr_lay hP2) (by rw [← vr_rows hnm]; exact vr_layD hD2) ⟨by rw [f1]; have := hS.1; omega, fun x h1 h2 => (hold x (Nat.lt_of_lt_of_le h1 hS.1)).trans (hS.2.1 x h1 h2), hS.2.2⟩ F rfl X'
  refine ⟨t, step t ?_, b1⟩
  have e : T.heap.size = H.size := by rw [hT]
  rw [e]
  exact a1
end VGM
/-! ===== END ===== -/

/-! ===== BEGIN exceptions that leave a method, and their catching by the caller (launches without stack traces) ===== -/
section VXA
/-! The laws vx_back, vx_callV, vx_callS, vx_callSW, vx_throw0, vx_throwS follow proofs of the library, with one case more: JvmDerived/Free/Laws.lean (Back.of_free), Shelf42/LK1.lean (callV, callS), Shelf/KitTraced.lean (throwNew0V, throwNewS). -/
/-- where a method has thrown q: the class by its name, the cell, what was written, the world -/
def vx_T (XC : String → State → State → Prop) (st : State) (q : Addr) (t : State) (mc ms : Nat) (free : Addr → Prop) : Prop :=
  ∃ (E : String) (ce : Cell) (L : List Loc), XC E st t ∧ t.heap[q]? = some ce ∧ ce.vm = .none ∧ st.vm.findClass E = some ce.cls ∧ st.WarmedH t.vm ∧ st.sameButNew ({ t with vm := st.vm } : State) L mc ms ∧ ∀ z ∈ L, free z.base
def vx_Q (Qc : Array Value → State → Outcome → State → Prop) (XC : String → State → State → Prop) (mc ms : Nat) (free : Addr → Prop) : Array Value → State → Outcome → State → Prop := fun a st o t =>
  (Qc a st o t ∧ ∃ L, FrameEnd st o t L mc ms ∧ ∀ q ∈ L, free q.base) ∨ ∃ q, o = .threw q ∧ vx_T XC st q t mc ms free
/-- a callee that returns or throws -/
def vx_Met (l : Launch) (y : MethodName) (ws : List Cond) (rm : Room) (Pc : Array Value → State → Prop) (Qc : Array Value → State → Outcome → State → Prop) (XC : String → State → State → Prop) (mc ms : Nat) (free : Addr → Prop) : Prop :=
  MetFree l y (headSpec ws rm) Pc (fun _ _ _ _ _ => True) (vx_Q Qc XC mc ms free)
def vx_Post (XC : String → State → State → Prop) (mc ms : Nat) (free : Addr → Prop) : Pt → Array Value → Addr → Pt → Prop := fun A a q B =>
  ∃ (g : JFrame) (mk : MethodId) (t : State) (L : List Loc) (E : String) (ce : Cell), B.U.heap = t.heap ∧ B.U.vm = t.vm ∧ XC E (A.U.calling g mk a) t ∧ t.heap[q]? = some ce ∧ ce.vm = .none ∧ A.U.vm.findClass E = some ce.cls ∧ B.locs = A.locs ++ L ∧ (∀ z ∈ L, free z.base) ∧ B.cells = A.cells + mc ∧ B.slots = A.slots + ms
def vx_Back (l : Launch) (R : Room) (p : Program) (e : Env) (below : List Frame) (s : State) (sargs : Array Value) (y : MethodName) (len W9 : Nat)
    (Pre : Pt → Array Value → Prop) (Post : Pt → Array Value → Option Value → Pt → Prop) (PostX : Pt → Array Value → Addr → Pt → Prop) : Prop :=
  ∀ (m : MethodId) (meth : Method) (c : Code) (A : Pt) (g : JFrame) (ig : Instr) (mk : MethodId) (a : Array Value),
    Stand p l e R s m sargs below meth c A.U A.locs A.cells A.slots → g.method = m → g.locals.size = c.maxLocals → decode c.code g.pc = .ok (ig, len) →
    2 * g.monitorRoom + (g.stack.map fun v => v.category).sum ≤ W9 → A.U.methodNamed? y = some mk → Pre A a →
    (∃ (v : Option Value) (B : Pt), Stand p l e R s m sargs below meth c B.U B.locs B.cells B.slots ∧ Post A a v B ∧
      Steps p.tables e below (doInvoke e (A.U.setTop g) [] mk a).1 (B.U.setTop { g with pc := g.pc + len, stack := v.toList ++ g.stack })) ∨
    (∃ (q : Addr) (B : Pt), Stand p l e R s m sargs below meth c B.U B.locs B.cells B.slots ∧ PostX A a q B ∧
      Steps p.tables e below (doInvoke e (A.U.setTop g) [] mk a).1 ((B.U.setTop g).pushFrame (.throwing q)))
section Payer
variable {l : Launch} {R : Room} {p : Program} {e : Env} {below : List Frame} {s : State} {sargs : Array Value} {y : MethodName} {len W9 : Nat}
theorem vx_back {ws : List Cond} {rm : Room} {Pc : Array Value → State → Prop} {Qc : Array Value → State → Outcome → State → Prop} {XC : String → State → State → Prop} {mc ms : Nat} {free : Addr → Prop} {bytes : ByteArray} {maxL : Nat} {ret : Option FieldType}
    (hM : vx_Met l y ws rm Pc Qc XC mc ms free) (hblind : FrameBlind Pc) (hrc : rm.cells = mc) (hrs : rm.slots = ms)
    (hframes : rm.frames + 1 ≤ R.frames) (hlocals : W9 + (maxL + 11) + rm.locals ≤ R.locals)
    (hws : ∀ w ∈ ws, ∀ a' U, s.WarmedH U.vm → w.before a' U = true) (hcode : Cond.code y bytes maxL ret ∈ ws) (hinit : ∀ a' U, s.WarmedH U.vm → (Cond.initialized y.cls).before a' U = true) :
    vx_Back l R p e below s sargs y len W9 (PreOf R mc ms Pc) (PostOf Qc mc ms free) (vx_Post XC mc ms free) := by
  intro m meth c A g ig mk a X hg hsize hdg hW hn hp
  have h1 : (headSpec ws rm).pre.before a A.U = true := atoms_intro fun w hw => hws w hw _ _ X.warmed
  have h2 : (Cond.code y bytes maxL ret).before a A.U = true := hws _ hcode _ _ X.warmed
  have h3 : (Cond.initialized y.cls).before a A.U = true := hinit _ _ X.warmed
  have h4 : A.cells + (headSpec ws rm).room.cells ≤ R.cells := by rw [show (headSpec ws rm).room.cells = mc from hrc]; exact hp.1
  have h5 : A.slots + (headSpec ws rm).room.slots ≤ R.slots := by rw [show (headSpec ws rm).room.slots = ms from hrs]; exact hp.2.1
  have hPc : Pc a (A.U.calling g mk a) := hblind _ _ _ _ hp.2.2
  obtain ⟨U, Ls, c0, s0⟩ := A
  dsimp only [Pt.U, Pt.locs, Pt.cells, Pt.slots] at h1 h2 h3 h4 h5 X hn hPc ⊢
  obtain ⟨methY, cY, hmY, hcY, -, hlY, -, -, -, -⟩ := Cond.code_spec hn h2
  obtain ⟨kY, hkY, -⟩ := className_of_methodNamed hn
  have hinitY : kY.init = .initialized := Cond.initialized_spec (findClass_of_methodNamed hn) hkY h3
  have h : At U g.method c below := by rw [hg]; exact X.here
  have hlocals9 : W9 + (maxL + 11) + (headSpec ws rm).room.locals ≤ R.locals := hlocals
  have happ : (headSpec ws rm).appliesLoose y e.platform (U.calling g mk a) = true :=
    Spec.appliesLoose_calling (g := g) h hdg hn hkY hinitY
      (X.room_calling (g := g) (R' := (headSpec ws rm).room) hsize hmY hcY hframes (by rw [hlY]; omega) h4 h5) h1
  obtain ⟨mid, hmid⟩ := h.above
  have hfr : (U.setTop g).frames = (.java g :: mid) ++ below := by rw [State.frames_setTop' g h.top, hmid]; rfl
  obtain ⟨o, s₂, hsteps, -, hend, hq⟩ := Steps.callFree hM p X.admits X.cas X.clock (acts := []) hfr happ hPc trivial
  have hq' : vx_Q Qc XC mc ms free a (U.calling g mk a) o s₂ := hq
  rw [State.frames_setTop' g h.top] at hend
  obtain ⟨g₀, hg0⟩ := Option.isSome_iff_exists.mp h.top
  obtain ⟨r, hr⟩ := State.topJava?_eq_some.mp hg0
  have hr' : (({ U with heap := s₂.heap, slotsUsed := s₂.slotsUsed } : State).setVm s₂.vm).frames = .java g₀ :: r := hr
  rcases hq' with ⟨hqc, L, hfe, hL⟩ | ⟨q, rfl, E, ce, L, hx, hce, hcv, hcl, hW₂, hsm, hL⟩
  · obtain ⟨⟨v, rfl⟩, hW₂, e2, q2, q3, q4, q5, q6⟩ := id hfe
    have e3 : s₂ = ({ (U.calling g mk a).setFrames s₂.frames with heap := s₂.heap, slotsUsed := s₂.slotsUsed } : State).setVm s₂.vm := by
      have : s₂ = ({ s₂ with vm := (U.calling g mk a).vm } : State).setVm s₂.vm := rfl
      rw [e2] at this
      exact this
    obtain ⟨c₂, i₂, len₂, hc₂, hd₂, hf₂⟩ := hend
    have hW' : U.WarmedH s₂.vm := hW₂
    have hcc : c₂ = c := by
      have h1 : s₂.code? g.method = U.code? g.method := by
        rw [State.code?_eq, State.code?_eq, hW'.alike.method?]
      exact Option.some.inj (hc₂.symm.trans (h1.trans h.code))
    subst hcc
    have hlen : len₂ = len := by rw [hdg] at hd₂; cases hd₂; rfl
    subst hlen
    have hs₂ : s₂ = (({ U with heap := s₂.heap, slotsUsed := s₂.slotsUsed } : State).setVm s₂.vm).setTop { g with pc := g.pc + len₂, stack := v.toList ++ g.stack } := by
      refine e3.trans ?_
      rw [hf₂, State.calling_eq h.top, State.setFrames_setFrames, State.setTop_of_frames _ hr', hr]
      rfl
    have hsame : U.sameButNew ({ U with heap := s₂.heap, slotsUsed := s₂.slotsUsed } : State) L mc ms := by
      refine ⟨?_, q2, q3, q4, q5, q6⟩
      obtain ⟨t, ht, -⟩ := State.frames_cons hr
      show ({ U with heap := s₂.heap, slotsUsed := s₂.slotsUsed } : State) = { U.setFrames U.frames with heap := s₂.heap, slotsUsed := s₂.slotsUsed }
      rw [State.setFrames_self ht]
    subst hg
    refine Or.inl ⟨v, ⟨(({ U with heap := s₂.heap, slotsUsed := s₂.slotsUsed } : State).setVm s₂.vm), Ls ++ L, c0 + mc, s0 + ms⟩,
      ⟨X.admits, X.cas, X.clock, X.frames, X.room, X.hears, X.method, X.code, (X.here.setHeapUsed s₂.heap s₂.slotsUsed).setVm hW'.alike, X.tail, State.WarmedH.trans X.warmed hW', X.limits, X.bytes, X.same.trans (hsame.setVm s.vm)⟩,
      ⟨g, mk, s₂, L, rfl, rfl, hqc, rfl, hL, rfl, rfl⟩, ?_⟩
    show Steps p.tables e below _ ((({ U with heap := s₂.heap, slotsUsed := s₂.slotsUsed } : State).setVm s₂.vm).setTop { g with pc := g.pc + len₂, stack := v.toList ++ g.stack })
    rw [← hs₂]
    exact hsteps
  · obtain ⟨e2, q2, q3, q4, q5, q6⟩ := id hsm
    have e3 : s₂ = ({ (U.calling g mk a).setFrames s₂.frames with heap := s₂.heap, slotsUsed := s₂.slotsUsed } : State).setVm s₂.vm := by
      have : s₂ = ({ s₂ with vm := (U.calling g mk a).vm } : State).setVm s₂.vm := rfl
      rw [e2] at this
      exact this
    have hf₂ : s₂.frames = .throwing q :: .java g :: U.frames.tail := hend
    have hW' : U.WarmedH s₂.vm := hW₂
    have hs₂ : s₂ = ((({ U with heap := s₂.heap, slotsUsed := s₂.slotsUsed } : State).setVm s₂.vm).setTop g).pushFrame (.throwing q) := by
      refine e3.trans ?_
      rw [hf₂, State.calling_eq h.top, State.setFrames_setFrames, State.pushFrame, State.frames_setTop _ hr', State.setTop_of_frames _ hr', State.setFrames_setFrames, hr]
      rfl
    have hsame : U.sameButNew ({ U with heap := s₂.heap, slotsUsed := s₂.slotsUsed } : State) L mc ms := by
      refine ⟨?_, q2, q3, q4, q5, q6⟩
      obtain ⟨t, ht, -⟩ := State.frames_cons hr
      show ({ U with heap := s₂.heap, slotsUsed := s₂.slotsUsed } : State) = { U.setFrames U.frames with heap := s₂.heap, slotsUsed := s₂.slotsUsed }
      rw [State.setFrames_self ht]
    subst hg
    refine Or.inr ⟨q, ⟨(({ U with heap := s₂.heap, slotsUsed := s₂.slotsUsed } : State).setVm s₂.vm), Ls ++ L, c0 + mc, s0 + ms⟩,
      ⟨X.admits, X.cas, X.clock, X.frames, X.room, X.hears, X.method, X.code, (X.here.setHeapUsed s₂.heap s₂.slotsUsed).setVm hW'.alike, X.tail, State.WarmedH.trans X.warmed hW', X.limits, X.bytes, X.same.trans (hsame.setVm s.vm)⟩,
      ⟨g, mk, s₂, L, E, ce, rfl, rfl, hx, hce, hcv, hcl, rfl, hL, rfl, rfl⟩, ?_⟩
    show Steps p.tables e below _ (((({ U with heap := s₂.heap, slotsUsed := s₂.slotsUsed } : State).setVm s₂.vm).setTop g).pushFrame (.throwing q))
    rw [← hs₂]
    exact hsteps
end Payer
section Calls
variable {p : Program} {l : Launch} {e : Env} {R : Room} {s : State} {m : MethodId} {args : Array Value} {below : List Frame} {meth : Method} {c : Code} {T : State} {locs : List Loc} {cells slots : Nat}
theorem vx_callV (X : Stand p l e R s m args below meth c T locs cells slots) (hexec : p.tables.exec = Jvm.exec) {own C : String} {index : Nat} {y : MethodName} {bytes : ByteArray} {maxL : Nat} {ret : Option FieldType}
    (hown : s.vm.findClass own = some m.cls) (hlink : (Cond.methodLink own index y).before args s = true) (hinst : (Cond.instanceMethod y).before args s = true) (hsel : (Cond.selects C y y).before args s = true)
    (hcode : (Cond.code y bytes maxL ret).before args s = true) (hy : y.cls ≠ "java/lang/invoke/MethodHandle" ∧ y.cls ≠ "java/lang/invoke/VarHandle")
    {W9 : Nat} {Pre : Pt → Array Value → Prop} {Post : Pt → Array Value → Option Value → Pt → Prop} {PostX : Pt → Array Value → Addr → Pt → Prop} (hK : vx_Back l R p e below s args y 3 W9 Pre Post PostX)
    {b : Addr} {cellB : Cell} (hcell : T.heap[b]? = some cellB) (hobj : cellB.vm.isStatics = false) (hcls : s.vm.findClass C = some cellB.cls)
    {g : JFrame} (hg : g.method = m) (hsize : g.locals.size = c.maxLocals) {argsL rest : List Value} (hlen : ∀ sig, parseMethodDescriptor y.desc = some sig → argsL.length = sig.parameters.length)
    (hstack : g.stack = argsL.reverse ++ .ref b :: rest) (hW : 2 * g.monitorRoom + (rest.map fun v => v.category).sum ≤ W9) (hdg : decode c.code g.pc = .ok (.invokevirtual index, 3))
    (hpre : ∀ vm₁, s.WarmedH vm₁ → Pre ⟨T.setVm vm₁, locs, cells, slots⟩ (Value.ref b :: argsL).toArray) :
    (∃ (v : Option Value) (vm₁ : Vm) (B : Pt), s.WarmedH vm₁ ∧ Stand p l e R s m args below meth c B.U B.locs B.cells B.slots ∧ Post ⟨T.setVm vm₁, locs, cells, slots⟩ (Value.ref b :: argsL).toArray v B ∧
      ∀ target, Steps p.tables e below (B.U.setTop { g with pc := g.pc + 3, stack := v.toList ++ rest }) target → Steps p.tables e below (T.setTop g) target) ∨
    (∃ (q : Addr) (vm₁ : Vm) (B : Pt), s.WarmedH vm₁ ∧ Stand p l e R s m args below meth c B.U B.locs B.cells B.slots ∧ PostX ⟨T.setVm vm₁, locs, cells, slots⟩ (Value.ref b :: argsL).toArray q B ∧
      Steps p.tables e below (T.setTop g) ((B.U.setTop { g with stack := rest }).pushFrame (.throwing q))) := by
  obtain ⟨mk, methM, hnamed, hmethM, hstM, habM⟩ := Cond.instanceMethod_spec hinst
  obtain ⟨methM', cM, hmethM', -, -, -, -, -, -, hsigM⟩ := Cond.code_spec hnamed hcode
  cases hmethM.symm.trans hmethM'
  obtain ⟨c2, r2, m2, q1, q2, q3, q4, kP, hkP, hkPi⟩ := Cond.selects_spec hsel
  cases hcls.symm.trans q1
  cases (State.methodFound?_of_named hnamed hy).symm.trans q2
  cases hnamed.symm.trans q3
  have hselP : selectMethod e.platform s.vm cellB.cls mk = .method mk := by rw [Launch.admits_selectMethod X.admits]; exact q4
  obtain ⟨vm₁, X₁, hstep₁⟩ := X.invokevirtual hexec hown hlink hnamed hmethM hstM hkP hkPi hy (a := b) (cell := cellB) hcell
    (fun z h => by rw [h] at hobj; cases hobj) hselP hmethM habM hkP hkPi (g := g) hg (argsL := argsL) (rest := rest) (hlen _ hsigM) hstack hdg
  rcases hK m meth c ⟨T.setVm vm₁, locs, cells, slots⟩ { g with stack := rest } (.invokevirtual index) mk (Value.ref b :: argsL).toArray X₁ hg hsize hdg hW (X₁.named hnamed) (hpre vm₁ X₁.warmed) with ⟨v, B, X', hpost, hsteps⟩ | ⟨q, B, X', hpost, hsteps⟩
  · exact Or.inl ⟨v, vm₁, B, X₁.warmed, X', hpost, fun target h => hstep₁ _ fun acts => by rw [doInvoke_state]; exact hsteps.trans h⟩
  · exact Or.inr ⟨q, vm₁, B, X₁.warmed, X', hpost, hstep₁ _ fun acts => by rw [doInvoke_state]; exact hsteps⟩
theorem vx_callS (X : Stand p l e R s m args below meth c T locs cells slots) (hexec : p.tables.exec = Jvm.exec) {own : String} {index : Nat} {y : MethodName} {bytes : ByteArray} {maxL : Nat} {ret : Option FieldType}
    (hown : s.vm.findClass own = some m.cls) (hlink : (Cond.methodLink own index y).before args s = true) (hstat : (Cond.static y).before args s = true) (hinit : (Cond.initialized y.cls).before args s = true)
    (hcode : (Cond.code y bytes maxL ret).before args s = true) (hy : y.cls ≠ "java/lang/invoke/MethodHandle" ∧ y.cls ≠ "java/lang/invoke/VarHandle")
    {W9 : Nat} {Pre : Pt → Array Value → Prop} {Post : Pt → Array Value → Option Value → Pt → Prop} {PostX : Pt → Array Value → Addr → Pt → Prop} (hK : vx_Back l R p e below s args y 3 W9 Pre Post PostX)
    {g : JFrame} (hg : g.method = m) (hsize : g.locals.size = c.maxLocals) {argsL rest : List Value} (hlen : ∀ sig, parseMethodDescriptor y.desc = some sig → argsL.length = sig.parameters.length)
    (hstack : g.stack = argsL.reverse ++ rest) (hW : 2 * g.monitorRoom + (rest.map fun v => v.category).sum ≤ W9) (hdg : decode c.code g.pc = .ok (.invokestatic index, 3))
    (hpre : ∀ vm₁, s.WarmedH vm₁ → Pre ⟨T.setVm vm₁, locs, cells, slots⟩ argsL.toArray) :
    (∃ (v : Option Value) (vm₁ : Vm) (B : Pt), s.WarmedH vm₁ ∧ Stand p l e R s m args below meth c B.U B.locs B.cells B.slots ∧ Post ⟨T.setVm vm₁, locs, cells, slots⟩ argsL.toArray v B ∧
      ∀ target, Steps p.tables e below (B.U.setTop { g with pc := g.pc + 3, stack := v.toList ++ rest }) target → Steps p.tables e below (T.setTop g) target) ∨
    (∃ (q : Addr) (vm₁ : Vm) (B : Pt), s.WarmedH vm₁ ∧ Stand p l e R s m args below meth c B.U B.locs B.cells B.slots ∧ PostX ⟨T.setVm vm₁, locs, cells, slots⟩ argsL.toArray q B ∧
      Steps p.tables e below (T.setTop g) ((B.U.setTop { g with stack := rest }).pushFrame (.throwing q))) := by
  obtain ⟨mk, hnamed⟩ := Cond.code_named hcode
  obtain ⟨methM, cM, hmethM, -, -, -, -, -, -, hsigM⟩ := Cond.code_spec hnamed hcode
  have hstatic : methM.isStatic = true := Cond.static_spec hnamed hmethM hstat
  obtain ⟨kP, hkP, -⟩ := className_of_methodNamed hnamed
  have hinitP : kP.init = .initialized := Cond.initialized_spec (findClass_of_methodNamed hnamed) hkP hinit
  obtain ⟨vm₁, X₁, hstep₁⟩ := X.invokestatic hexec hown hlink hnamed hmethM hstatic hkP hinitP hy (g := g) hg (argsL := argsL) (rest := rest) (hlen _ hsigM) hstack hdg
  rcases hK m meth c ⟨T.setVm vm₁, locs, cells, slots⟩ { g with stack := rest } (.invokestatic index) mk argsL.toArray X₁ hg hsize hdg hW (X₁.named hnamed) (hpre vm₁ X₁.warmed) with ⟨v, B, X', hpost, hsteps⟩ | ⟨q, B, X', hpost, hsteps⟩
  · exact Or.inl ⟨v, vm₁, B, X₁.warmed, X', hpost, fun target h => hstep₁ _ fun acts => by rw [doInvoke_state]; exact hsteps.trans h⟩
  · exact Or.inr ⟨q, vm₁, B, X₁.warmed, X', hpost, hstep₁ _ fun acts => by rw [doInvoke_state]; exact hsteps⟩
end Calls
theorem vx_cls {s : State} {T : State} {vm₁ : Vm} {E : String} {k : ClassId} (hW : s.WarmedH vm₁) (h : (T.setVm vm₁).vm.findClass E = some k) : s.vm.findClass E = some k := by
  have h1 : vm₁.findClass E = some k := h
  rw [hW.alike.findClass] at h1
  exact h1
/-- the method's frame g, with q thrown over it -/
def vx_W (p : Program) (l : Launch) (e : Env) (R : Room) (s : State) (m : MethodId) (args : Array Value) (below : List Frame) (meth : Method) (c : Code) (H : Heap) (locs : List Loc) (cells slots : Nat) (Q : State → Prop) (g : JFrame) (q : Addr) : Prop :=
  ∀ T : State, T.heap = H → Stand p l e R s m args below meth c T locs cells slots → ∃ t, Steps p.tables e below ((T.setTop g).pushFrame (.throwing q)) t ∧ Q t
def vx_Run (p : Program) (l : Launch) (e : Env) (R : Room) (s : State) (m : MethodId) (args : Array Value) (below : List Frame) (meth : Method) (c : Code) (H : Heap) (locs : List Loc) (cells slots mc ms : Nat) (g : JFrame) (rest : List Value) (Qa : State → Outcome → State → Prop) (XC : String → State → State → Prop) (free : Addr → Prop) : Prop :=
  ∀ T : State, T.heap = H → Stand p l e R s m args below meth c T locs cells slots →
    (∃ (v : Option Value) (st₀ t T' : State) (L : List Loc), st₀.heap = H ∧ Stand p l e R s m args below meth c T' (locs ++ L) (cells + mc) (slots + ms) ∧ (∀ q ∈ L, free q.base) ∧ T'.heap = t.heap ∧ T'.vm = t.vm ∧ Qa st₀ (.returned v) t ∧
      Goes p e below T g T' { g with pc := g.pc + 3, stack := v.toList ++ rest }) ∨
    (∃ (q : Addr) (st₀ t T' : State) (L : List Loc) (E : String) (ce : Cell), st₀.heap = H ∧ Stand p l e R s m args below meth c T' (locs ++ L) (cells + mc) (slots + ms) ∧ (∀ z ∈ L, free z.base) ∧ T'.heap = t.heap ∧ T'.vm = t.vm ∧ XC E st₀ t ∧ t.heap[q]? = some ce ∧ ce.vm = .none ∧ s.vm.findClass E = some ce.cls ∧
      Steps p.tables e below (T.setTop g) ((T'.setTop { g with stack := rest }).pushFrame (.throwing q)))
def vx_X {S : Type} (px : S → Prop) (B : String → S → State → Prop) (A : Nat → Prop) : String → State → State → Prop := fun E st t => ∃ u : S, px u ∧ B E u t ∧ va_F A st t
section Runs
variable {p : Program} {l : Launch} {e : Env} {R : Room} {s : State} {m : MethodId} {args : Array Value} {below : List Frame} {meth : Method} {c : Code} {H : Heap} {locs : List Loc} {cells slots : Nat}
variable {y : MethodName} {bytes cc : ByteArray} {maxL nL mc ms n index : Nat} {ret : Option FieldType} {ws : List Cond} {rm : Room} {Pc : Array Value → State → Prop} {Qc : Array Value → State → Outcome → State → Prop} {XC : String → State → State → Prop} {free : Addr → Prop} {Ts : List Cond} {own C : String} {b : Addr} {As rest : List Value} {g : JFrame}
theorem vx_callBack (cb : CallB R s args own index y bytes maxL ret ws rm mc ms n) (hM : vx_Met l y ws rm Pc Qc XC mc ms free) (hbl : FrameBlind Pc) : vx_Back l R p e below s args y 3 8 (PreOf R mc ms Pc) (PostOf Qc mc ms free) (vx_Post XC mc ms free) := by
  obtain ⟨hrc, hrs, hfr, hlo, hws, hcw, -, hini, -⟩ := cb
  exact vx_back (bytes := bytes) (maxL := maxL) (ret := ret) hM hbl hrc hrs hfr hlo hws hcw (fun a' U hW => word_at hW (Or.inl (by first | rfl | simp [Cond.onTables, Cond.keeps, Cond.steady])) hini)
theorem vx_runV (S : CallFix p m c cc nL s args Ts own) (hM : vx_Met l y ws rm Pc Qc XC mc ms free) (cw : CallW R s args own C index y bytes maxL ret ws rm mc ms n) (hp : PreV s H C b Pc As)
    (hg : g.method = m) (hn : As.length = n) (hsize : g.locals.size = nL) (hstack : g.stack = As.reverse ++ .ref b :: rest) (hW : 2 * g.monitorRoom + (rest.map fun v => v.category).sum ≤ 8) (hdg : decode cc g.pc = .ok (.invokevirtual index, 3)) (hf : cells + mc ≤ R.cells ∧ slots + ms ≤ R.slots) :
    vx_Run p l e R s m args below meth c H locs cells slots mc ms g rest (Qc (Value.ref b :: As).toArray) XC free := by
  have hK : vx_Back l R p e below s args y 3 8 (PreOf R mc ms Pc) (PostOf Qc mc ms free) (vx_Post XC mc ms free) := vx_callBack cw.1 hM hp.1
  obtain ⟨⟨-, -, -, -, -, -, hcode, -, hy, hlen, hl⟩, hin, hse⟩ := cw
  obtain ⟨hx, hb, hml, ho, -⟩ := S
  obtain ⟨-, ⟨cellB, hcB, hoB, hclB⟩, hPc⟩ := hp
  intro T hT X
  rcases vx_callV X hx (C := C) (bytes := bytes) (maxL := maxL) (ret := ret) ho hl hin hse hcode hy hK (by rw [hT]; exact hcB) hoB hclB hg (hsize.trans hml.symm) (argsL := As) (rest := rest) (fun sig h => hn.trans (hlen sig h)) hstack hW (by rw [hb]; exact hdg)
    (fun vm₁ hW₁ => ⟨hf.1, hf.2, hPc (T.setVm vm₁) hT hW₁⟩) with ⟨v, vm₁, ⟨U', l2, c2, s2⟩, hW₁, X', ⟨g', mk, t, L, e1, e2, hq, h1, hL, h2, h3⟩, st⟩ | ⟨q, vm₁, ⟨U', l2, c2, s2⟩, hW₁, X', ⟨g', mk, t, L, E, ce, e1, e2, hq, hce, hcv, hcl, h1, hL, h2, h3⟩, st⟩
  · dsimp only [Pt.U, Pt.locs, Pt.cells, Pt.slots] at X' e1 e2 h1 h2 h3 st
    subst h1; subst h2; subst h3
    exact Or.inl ⟨v, (T.setVm vm₁).calling g' mk (Value.ref b :: As).toArray, t, U', L, hT, X', hL, e1, e2, hq, st⟩
  · dsimp only [Pt.U, Pt.locs, Pt.cells, Pt.slots] at X' e1 e2 h1 h2 h3 st hcl
    subst h1; subst h2; subst h3
    exact Or.inr ⟨q, (T.setVm vm₁).calling g' mk (Value.ref b :: As).toArray, t, U', L, E, ce, hT, X', hL, e1, e2, hq, hce, hcv, vx_cls hW₁ hcl, st⟩
theorem vx_runS (S : CallFix p m c cc nL s args Ts own) (hM : vx_Met l y ws rm Pc Qc XC mc ms free) (cw : CallB R s args own index y bytes maxL ret ws rm mc ms n ∧ (Cond.static y).before args s = true) (hp : PreS s H Pc As)
    (hg : g.method = m) (hn : As.length = n) (hsize : g.locals.size = nL) (hstack : g.stack = As.reverse ++ rest) (hW : 2 * g.monitorRoom + (rest.map fun v => v.category).sum ≤ 8) (hdg : decode cc g.pc = .ok (.invokestatic index, 3)) (hf : cells + mc ≤ R.cells ∧ slots + ms ≤ R.slots) :
    vx_Run p l e R s m args below meth c H locs cells slots mc ms g rest (Qc As.toArray) XC free := by
  have hK : vx_Back l R p e below s args y 3 8 (PreOf R mc ms Pc) (PostOf Qc mc ms free) (vx_Post XC mc ms free) := vx_callBack cw.1 hM hp.1
  obtain ⟨⟨-, -, -, -, -, -, hcode, hini, hy, hlen, hl⟩, hstt⟩ := cw
  obtain ⟨hx, hb, hml, ho, -⟩ := S
  intro T hT X
  rcases vx_callS X hx (bytes := bytes) (maxL := maxL) (ret := ret) ho hl hstt hini hcode hy hK hg (hsize.trans hml.symm) (argsL := As) (rest := rest) (fun sig h => hn.trans (hlen sig h)) hstack hW (by rw [hb]; exact hdg)
    (fun vm₁ hW₁ => ⟨hf.1, hf.2, hp.2 (T.setVm vm₁) hT hW₁⟩) with ⟨v, vm₁, ⟨U', l2, c2, s2⟩, hW₁, X', ⟨g', mk, t, L, e1, e2, hq, h1, hL, h2, h3⟩, st⟩ | ⟨q, vm₁, ⟨U', l2, c2, s2⟩, hW₁, X', ⟨g', mk, t, L, E, ce, e1, e2, hq, hce, hcv, hcl, h1, hL, h2, h3⟩, st⟩
  · dsimp only [Pt.U, Pt.locs, Pt.cells, Pt.slots] at X' e1 e2 h1 h2 h3 st
    subst h1; subst h2; subst h3
    exact Or.inl ⟨v, (T.setVm vm₁).calling g' mk As.toArray, t, U', L, hT, X', hL, e1, e2, hq, st⟩
  · dsimp only [Pt.U, Pt.locs, Pt.cells, Pt.slots] at X' e1 e2 h1 h2 h3 st hcl
    subst h1; subst h2; subst h3
    exact Or.inr ⟨q, (T.setVm vm₁).calling g' mk As.toArray, t, U', L, E, ce, hT, X', hL, e1, e2, hq, hce, hcv, vx_cls hW₁ hcl, st⟩
end Runs
section Rows
variable {p : Program} {l : Launch} {e : Env} {R : Room} {s : State} {m : MethodId} {args : Array Value} {below : List Frame} {meth : Method} {c : Code} {H : Heap} {locs : List Loc} {cells slots : Nat} {Q : State → Prop}
variable {mc ms : Nat} {free : Addr → Prop} {A0 A1 : Nat → Prop} {H0 : Heap} {a : Array Value} {pc : Nat} {ls : Array Slot} {st0 rest : List Value}
theorem vx_keep {st₀ t T' : State} {L : List Loc} (h0 : st₀.heap = H) (e1 : T'.heap = t.heap) (hS : va_S A0 H0 H locs) (hA : ∀ q, q < H.size → A1 q → A0 q) (hf : ∀ q, free q → A0 q) (hL : ∀ q ∈ L, free q.base) (hF : va_F A1 st₀ t) :
    H.size ≤ T'.heap.size ∧ (∀ q : Nat, q < H.size → ¬ A1 q → T'.heap[q]? = H[q]?) ∧ va_S A0 H0 T'.heap (locs ++ L) := by
  obtain ⟨hz, hk⟩ := hF
  rw [h0] at hz hk
  exact ⟨by rw [e1]; exact hz, fun q h1 h2 => by rw [e1]; exact hk q h1 h2,
    ⟨Nat.le_trans hS.1 (by rw [e1]; exact hz), fun q h1 h2 => by rw [e1, hk q (Nat.lt_of_lt_of_le h1 hS.1) (fun z => h2 (hA q (Nat.lt_of_lt_of_le h1 hS.1) z))]; exact hS.2.1 q h1 h2, fun q hq => by
      rcases List.mem_append.mp hq with h | h
      · exact hS.2.2 q h
      · exact hf _ (hL q h)⟩⟩
theorem vx_calli {S SX : Type} {post : Int32 → S → Prop} {px : SX → Prop} {B : S → State → Prop} {BX : String → SX → State → Prop} {AX : Nat → Prop} (hr : vx_Run p l e R s m args below meth c H locs cells slots mc ms (F0 m pc ls st0) rest (va_Qi post B A1 a) (vx_X px BX AX) free) (hS : va_S A0 H0 H locs) (hA : ∀ q, q < H.size → A1 q → A0 q) (hf : ∀ q, free q → A0 q) (hAX : ∀ q, q < H.size → AX q → A0 q)
    (kx : ∀ (E : String) (ce : Cell) (q9 : Addr) (u : SX) (t : State) (H1 : Heap) (locs1 : List Loc), t.heap = H1 → s.vm.Alike t.vm → px u → BX E u t → H.size ≤ H1.size → (∀ q : Nat, q < H.size → ¬ AX q → H1[q]? = H[q]?) → va_S A0 H0 H1 locs1 → H1[q9]? = some ce → ce.vm = .none → s.vm.findClass E = some ce.cls → vx_W p l e R s m args below meth c H1 locs1 (cells + mc) (slots + ms) Q (F0 m pc ls rest) q9)
    (kk : ∀ (r : Int32) (u : S) (t : State) (H1 : Heap) (locs1 : List Loc), t.heap = H1 → s.vm.Alike t.vm → post r u → B u t → H.size ≤ H1.size → (∀ q : Nat, q < H.size → ¬ A1 q → H1[q]? = H[q]?) → va_S A0 H0 H1 locs1 → W p l e R s m args below meth c H1 locs1 (cells + mc) (slots + ms) Q (F0 m (pc + 3) ls (.int r :: rest))) : W p l e R s m args below meth c H locs cells slots Q (F0 m pc ls st0) := by
  intro T hT X
  rcases hr T hT X with ⟨v, st₀, t, T', L, h0, X', hL, e1, e2, ⟨⟨r, u, hv, hp, hb⟩, hF⟩, st⟩ | ⟨q, st₀, t, T', L, E, ce, h0, X', hL, e1, e2, ⟨u, hp, hb, hF⟩, hce, hcv, hcl, st⟩
  · cases hv
    obtain ⟨k1, k2, k3⟩ := vx_keep h0 e1 hS hA hf hL hF
    obtain ⟨t2, a1, b1⟩ := kk r u t T'.heap (locs ++ L) e1.symm (by rw [← e2]; exact X'.warmed.alike) hp hb k1 k2 k3 T' rfl X'
    exact ⟨t2, st t2 a1, b1⟩
  · obtain ⟨k1, k2, k3⟩ := vx_keep h0 e1 hS hAX hf hL hF
    obtain ⟨t2, a1, b1⟩ := kx E ce q u t T'.heap (locs ++ L) e1.symm (by rw [← e2]; exact X'.warmed.alike) hp hb k1 k2 k3 (by rw [e1]; exact hce) hcv hcl T' rfl X'
    exact ⟨t2, st.trans a1, b1⟩
theorem vx_calll {S SX : Type} {post : Int64 → S → Prop} {px : SX → Prop} {B : S → State → Prop} {BX : String → SX → State → Prop} {AX : Nat → Prop} (hr : vx_Run p l e R s m args below meth c H locs cells slots mc ms (F0 m pc ls st0) rest (va_Ql post B A1 a) (vx_X px BX AX) free) (hS : va_S A0 H0 H locs) (hA : ∀ q, q < H.size → A1 q → A0 q) (hf : ∀ q, free q → A0 q) (hAX : ∀ q, q < H.size → AX q → A0 q)
    (kx : ∀ (E : String) (ce : Cell) (q9 : Addr) (u : SX) (t : State) (H1 : Heap) (locs1 : List Loc), t.heap = H1 → s.vm.Alike t.vm → px u → BX E u t → H.size ≤ H1.size → (∀ q : Nat, q < H.size → ¬ AX q → H1[q]? = H[q]?) → va_S A0 H0 H1 locs1 → H1[q9]? = some ce → ce.vm = .none → s.vm.findClass E = some ce.cls → vx_W p l e R s m args below meth c H1 locs1 (cells + mc) (slots + ms) Q (F0 m pc ls rest) q9)
    (kk : ∀ (r : Int64) (u : S) (t : State) (H1 : Heap) (locs1 : List Loc), t.heap = H1 → s.vm.Alike t.vm → post r u → B u t → H.size ≤ H1.size → (∀ q : Nat, q < H.size → ¬ A1 q → H1[q]? = H[q]?) → va_S A0 H0 H1 locs1 → W p l e R s m args below meth c H1 locs1 (cells + mc) (slots + ms) Q (F0 m (pc + 3) ls (.long r :: rest))) : W p l e R s m args below meth c H locs cells slots Q (F0 m pc ls st0) := by
  intro T hT X
  rcases hr T hT X with ⟨v, st₀, t, T', L, h0, X', hL, e1, e2, ⟨⟨r, u, hv, hp, hb⟩, hF⟩, st⟩ | ⟨q, st₀, t, T', L, E, ce, h0, X', hL, e1, e2, ⟨u, hp, hb, hF⟩, hce, hcv, hcl, st⟩
  · cases hv
    obtain ⟨k1, k2, k3⟩ := vx_keep h0 e1 hS hA hf hL hF
    obtain ⟨t2, a1, b1⟩ := kk r u t T'.heap (locs ++ L) e1.symm (by rw [← e2]; exact X'.warmed.alike) hp hb k1 k2 k3 T' rfl X'
    exact ⟨t2, st t2 a1, b1⟩
  · obtain ⟨k1, k2, k3⟩ := vx_keep h0 e1 hS hAX hf hL hF
    obtain ⟨t2, a1, b1⟩ := kx E ce q u t T'.heap (locs ++ L) e1.symm (by rw [← e2]; exact X'.warmed.alike) hp hb k1 k2 k3 (by rw [e1]; exact hce) hcv hcl T' rfl X'
    exact ⟨t2, st.trans a1, b1⟩
theorem vx_callf {S SX : Type} {post : UInt32 → S → Prop} {px : SX → Prop} {B : S → State → Prop} {BX : String → SX → State → Prop} {AX : Nat → Prop} (hr : vx_Run p l e R s m args below meth c H locs cells slots mc ms (F0 m pc ls st0) rest (va_Qf post B A1 a) (vx_X px BX AX) free) (hS : va_S A0 H0 H locs) (hA : ∀ q, q < H.size → A1 q → A0 q) (hf : ∀ q, free q → A0 q) (hAX : ∀ q, q < H.size → AX q → A0 q)
    (kx : ∀ (E : String) (ce : Cell) (q9 : Addr) (u : SX) (t : State) (H1 : Heap) (locs1 : List Loc), t.heap = H1 → s.vm.Alike t.vm → px u → BX E u t → H.size ≤ H1.size → (∀ q : Nat, q < H.size → ¬ AX q → H1[q]? = H[q]?) → va_S A0 H0 H1 locs1 → H1[q9]? = some ce → ce.vm = .none → s.vm.findClass E = some ce.cls → vx_W p l e R s m args below meth c H1 locs1 (cells + mc) (slots + ms) Q (F0 m pc ls rest) q9)
    (kk : ∀ (r : UInt32) (u : S) (t : State) (H1 : Heap) (locs1 : List Loc), t.heap = H1 → s.vm.Alike t.vm → post r u → B u t → H.size ≤ H1.size → (∀ q : Nat, q < H.size → ¬ A1 q → H1[q]? = H[q]?) → va_S A0 H0 H1 locs1 → W p l e R s m args below meth c H1 locs1 (cells + mc) (slots + ms) Q (F0 m (pc + 3) ls (.float r :: rest))) : W p l e R s m args below meth c H locs cells slots Q (F0 m pc ls st0) := by
  intro T hT X
  rcases hr T hT X with ⟨v, st₀, t, T', L, h0, X', hL, e1, e2, ⟨⟨r, u, hv, hp, hb⟩, hF⟩, st⟩ | ⟨q, st₀, t, T', L, E, ce, h0, X', hL, e1, e2, ⟨u, hp, hb, hF⟩, hce, hcv, hcl, st⟩
  · cases hv
    obtain ⟨k1, k2, k3⟩ := vx_keep h0 e1 hS hA hf hL hF
    obtain ⟨t2, a1, b1⟩ := kk r u t T'.heap (locs ++ L) e1.symm (by rw [← e2]; exact X'.warmed.alike) hp hb k1 k2 k3 T' rfl X'
    exact ⟨t2, st t2 a1, b1⟩
  · obtain ⟨k1, k2, k3⟩ := vx_keep h0 e1 hS hAX hf hL hF
    obtain ⟨t2, a1, b1⟩ := kx E ce q u t T'.heap (locs ++ L) e1.symm (by rw [← e2]; exact X'.warmed.alike) hp hb k1 k2 k3 (by rw [e1]; exact hce) hcv hcl T' rfl X'
    exact ⟨t2, st.trans a1, b1⟩
theorem vx_calld {S SX : Type} {post : UInt64 → S → Prop} {px : SX → Prop} {B : S → State → Prop} {BX : String → SX → State → Prop} {AX : Nat → Prop} (hr : vx_Run p l e R s m args below meth c H locs cells slots mc ms (F0 m pc ls st0) rest (va_Qd post B A1 a) (vx_X px BX AX) free) (hS : va_S A0 H0 H locs) (hA : ∀ q, q < H.size → A1 q → A0 q) (hf : ∀ q, free q → A0 q) (hAX : ∀ q, q < H.size → AX q → A0 q)
    (kx : ∀ (E : String) (ce : Cell) (q9 : Addr) (u : SX) (t : State) (H1 : Heap) (locs1 : List Loc), t.heap = H1 → s.vm.Alike t.vm → px u → BX E u t → H.size ≤ H1.size → (∀ q : Nat, q < H.size → ¬ AX q → H1[q]? = H[q]?) → va_S A0 H0 H1 locs1 → H1[q9]? = some ce → ce.vm = .none → s.vm.findClass E = some ce.cls → vx_W p l e R s m args below meth c H1 locs1 (cells + mc) (slots + ms) Q (F0 m pc ls rest) q9)
    (kk : ∀ (r : UInt64) (u : S) (t : State) (H1 : Heap) (locs1 : List Loc), t.heap = H1 → s.vm.Alike t.vm → post r u → B u t → H.size ≤ H1.size → (∀ q : Nat, q < H.size → ¬ A1 q → H1[q]? = H[q]?) → va_S A0 H0 H1 locs1 → W p l e R s m args below meth c H1 locs1 (cells + mc) (slots + ms) Q (F0 m (pc + 3) ls (.double r :: rest))) : W p l e R s m args below meth c H locs cells slots Q (F0 m pc ls st0) := by
  intro T hT X
  rcases hr T hT X with ⟨v, st₀, t, T', L, h0, X', hL, e1, e2, ⟨⟨r, u, hv, hp, hb⟩, hF⟩, st⟩ | ⟨q, st₀, t, T', L, E, ce, h0, X', hL, e1, e2, ⟨u, hp, hb, hF⟩, hce, hcv, hcl, st⟩
  · cases hv
    obtain ⟨k1, k2, k3⟩ := vx_keep h0 e1 hS hA hf hL hF
    obtain ⟨t2, a1, b1⟩ := kk r u t T'.heap (locs ++ L) e1.symm (by rw [← e2]; exact X'.warmed.alike) hp hb k1 k2 k3 T' rfl X'
    exact ⟨t2, st t2 a1, b1⟩
  · obtain ⟨k1, k2, k3⟩ := vx_keep h0 e1 hS hAX hf hL hF
    obtain ⟨t2, a1, b1⟩ := kx E ce q u t T'.heap (locs ++ L) e1.symm (by rw [← e2]; exact X'.warmed.alike) hp hb k1 k2 k3 (by rw [e1]; exact hce) hcv hcl T' rfl X'
    exact ⟨t2, st.trans a1, b1⟩
theorem vx_callv {S SX : Type} {post : S → Prop} {px : SX → Prop} {B : S → State → Prop} {BX : String → SX → State → Prop} {AX : Nat → Prop} (hr : vx_Run p l e R s m args below meth c H locs cells slots mc ms (F0 m pc ls st0) rest (va_Qv post B A1 a) (vx_X px BX AX) free) (hS : va_S A0 H0 H locs) (hA : ∀ q, q < H.size → A1 q → A0 q) (hf : ∀ q, free q → A0 q) (hAX : ∀ q, q < H.size → AX q → A0 q)
    (kx : ∀ (E : String) (ce : Cell) (q9 : Addr) (u : SX) (t : State) (H1 : Heap) (locs1 : List Loc), t.heap = H1 → s.vm.Alike t.vm → px u → BX E u t → H.size ≤ H1.size → (∀ q : Nat, q < H.size → ¬ AX q → H1[q]? = H[q]?) → va_S A0 H0 H1 locs1 → H1[q9]? = some ce → ce.vm = .none → s.vm.findClass E = some ce.cls → vx_W p l e R s m args below meth c H1 locs1 (cells + mc) (slots + ms) Q (F0 m pc ls rest) q9)
    (kk : ∀ (u : S) (t : State) (H1 : Heap) (locs1 : List Loc), t.heap = H1 → s.vm.Alike t.vm → post u → B u t → H.size ≤ H1.size → (∀ q : Nat, q < H.size → ¬ A1 q → H1[q]? = H[q]?) → va_S A0 H0 H1 locs1 → W p l e R s m args below meth c H1 locs1 (cells + mc) (slots + ms) Q (F0 m (pc + 3) ls (rest))) : W p l e R s m args below meth c H locs cells slots Q (F0 m pc ls st0) := by
  intro T hT X
  rcases hr T hT X with ⟨v, st₀, t, T', L, h0, X', hL, e1, e2, ⟨⟨u, hv, hp, hb⟩, hF⟩, st⟩ | ⟨q, st₀, t, T', L, E, ce, h0, X', hL, e1, e2, ⟨u, hp, hb, hF⟩, hce, hcv, hcl, st⟩
  · cases hv
    obtain ⟨k1, k2, k3⟩ := vx_keep h0 e1 hS hA hf hL hF
    obtain ⟨t2, a1, b1⟩ := kk u t T'.heap (locs ++ L) e1.symm (by rw [← e2]; exact X'.warmed.alike) hp hb k1 k2 k3 T' rfl X'
    exact ⟨t2, st t2 a1, b1⟩
  · obtain ⟨k1, k2, k3⟩ := vx_keep h0 e1 hS hAX hf hL hF
    obtain ⟨t2, a1, b1⟩ := kx E ce q u t T'.heap (locs ++ L) e1.symm (by rw [← e2]; exact X'.warmed.alike) hp hb k1 k2 k3 (by rw [e1]; exact hce) hcv hcl T' rfl X'
    exact ⟨t2, st.trans a1, b1⟩
/-- caught by the row x of this method's table; the rows ahead don't take it -/
theorem vx_catch {own name : String} {E : String} {ce : Cell} {q : Addr} (hown : s.vm.findClass own = some m.cls) (pre : List ExceptionTableEntry) (x : ExceptionTableEntry) (suf : List ExceptionTableEntry) (hsplit : c.exceptionTable.toList = pre ++ x :: suf)
    (hpass : ∀ z ∈ pre, covers z pc = false ∨ (z.catchType ≠ 0 ∧ ∃ nm : String, (Cond.classLink own z.catchType nm).before args s = true ∧ va_Nc E nm s)) (hx : covers x pc = true) (h0 : x.catchType ≠ 0)
    (hlink : (Cond.classLink own x.catchType name).before args s = true) (hcast : (Cond.castable E name).before args s = true) (hcell : H[q]? = some ce) (hv : ce.vm = .none) (hcl : s.vm.findClass E = some ce.cls)
    (kk : W p l e R s m args below meth c H locs cells slots Q (F0 m x.handlerPc ls [.ref q])) : vx_W p l e R s m args below meth c H locs cells slots Q (F0 m pc ls rest) q := by
  intro T hT X
  have hpl : e.platform.magicAccessors = ({} : Platform).magicAccessors := by rw [X.admits.platform]
  obtain ⟨c3, c4, hc3, hc4, hasg⟩ := Cond.castable_spec hcast
  cases Option.some.inj (hc3.symm.trans hcl)
  obtain ⟨c5, hc5, hcl5⟩ := Cond.classLink_spec hown hlink e.platform hpl
  cases Option.some.inj (hc4.symm.trans hc5)
  obtain ⟨vm', X', st⟩ := X.thenCaughtThrough q (g := F0 m pc ls rest) rfl (Steps.refl _) (by rw [hT]; exact hcell) (by rw [hv]; rfl) (by obtain ⟨k9, h9, -⟩ := Vm.findClass_spec hcl; exact ⟨k9, h9⟩) pre x suf hsplit
    (fun z hz => by
      rcases hpass z hz with h | ⟨hz0, nm, hl1, hn1⟩
      · exact Or.inl h
      · obtain ⟨c6, hc6, hcl6⟩ := Cond.classLink_spec hown hl1 e.platform hpl
        obtain ⟨a8, b8, h1, h2, h3⟩ := hn1
        cases Option.some.inj (h1.symm.trans hcl)
        cases Option.some.inj (h2.symm.trans hc6)
        exact Or.inr ⟨hz0, _, hcl6, h3⟩) hx (Or.inr ⟨h0, c4, hcl5, hasg⟩)
  obtain ⟨t, a1, b1⟩ := kk (T.setVm vm') hT X'
  exact ⟨t, st.trans a1, b1⟩
end Rows
section Ends
variable {p : Program} {l : Launch} {e : Env} {R : Room} {s : State} {m : MethodId} {args : Array Value} {below : List Frame} {meth : Method} {c : Code} {H : Heap} {locs : List Loc} {cells slots : Nat} {Q : State → Prop}
variable {mc ms : Nat} {free : Addr → Prop} {A0 A1 : Nat → Prop} {H0 : Heap} {a : Array Value} {ls : Array Slot} {st0 rest : List Value}
variable {Qc : Array Value → State → Outcome → State → Prop} {XC : String → State → State → Prop}
/-- what a body that may throw owes at its end -/
def vx_MQ (below : List Frame) (Qc : Array Value → State → Outcome → State → Prop) (XC : String → State → State → Prop) (a : Array Value) (s : State) (mc ms : Nat) (free : Addr → Prop) : State → Prop := fun t =>
  ∃ o, t.status = .running ∧ Ended t below o ∧ vx_Q Qc XC mc ms free a s o t
theorem vx_ret {g : JFrame} {mc ms : Nat} (k : W p l e R s m args below meth c H locs cells slots (MQ below Qc args s mc ms free) g) : W p l e R s m args below meth c H locs cells slots (vx_MQ below Qc XC args s mc ms free) g := by
  intro T hT X
  obtain ⟨t, a1, o, b1, b2, b3, b4⟩ := k T hT X
  exact ⟨t, a1, o, b1, b2, Or.inl ⟨b3, b4⟩⟩
/-- not caught here: it goes on to the caller -/
theorem vx_widen {g : JFrame} {q : Addr} {k n : Nat} (h1 : cells ≤ k) (h2 : slots ≤ n) (kk : vx_W p l e R s m args below meth c H locs k n Q g q) : vx_W p l e R s m args below meth c H locs cells slots Q g q := fun T hT X => kk T hT (stand_widen X h1 h2)
theorem vx_out {pc : Nat} {E : String} {ce : Cell} {q : Addr} {mc ms : Nat} (hout : ∀ x ∈ c.exceptionTable.toList, covers x pc = false) (hlocks : meth.locks = false) (hcell : H[q]? = some ce) (hv : ce.vm = .none) (hcl : s.vm.findClass E = some ce.cls)
    (hx : ∀ t : State, t.heap = H → s.vm.Alike t.vm → XC E s t) (hf : ∀ z ∈ locs, free z.base) (hc : cells ≤ mc) (hs : slots ≤ ms) :
    vx_W p l e R s m args below meth c H locs cells slots (vx_MQ below Qc XC args s mc ms free) (F0 m pc ls rest) q := by
  intro T hT X
  obtain ⟨st1, hrun, hend, hW, hsm⟩ := X.leaveThrown q (g := F0 m pc ls rest) rfl rfl rfl hout hlocks
  have hcell9 : (T.setFrames (.throwing q :: below)).heap[q]? = some ce := by
    show T.heap[q]? = some ce
    rw [hT]; exact hcell
  exact ⟨_, st1, .threw q, hrun, hend, Or.inr ⟨q, rfl, E, ce, locs, hx _ hT hW.alike, hcell9, hv, hcl, hW, hsm.mono hc hs, hf⟩⟩
theorem vx_frame {U : State} {k n : Nat} (h : s.sameButNew ({ U with vm := s.vm } : State) locs k n) : s.heap.size ≤ U.heap.size ∧ ∀ q : Nat, q < s.heap.size → (∀ z ∈ locs, z.base ≠ q) → U.heap[q]? = s.heap[q]? := by
  obtain ⟨-, h2, -, -, -, h6⟩ := h
  refine ⟨h2, fun q hq hz => ?_⟩
  obtain ⟨c9, e1, e2, e3, e4⟩ := h6 q _ (Array.getElem?_eq_getElem hq)
  have hs : c9.slots = (s.heap[q]).slots := Array.ext_getElem? fun i => e4 i fun hm => hz _ hm rfl
  have h9 : c9 = s.heap[q] := by
    rw [hs] at e2
    exact e2
  have e5 : U.heap[q]? = some c9 := e1
  rw [e5, h9, Array.getElem?_eq_getElem hq]
/-- the words of a throw but the four that speak of the heap -/
def vx_no (w : Cond) : Bool := decide (w ≠ .isRef (.static Bundle.tN "UNASSIGNED_STACK" Bundle.steD)) && decide (w ≠ .isRef (.static Bundle.tN "SUPPRESSED_SENTINEL" Bundle.listD)) && decide (w ≠ .laysStatic Bundle.tN "UNASSIGNED_STACK" Bundle.steD) && decide (w ≠ .laysStatic Bundle.tN "SUPPRESSED_SENTINEL" Bundle.listD)
def vx_at0 (own : String) (ic : Nat) (X : String) (names : List String) : List Cond := (Bundle.ownAtoms0 own ic X names).filter vx_no
def vx_atS (own : String) (ic : Nat) (X : String) (names : List String) : List Cond := (Bundle.ownAtoms own ic X names).filter vx_no
/-- a word that the tables alone decide, or a good one -/
def vx_ot (w : Cond) : Bool := w.onTables || goodWord w
theorem vx_ot_at {args a' : Array Value} {s U : State} {w : Cond} (hW : s.WarmedH U.vm) (hvm : s.vm = U.vm) (hg : vx_ot w = true) (h : w.before args s = true) : w.before a' U = true := by
  simp only [vx_ot, Bool.or_eq_true] at hg
  rcases hg with hg | hg
  · exact va_tabs hg hvm h
  · exact word_at hW (good_of_word hg) h
/-- a list's words: the good ones out of the method's own list, the others by premises of their own -/
theorem vx_hat {args : Array Value} {s : State} {L B : List Cond} (h1 : ∀ w ∈ L.filter goodWord, w.before args s = true) (h2 : ∀ w ∈ L.filter (fun w => !goodWord w), w ∈ B) (h3 : ∀ w ∈ B, w.before args s = true) : ∀ w ∈ L, w.before args s = true := by
  intro w hw
  by_cases g : goodWord w = true
  · exact h1 w (List.mem_filter.mpr ⟨hw, g⟩)
  · refine h3 w (h2 w (List.mem_filter.mpr ⟨hw, ?_⟩))
    show (!goodWord w) = true
    cases hgw : goodWord w
    · rfl
    · exact absurd hgw g
theorem vx_c {args : Array Value} {s : State} {w : Cond} {B : List Cond} (h : w.before args s = true) (t : ∀ w ∈ B, w.before args s = true) : ∀ w' ∈ w :: B, w'.before args s = true := fun w' h' => (List.mem_cons.mp h').elim (fun e => by rw [e]; exact h) (t w')
theorem vx_n {args : Array Value} {s : State} : ∀ w ∈ ([] : List Cond), w.before args s = true := fun _ h => nomatch h
theorem vx_own {args : Array Value} {s : State} {L : List Cond} (h1 : ∀ w ∈ L.filter vx_no, w.before args s = true)
    (hU : (Cond.isRef (.static Bundle.tN "UNASSIGNED_STACK" Bundle.steD)).before args s = true) (hN : (Cond.isRef (.static Bundle.tN "SUPPRESSED_SENTINEL" Bundle.listD)).before args s = true)
    (lU : (Cond.laysStatic Bundle.tN "UNASSIGNED_STACK" Bundle.steD).before args s = true) (lN : (Cond.laysStatic Bundle.tN "SUPPRESSED_SENTINEL" Bundle.listD).before args s = true) : ∀ w ∈ L, w.before args s = true := by
  intro w hw
  by_cases e1 : w = .isRef (.static Bundle.tN "UNASSIGNED_STACK" Bundle.steD)
  · rw [e1]; exact hU
  · by_cases e2 : w = .isRef (.static Bundle.tN "SUPPRESSED_SENTINEL" Bundle.listD)
    · rw [e2]; exact hN
    · by_cases e3 : w = .laysStatic Bundle.tN "UNASSIGNED_STACK" Bundle.steD
      · rw [e3]; exact lU
      · by_cases e4 : w = .laysStatic Bundle.tN "SUPPRESSED_SENTINEL" Bundle.listD
        · rw [e4]; exact lN
        · exact h1 w (List.mem_filter.mpr ⟨hw, by unfold vx_no; rw [decide_eq_true e1, decide_eq_true e2, decide_eq_true e3, decide_eq_true e4]; rfl⟩)
/-- where a static field lies, its class's statics cell in H -/
def vx_L (C n d : String) (A : Nat → Prop) (U : State) (H : Heap) : Prop := ∃ (c : ClassId) (k : Class) (i : Nat) (f : Field) (a : Nat) (cell : Cell), U.vm.findClass C = some c ∧ U.fieldFound? C n d = some (c, k, i, f) ∧ f.isStatic = true ∧ k.statics = some a ∧ H[a]? = some cell ∧ cell.vm.isStatics = true ∧ cell.cls = c ∧ f.slot < cell.slots.size ∧ k.staticTypes[f.slot]? = some f.type ∧ ¬ A a
theorem vx_L.moved {C n d : String} {A : Nat → Prop} {u U : State} {H : Heap} (hvm : u.vm.Alike U.vm) (h : vx_L C n d A u H) : vx_L C n d A U H := by
  obtain ⟨c, k, i, f, a, cell, h1, h2, h3, h4, h5, h6, h7, h8, h9, h10⟩ := h
  obtain ⟨k', hi', he⟩ := State.fieldFound?_setVm hvm h2
  exact ⟨c, k', i, f, a, cell, by rw [hvm.findClass]; exact h1, hi', h3, by rw [he]; exact h4, h5, h6, h7, h8, by rw [he]; exact h9, h10⟩
theorem vx_L.kept {C n d : String} {A : Nat → Prop} {U : State} {H H1 : Heap} (h : vx_L C n d A U H) (hq : ∀ a : Nat, a < H.size → ¬ A a → H1[a]? = H[a]?) : vx_L C n d A U H1 := by
  obtain ⟨c, k, i, f, a, cell, h1, h2, h3, h4, h5, h6, h7, h8, h9, h10⟩ := h
  exact ⟨c, k, i, f, a, cell, h1, h2, h3, h4, by rw [hq a (Array.getElem?_eq_some_iff.mp h5).1 h10]; exact h5, h6, h7, h8, h9, h10⟩
theorem vx_L.narrow {C n d : String} {A B : Nat → Prop} {U : State} {H : Heap} (h : vx_L C n d A U H) (hAB : ∀ q, B q → A q) : vx_L C n d B U H := by
  obtain ⟨c, k, i, f, a, cell, h1, h2, h3, h4, h5, h6, h7, h8, h9, h10⟩ := h
  exact ⟨c, k, i, f, a, cell, h1, h2, h3, h4, h5, h6, h7, h8, h9, fun z => h10 (hAB _ z)⟩
theorem vx_L.word {C n d : String} {A : Nat → Prop} {s : State} {args : Array Value} (h : vx_L C n d A s s.heap) : (Cond.laysStatic C n d).before args s = true := by
  obtain ⟨c, k, i, f, a, cell, h1, h2, h3, h4, h5, h6, h7, h8, h9, -⟩ := h
  show (Cond.laysStatic C n d).holds args s none s [] = true
  exact Cond.laysStatic_of h1 h2 h3 h4 h5 h6 h7 h8 h9
/-- .. and what it holds: null or some reference -/
def vx_Zq (C n d : String) (A : Nat → Prop) (U : State) (H : Heap) : Prop := va_Zq C n d A U H ∧ vx_L C n d A U H
theorem vx_Zq.moved {C n d : String} {A : Nat → Prop} {u U : State} {H : Heap} (hvm : u.vm.Alike U.vm) (h : vx_Zq C n d A u H) : vx_Zq C n d A U H := ⟨va_Zq.moved hvm h.1, vx_L.moved hvm h.2⟩
theorem vx_Zq.kept {C n d : String} {A : Nat → Prop} {U : State} {H H1 : Heap} (h : vx_Zq C n d A U H) (hq : ∀ a : Nat, a < H.size → ¬ A a → H1[a]? = H[a]?) : vx_Zq C n d A U H1 := ⟨va_Zq.kept h.1 hq, vx_L.kept h.2 hq⟩
theorem vx_Zq.narrow {C n d : String} {A B : Nat → Prop} {U : State} {H : Heap} (h : vx_Zq C n d A U H) (hAB : ∀ q, B q → A q) : vx_Zq C n d B U H := ⟨va_Zq.narrow h.1 hAB, vx_L.narrow h.2 hAB⟩
theorem vx_Zqof {args : Array Value} {s : State} {C n d : String} {A : Nat → Prop} (hl : (Cond.laysStatic C n d).before args s = true) (hini : (Cond.initialized C).before args s = true) (h : (Cond.isRef (.static C n d)).before args s = true) (hA : ∀ a : Nat, a < s.heap.size → ¬ A a) : vx_Zq C n d A s s.heap := by
  refine ⟨va_Zqof hl hini h hA, ?_⟩
  obtain ⟨c, k, i, f, a, cell, h1, h2, h3, h4, h5, h6, h7, h8, h9⟩ := Cond.laysStatic_spec hl
  exact ⟨c, k, i, f, a, cell, h1, h2, h3, h4, h5, h6, h7, h8, h9, hA a (Array.getElem?_eq_some_iff.mp h5).1⟩
theorem vx_isRef {C n d : String} {v : Value} {A : Nat → Prop} {s : State} {args : Array Value} (h : va_Z C n d v A s s.heap) (hv : v.isRef = true) : (Cond.isRef (.static C n d)).before args s = true := by
  obtain ⟨cf, kf, fi, f, a, cell, h1, h2, h3, h4, h5, h6, h7, -⟩ := h
  have he : (Term.static C n d).eval args s none [] s = some v := by
    simp [Term.eval, State.fieldNamed?, h1, h2, h4, h5, h6, h7]
  simp only [Cond.before, Cond.holds, Cond.value, he]
  cases v <;> simp_all [Value.isRef]
theorem vx_isRefq {C n d : String} {A : Nat → Prop} {s : State} {args : Array Value} (h : va_Zq C n d A s s.heap) : (Cond.isRef (.static C n d)).before args s = true := by
  rcases h with h | ⟨t, h⟩
  · exact vx_isRef h rfl
  · exact vx_isRef h rfl
/-- the same frame, seen from here: as if the method were called anew in this heap -/
theorem vx_rebase {T : State} (X : Stand p l e R s m args below meth c T locs cells slots) {R' : Room} (hf : R'.frames ≤ R.frames) (hl : R'.locals ≤ R.locals) (hc : cells + R'.cells ≤ R.cells) (hs : slots + R'.slots ≤ R.slots) :
    Stand p l e R' ((T.setVm s.vm).setFrames (.invoking m args :: below)) m args below meth c T [] 0 0 := by
  have htop : (T.setVm s.vm).topJava?.isSome := X.here.top
  have hF : ((T.setVm s.vm).setFrames (.invoking m args :: below)).frames = .invoking m args :: below := State.frames_setFrames _ (State.cur_lt_of_top htop)
  obtain ⟨g₀, hg0⟩ := Option.isSome_iff_exists.mp htop
  obtain ⟨r, hr⟩ := State.topJava?_eq_some.mp hg0
  have hl9 : e.platform.stackLimits (T.setVm s.vm).me = e.platform.stackLimits s.me := X.limits
  have hb9 : (T.setVm s.vm).me.stackBytes = s.me.stackBytes := X.bytes
  refine ⟨X.admits, X.cas, X.clock, hF, ?_, X.hears, X.method, X.code, X.here, X.tail, X.warmed, ?_, ?_, ?_⟩
  · have h := X.room
    have hU : ((T.setVm s.vm).setFrames (.invoking m args :: below)).localsInUse = s.localsInUse := by
      rw [State.localsInUse_invoking hF (meth := meth) (c := c) X.method X.code, State.localsInUse_invoking X.frames X.method X.code]
    simp only [State.hasRoom, Bool.and_eq_true, decide_eq_true_eq] at h ⊢
    obtain ⟨⟨⟨⟨h1, h2, h3, h4, h5, h6⟩, h7⟩, h8⟩, h9⟩ := h
    rw [X.frames, List.length_cons] at h2 h3
    have q1 := X.heapSize
    have q2 := X.used
    simp only [hF, hU, List.length_cons, State.stackLimits_setFrames, State.stackBytes_setFrames, hl9, hb9]
    refine ⟨⟨⟨⟨by omega, by omega, by omega, by omega, by omega, h6⟩, ?_⟩, ?_⟩, X.book⟩
    · show T.heap.size + R'.cells ≤ e.platform.maxCells
      omega
    · show T.slotsUsed + R'.slots ≤ e.platform.maxSlots
      omega
  · rw [State.stackLimits_setFrames]; rfl
  · rw [State.stackBytes_setFrames]; rfl
  · refine ⟨?_, Nat.le_refl _, Nat.le_refl _, ?_, ?_, fun a c9 h9 => ⟨c9, h9, rfl, rfl, fun _ _ => rfl⟩⟩
    · obtain ⟨t, ht, -⟩ := State.frames_cons hr
      show T.setVm s.vm = { ((T.setVm s.vm).setFrames (.invoking m args :: below)).setFrames (T.setVm s.vm).frames with heap := T.heap, slotsUsed := T.slotsUsed }
      rw [State.setFrames_setFrames, State.setFrames_self ht]
      rfl
    · show T.slotsUsed = T.slotsUsed + ((T.heap.toList.drop T.heap.size).map (·.slots.size)).sum
      rw [List.drop_eq_nil_of_le (Nat.le_of_eq Array.length_toList)]
      rfl
    · show ((T.heap.toList.drop T.heap.size).map (·.slots.size)).sum ≤ 0
      rw [List.drop_eq_nil_of_le (Nat.le_of_eq Array.length_toList)]
      exact Nat.le_refl _
/-- 'throw new E()': new; dup; invokespecial; athrow -/
theorem vx_throw0 {cc : ByteArray} {pc : Nat} (hexec : p.tables.exec = Jvm.exec) (hb : c.code = cc) (hl : l.stackTraces = false) {own cls : String} {names : List String} {ik ic mc ms : Nat} {A : Nat → Prop}
    (hown : s.vm.findClass own = some m.cls) (hcls : Bundle.fit cls = true) (hnames : ∀ n ∈ names, Bundle.fit n = true)
    (hk : (Cond.classLink own ik cls).before args s = true) (hini : (Cond.initialized cls).before args s = true) (hat : ∀ w ∈ vx_at0 own ic cls names, w.before args s = true)
    (hgood : ∀ w ∈ Cond.classLink own ik cls :: Cond.initialized cls :: vx_at0 own ic cls names, vx_ot w = true)
    (hU : vx_Zq Bundle.tN "UNASSIGNED_STACK" Bundle.steD A s s.heap) (hN : vx_Zq Bundle.tN "SUPPRESSED_SENTINEL" Bundle.listD A s s.heap) (hS : va_S A s.heap H locs) (hsize : ls.size = c.maxLocals)
    (d0 : decode cc pc = .ok (.new ik, 3)) (d3 : decode cc (pc + 3) = .ok (.dup, 1)) (d4 : decode cc (pc + 4) = .ok (.invokespecial ic, 3)) (d7 : decode cc (pc + 7) = .ok (.athrow, 1))
    (hout : ∀ x ∈ c.exceptionTable.toList, covers x (pc + 7) = false)
    (hRframes : names.length + 3 < R.frames) (hRlocals : (rest.map fun v => v.category).sum + (13 * (names.length + 1) + 42) ≤ R.locals) (hRcells : cells + 1 ≤ R.cells) (hRslots : slots + 6 ≤ R.slots) (hlocks : meth.locks = false)
    (hx : ∀ t : State, s.vm.Alike t.vm → H.size ≤ t.heap.size → (∀ q : Nat, q < H.size → t.heap[q]? = H[q]?) → XC cls s t)
    (hf : ∀ z ∈ locs, free z.base) (hc : cells + 1 ≤ mc) (hs : slots + 6 ≤ ms) :
    W p l e R s m args below meth c H locs cells slots (vx_MQ below Qc XC args s mc ms free) (F0 m pc ls rest) := by
  intro T hT X
  have htr : e.platform.stackTraces = false := (show e.platform.stackTraces = l.stackTraces by rw [X.admits.platform]).trans hl
  have Y := vx_rebase X (R' := { frames := R.frames, locals := R.locals, cells := 1, slots := 6 }) (Nat.le_refl _) (Nat.le_refl _) hRcells hRslots
  obtain ⟨s', hA⟩ : ∃ z, z = (T.setVm s.vm).setFrames (.invoking m args :: below) := ⟨_, rfl⟩
  rw [← hA] at Y
  have hvm : s'.vm = s.vm := by rw [hA]; rfl
  have hhp : s'.heap = H := by rw [hA]; exact hT
  have hW0 : s.WarmedH s'.vm := by rw [hvm]; exact State.WarmedH.refl s
  have hat' : ∀ w ∈ vx_at0 own ic cls names, w.before args s' = true := fun w hw => vx_ot_at hW0 hvm.symm (hgood w (List.mem_cons_of_mem _ (List.mem_cons_of_mem _ hw))) (hat w hw)
  have hk' : (Cond.classLink own ik cls).before args s' = true := vx_ot_at hW0 hvm.symm (hgood _ List.mem_cons_self) hk
  have hini' : (Cond.initialized cls).before args s' = true := vx_ot_at hW0 hvm.symm (hgood _ (List.mem_cons_of_mem _ List.mem_cons_self)) hini
  have hU' : vx_Zq Bundle.tN "UNASSIGNED_STACK" Bundle.steD A s' s'.heap := by rw [hhp]; exact vx_Zq.moved hW0.alike (hU.kept hS.2.1)
  have hN' : vx_Zq Bundle.tN "SUPPRESSED_SENTINEL" Bundle.listD A s' s'.heap := by rw [hhp]; exact vx_Zq.moved hW0.alike (hN.kept hS.2.1)
  have h : ∀ w ∈ Bundle.ownAtoms0 own ic cls names, w.before args s' = true := vx_own hat' (vx_isRefq hU'.1) (vx_isRefq hN'.1) hU'.2.word hN'.2.word
  have hown' : s'.vm.findClass own = some m.cls := by rw [hvm]; exact hown
  have hins : (Cond.instantiable cls 6).before args s' = true := h _ (by simp [Bundle.ownAtoms0])
  obtain ⟨vm₁, cX, kX, hfX, hkX, -, -, X₁, st1⟩ := Y.newCold hexec (own := own) (C := cls) (index := ik) (n := 6) hown' hk' hins hini'
    (g := F0 m pc ls rest) rfl (by rw [hb]; exact d0) (Nat.le_refl _) (Nat.le_refl _)
  generalize hT1 : (T.setVm vm₁).pushCell { cls := cX, slots := kX.instanceTypes.map defaultValue, vm := .none } = T1 at X₁ st1
  have hcat : (Value.ref T.heap.size).category = 1 := rfl
  have hcellA : T1.heap[T.heap.size]? = some (freshCell cX kX) := by rw [← hT1]; exact State.heap_pushCell_size _ _
  have d3' : decode c.code (pc + 3) = .ok (.dup, 1) := by rw [hb]; exact d3
  obtain ⟨U, hsteps, hrun, hend, hW, hsame, ce, hce, hO⟩ := X₁.ctorThrow0 hexec htr (own := own) (cls := cls) (names := names) (ic := ic) hown' hcls hnames h (fun x hx => nomatch hx) hfX hkX hcellA (by rw [hhp, hT]; exact Nat.le_refl _)
    (g := { method := m, pc := pc + 4, locals := ls, stack := .ref T.heap.size :: .ref T.heap.size :: rest, locked := none }) rfl hsize rfl rfl (rest := rest) rfl
    (by rw [hb]; exact d4) (by rw [hb]; exact d7) hout hRframes (by simp only [List.map_cons, List.sum_cons, hcat]; omega) hlocks
  obtain ⟨f1, f2⟩ := vx_frame hsame
  rw [hhp] at f1 f2
  have hWs : s.WarmedH U.vm := State.WarmedH.trans hW0 hW
  have hcl : s.vm.findClass cls = some ce.cls := by
    have h9 := hO.cls
    rw [hvm] at h9
    exact h9
  have hall : s.sameButNew ({ U with vm := s.vm } : State) locs mc ms := by
    subst hA
    obtain ⟨e1, e2⟩ := hsame
    rw [State.setFrames_setFrames] at e1
    have h2 : (T.setVm s.vm).sameButNew ({ U with vm := s.vm } : State) [] (0 + 1) (0 + 6) := ⟨e1, e2⟩
    have h3 := X.same.trans h2
    rw [List.append_nil] at h3
    exact h3.mono hc hs
  refine ⟨U, ?_, .threw T.heap.size, hrun, hend, Or.inr ⟨T.heap.size, rfl, cls, ce, locs, hx U hWs.alike f1 (fun q hq => f2 q hq (fun z hz => nomatch hz)), hce, hO.vm, hcl, hWs, hall, hf⟩⟩
  refine st1 _ ?_
  show Steps p.tables e below (T1.setTop { method := m, pc := pc + 3, locals := ls, stack := .ref T.heap.size :: rest, locked := none }) _
  jvm_step X₁.here [X₁.here.top, hexec, d3', Value.category]
  exact hsteps
/-- 'throw new E("text")': new; dup; ldc; invokespecial; athrow -/
theorem vx_throwS {cc : ByteArray} {pc : Nat} (hexec : p.tables.exec = Jvm.exec) (hb : c.code = cc) (hl : l.stackTraces = false) {own cls text : String} {names : List String} {ik is ic mc ms sa : Nat} {A : Nat → Prop}
    (hown : s.vm.findClass own = some m.cls) (hcls : Bundle.fit cls = true) (hnames : ∀ n ∈ names, Bundle.fit n = true)
    (hk : (Cond.classLink own ik cls).before args s = true) (hini : (Cond.initialized cls).before args s = true) (hstr : vk_R own is text sa s) (hat : ∀ w ∈ vx_atS own ic cls names, w.before args s = true)
    (hgood : ∀ w ∈ Cond.classLink own ik cls :: Cond.initialized cls :: vx_atS own ic cls names, vx_ot w = true)
    (hU : vx_Zq Bundle.tN "UNASSIGNED_STACK" Bundle.steD A s s.heap) (hN : vx_Zq Bundle.tN "SUPPRESSED_SENTINEL" Bundle.listD A s s.heap) (hS : va_S A s.heap H locs) (hsize : ls.size = c.maxLocals)
    (d0 : decode cc pc = .ok (.new ik, 3)) (d3 : decode cc (pc + 3) = .ok (.dup, 1)) (d4 : decode cc (pc + 4) = .ok (.ldc is, 2)) (d6 : decode cc (pc + 6) = .ok (.invokespecial ic, 3)) (d9 : decode cc (pc + 9) = .ok (.athrow, 1))
    (hout : ∀ x ∈ c.exceptionTable.toList, covers x (pc + 9) = false)
    (hRframes : names.length + 3 < R.frames) (hRlocals : (rest.map fun v => v.category).sum + (13 * (names.length + 1) + 43) ≤ R.locals) (hRcells : cells + 1 ≤ R.cells) (hRslots : slots + 6 ≤ R.slots) (hlocks : meth.locks = false)
    (hx : ∀ t : State, s.vm.Alike t.vm → H.size ≤ t.heap.size → (∀ q : Nat, q < H.size → t.heap[q]? = H[q]?) → XC cls s t)
    (hf : ∀ z ∈ locs, free z.base) (hc : cells + 1 ≤ mc) (hs : slots + 6 ≤ ms) :
    W p l e R s m args below meth c H locs cells slots (vx_MQ below Qc XC args s mc ms free) (F0 m pc ls rest) := by
  intro T hT X
  have htr : e.platform.stackTraces = false := (show e.platform.stackTraces = l.stackTraces by rw [X.admits.platform]).trans hl
  have Y := vx_rebase X (R' := { frames := R.frames, locals := R.locals, cells := 1, slots := 6 }) (Nat.le_refl _) (Nat.le_refl _) hRcells hRslots
  obtain ⟨s', hA⟩ : ∃ z, z = (T.setVm s.vm).setFrames (.invoking m args :: below) := ⟨_, rfl⟩
  rw [← hA] at Y
  have hvm : s'.vm = s.vm := by rw [hA]; rfl
  have hhp : s'.heap = H := by rw [hA]; exact hT
  have hW0 : s.WarmedH s'.vm := by rw [hvm]; exact State.WarmedH.refl s
  have hat' : ∀ w ∈ vx_atS own ic cls names, w.before args s' = true := fun w hw => vx_ot_at hW0 hvm.symm (hgood w (List.mem_cons_of_mem _ (List.mem_cons_of_mem _ hw))) (hat w hw)
  have hk' : (Cond.classLink own ik cls).before args s' = true := vx_ot_at hW0 hvm.symm (hgood _ List.mem_cons_self) hk
  have hini' : (Cond.initialized cls).before args s' = true := vx_ot_at hW0 hvm.symm (hgood _ (List.mem_cons_of_mem _ List.mem_cons_self)) hini
  have hU' : vx_Zq Bundle.tN "UNASSIGNED_STACK" Bundle.steD A s' s'.heap := by rw [hhp]; exact vx_Zq.moved hW0.alike (hU.kept hS.2.1)
  have hN' : vx_Zq Bundle.tN "SUPPRESSED_SENTINEL" Bundle.listD A s' s'.heap := by rw [hhp]; exact vx_Zq.moved hW0.alike (hN.kept hS.2.1)
  have h : ∀ w ∈ Bundle.ownAtoms own ic cls names, w.before args s' = true := vx_own hat' (vx_isRefq hU'.1) (vx_isRefq hN'.1) hU'.2.word hN'.2.word
  have hown' : s'.vm.findClass own = some m.cls := by rw [hvm]; exact hown
  have hins : (Cond.instantiable cls 6).before args s' = true := h _ (by simp [Bundle.ownAtoms])
  obtain ⟨vm₁, cX, kX, hfX, hkX, -, -, X₁, st1⟩ := Y.newCold hexec (own := own) (C := cls) (index := ik) (n := 6) hown' hk' hins hini'
    (g := F0 m pc ls rest) rfl (by rw [hb]; exact d0) (Nat.le_refl _) (Nat.le_refl _)
  generalize hT1 : (T.setVm vm₁).pushCell { cls := cX, slots := kX.instanceTypes.map defaultValue, vm := .none } = T1 at X₁ st1
  have hcat : (Value.ref T.heap.size).category = 1 := rfl
  have hcellA : T1.heap[T.heap.size]? = some (freshCell cX kX) := by rw [← hT1]; exact State.heap_pushCell_size _ _
  have d3' : decode c.code (pc + 3) = .ok (.dup, 1) := by rw [hb]; exact d3
  have d4' : decode c.code (pc + 4) = .ok (.ldc is, 2) := by rw [hb]; exact d4
  have hstr' : vk_R own is text sa s' := vk_R.warm hW0 hstr
  obtain ⟨U, hsteps, hrun, hend, hW, hsame, ce, hce, hO⟩ := X₁.ctorThrowS hexec htr (own := own) (cls := cls) (names := names) (ic := ic) hown' hcls hnames h (fun x hx => nomatch hx) hfX hkX hcellA (by rw [hhp, hT]; exact Nat.le_refl _) (msg := .ref sa) rfl
    (g := { method := m, pc := pc + 6, locals := ls, stack := .ref sa :: .ref T.heap.size :: .ref T.heap.size :: rest, locked := none }) rfl hsize rfl rfl (rest := rest) rfl
    (by rw [hb]; exact d6) (by rw [hb]; exact d9) hout hRframes (by simp only [List.map_cons, List.sum_cons, hcat]; omega) hlocks
  obtain ⟨f1, f2⟩ := vx_frame hsame
  rw [hhp] at f1 f2
  have hWs : s.WarmedH U.vm := State.WarmedH.trans hW0 hW
  have hcl : s.vm.findClass cls = some ce.cls := by
    have h9 := hO.cls
    rw [hvm] at h9
    exact h9
  have hall : s.sameButNew ({ U with vm := s.vm } : State) locs mc ms := by
    subst hA
    obtain ⟨e1, e2⟩ := hsame
    rw [State.setFrames_setFrames] at e1
    have h2 : (T.setVm s.vm).sameButNew ({ U with vm := s.vm } : State) [] (0 + 1) (0 + 6) := ⟨e1, e2⟩
    have h3 := X.same.trans h2
    rw [List.append_nil] at h3
    exact h3.mono hc hs
  refine ⟨U, ?_, .threw T.heap.size, hrun, hend, Or.inr ⟨T.heap.size, rfl, cls, ce, locs, hx U hWs.alike f1 (fun q hq => f2 q hq (fun z hz => nomatch hz)), hce, hO.vm, hcl, hWs, hall, hf⟩⟩
  refine st1 _ ?_
  show Steps p.tables e below (T1.setTop { method := m, pc := pc + 3, locals := ls, stack := .ref T.heap.size :: rest, locked := none }) _
  jvm_step X₁.here [X₁.here.top, hexec, d3', Value.category]
  exact X₁.ldcString hexec (own := own) (text := text) (index := is) (a := sa) hown' hstr'.1 hstr'.2
    (g := { method := m, pc := pc + 4, locals := ls, stack := .ref T.heap.size :: .ref T.heap.size :: rest, locked := none }) rfl d4' _ hsteps
/-- 'throw new E("text")', the text by a wide index -/
theorem vx_throwSW {cc : ByteArray} {pc : Nat} (hexec : p.tables.exec = Jvm.exec) (hb : c.code = cc) (hl : l.stackTraces = false) {own cls text : String} {names : List String} {ik is ic mc ms sa : Nat} {A : Nat → Prop}
    (hown : s.vm.findClass own = some m.cls) (hcls : Bundle.fit cls = true) (hnames : ∀ n ∈ names, Bundle.fit n = true)
    (hk : (Cond.classLink own ik cls).before args s = true) (hini : (Cond.initialized cls).before args s = true) (hstr : vk_R own is text sa s) (hat : ∀ w ∈ vx_atS own ic cls names, w.before args s = true)
    (hgood : ∀ w ∈ Cond.classLink own ik cls :: Cond.initialized cls :: vx_atS own ic cls names, vx_ot w = true)
    (hU : vx_Zq Bundle.tN "UNASSIGNED_STACK" Bundle.steD A s s.heap) (hN : vx_Zq Bundle.tN "SUPPRESSED_SENTINEL" Bundle.listD A s s.heap) (hS : va_S A s.heap H locs) (hsize : ls.size = c.maxLocals)
    (d0 : decode cc pc = .ok (.new ik, 3)) (d3 : decode cc (pc + 3) = .ok (.dup, 1)) (d4 : decode cc (pc + 4) = .ok (.ldc_w is, 3)) (d7 : decode cc (pc + 7) = .ok (.invokespecial ic, 3)) (d10 : decode cc (pc + 10) = .ok (.athrow, 1))
    (hout : ∀ x ∈ c.exceptionTable.toList, covers x (pc + 10) = false)
    (hRframes : names.length + 3 < R.frames) (hRlocals : (rest.map fun v => v.category).sum + (13 * (names.length + 1) + 43) ≤ R.locals) (hRcells : cells + 1 ≤ R.cells) (hRslots : slots + 6 ≤ R.slots) (hlocks : meth.locks = false)
    (hx : ∀ t : State, s.vm.Alike t.vm → H.size ≤ t.heap.size → (∀ q : Nat, q < H.size → t.heap[q]? = H[q]?) → XC cls s t)
    (hf : ∀ z ∈ locs, free z.base) (hc : cells + 1 ≤ mc) (hs : slots + 6 ≤ ms) :
    W p l e R s m args below meth c H locs cells slots (vx_MQ below Qc XC args s mc ms free) (F0 m pc ls rest) := by
  intro T hT X
  have htr : e.platform.stackTraces = false := (show e.platform.stackTraces = l.stackTraces by rw [X.admits.platform]).trans hl
  have Y := vx_rebase X (R' := { frames := R.frames, locals := R.locals, cells := 1, slots := 6 }) (Nat.le_refl _) (Nat.le_refl _) hRcells hRslots
  obtain ⟨s', hA⟩ : ∃ z, z = (T.setVm s.vm).setFrames (.invoking m args :: below) := ⟨_, rfl⟩
  rw [← hA] at Y
  have hvm : s'.vm = s.vm := by rw [hA]; rfl
  have hhp : s'.heap = H := by rw [hA]; exact hT
  have hW0 : s.WarmedH s'.vm := by rw [hvm]; exact State.WarmedH.refl s
  have hat' : ∀ w ∈ vx_atS own ic cls names, w.before args s' = true := fun w hw => vx_ot_at hW0 hvm.symm (hgood w (List.mem_cons_of_mem _ (List.mem_cons_of_mem _ hw))) (hat w hw)
  have hk' : (Cond.classLink own ik cls).before args s' = true := vx_ot_at hW0 hvm.symm (hgood _ List.mem_cons_self) hk
  have hini' : (Cond.initialized cls).before args s' = true := vx_ot_at hW0 hvm.symm (hgood _ (List.mem_cons_of_mem _ List.mem_cons_self)) hini
  have hU' : vx_Zq Bundle.tN "UNASSIGNED_STACK" Bundle.steD A s' s'.heap := by rw [hhp]; exact vx_Zq.moved hW0.alike (hU.kept hS.2.1)
  have hN' : vx_Zq Bundle.tN "SUPPRESSED_SENTINEL" Bundle.listD A s' s'.heap := by rw [hhp]; exact vx_Zq.moved hW0.alike (hN.kept hS.2.1)
  have h : ∀ w ∈ Bundle.ownAtoms own ic cls names, w.before args s' = true := vx_own hat' (vx_isRefq hU'.1) (vx_isRefq hN'.1) hU'.2.word hN'.2.word
  have hown' : s'.vm.findClass own = some m.cls := by rw [hvm]; exact hown
  have hins : (Cond.instantiable cls 6).before args s' = true := h _ (by simp [Bundle.ownAtoms])
  obtain ⟨vm₁, cX, kX, hfX, hkX, -, -, X₁, st1⟩ := Y.newCold hexec (own := own) (C := cls) (index := ik) (n := 6) hown' hk' hins hini'
    (g := F0 m pc ls rest) rfl (by rw [hb]; exact d0) (Nat.le_refl _) (Nat.le_refl _)
  generalize hT1 : (T.setVm vm₁).pushCell { cls := cX, slots := kX.instanceTypes.map defaultValue, vm := .none } = T1 at X₁ st1
  have hcat : (Value.ref T.heap.size).category = 1 := rfl
  have hcellA : T1.heap[T.heap.size]? = some (freshCell cX kX) := by rw [← hT1]; exact State.heap_pushCell_size _ _
  have d3' : decode c.code (pc + 3) = .ok (.dup, 1) := by rw [hb]; exact d3
  have d4' : decode c.code (pc + 4) = .ok (.ldc_w is, 3) := by rw [hb]; exact d4
  have hstr' : vk_R own is text sa s' := vk_R.warm hW0 hstr
  obtain ⟨U, hsteps, hrun, hend, hW, hsame, ce, hce, hO⟩ := X₁.ctorThrowS hexec htr (own := own) (cls := cls) (names := names) (ic := ic) hown' hcls hnames h (fun x hx => nomatch hx) hfX hkX hcellA (by rw [hhp, hT]; exact Nat.le_refl _) (msg := .ref sa) rfl
    (g := { method := m, pc := pc + 7, locals := ls, stack := .ref sa :: .ref T.heap.size :: .ref T.heap.size :: rest, locked := none }) rfl hsize rfl rfl (rest := rest) rfl
    (by rw [hb]; exact d7) (by rw [hb]; exact d10) hout hRframes (by simp only [List.map_cons, List.sum_cons, hcat]; omega) hlocks
  obtain ⟨f1, f2⟩ := vx_frame hsame
  rw [hhp] at f1 f2
  have hWs : s.WarmedH U.vm := State.WarmedH.trans hW0 hW
  have hcl : s.vm.findClass cls = some ce.cls := by
    have h9 := hO.cls
    rw [hvm] at h9
    exact h9
  have hall : s.sameButNew ({ U with vm := s.vm } : State) locs mc ms := by
    subst hA
    obtain ⟨e1, e2⟩ := hsame
    rw [State.setFrames_setFrames] at e1
    have h2 : (T.setVm s.vm).sameButNew ({ U with vm := s.vm } : State) [] (0 + 1) (0 + 6) := ⟨e1, e2⟩
    have h3 := X.same.trans h2
    rw [List.append_nil] at h3
    exact h3.mono hc hs
  refine ⟨U, ?_, .threw T.heap.size, hrun, hend, Or.inr ⟨T.heap.size, rfl, cls, ce, locs, hx U hWs.alike f1 (fun q hq => f2 q hq (fun z hz => nomatch hz)), hce, hO.vm, hcl, hWs, hall, hf⟩⟩
  refine st1 _ ?_
  show Steps p.tables e below (T1.setTop { method := m, pc := pc + 3, locals := ls, stack := .ref T.heap.size :: rest, locked := none }) _
  jvm_step X₁.here [X₁.here.top, hexec, d3', Value.category]
  exact X₁.ldcStringW hexec (own := own) (text := text) (index := is) (a := sa) hown' hstr'.1 hstr'.2
    (g := { method := m, pc := pc + 4, locals := ls, stack := .ref T.heap.size :: .ref T.heap.size :: rest, locked := none }) rfl d4' _ hsteps
end Ends
section Bodies
variable {l : Launch}
theorem vx_ofW {y : MethodName} {ws ws' : List Cond} {rm : Room} {Pc : Array Value → State → Prop} {Qc : Array Value → State → Outcome → State → Prop} {XC : String → State → State → Prop} {mc ms : Nat} {free : Addr → Prop} {cc : ByteArray} {maxL : Nat} {ret : Option FieldType}
    (hy : plainName y.cls = true) (hw : ws = Cond.code y cc maxL ret :: ws')
    (body : ∀ p e s m args below meth c s₁, BodyLoose p l y (headSpec ws rm) cc maxL ret e s m args below meth c s₁ → c.maxLocals = maxL → (∀ x ∈ c.exceptionTable.toList, False) → Pc args s →
      W p l e (headSpec ws rm).room s m args below meth c s.heap [] 0 0 (vx_MQ below Qc XC args s mc ms free) (entryFrame m args maxL)) : vx_Met l y ws rm Pc Qc XC mc ms free := by
  refine MetFree.of_bodyS (code := cc) (maxLocals := maxL) (ret := ret) hy ?_ ?_
  · intro args s m h hn
    obtain ⟨meth, c, h1, h2, h3, h4, h5, h6, -, -⟩ := Cond.code_spec hn (atoms_spec (ws := ws) h _ (by rw [hw]; exact List.mem_cons_self))
    exact ⟨meth, c, h1, h2, h3, h4, h5, h6⟩
  · intro p e s m args below meth c s₁ B hml hP _
    have hh0 : s₁.heap = s.heap := by rw [B.state]; rfl
    have ht : ∀ x ∈ c.exceptionTable.toList, False := by
      obtain ⟨meth9, c9, h1, h2, -, -, -, -, h7, -⟩ := Cond.code_spec B.named (atoms_spec (ws := ws) B.pre _ (by rw [hw]; exact List.mem_cons_self))
      cases Option.some.inj (h1.symm.trans B.method)
      cases Option.some.inj (h2.symm.trans (Stand.of_body B).code)
      intro x hx
      rw [Array.isEmpty_iff.mp h7] at hx
      cases hx
    obtain ⟨t, a1, o, b1, b2, b3⟩ := body p e s m args below meth c s₁ B hml ht hP s₁ hh0 (Stand.of_body B)
    exact ⟨t, o, a1, b1, b2, b3⟩
/-- the table of a body with handlers -/
theorem vx_table {p : Program} {x y : MethodName} {S : Spec} {cc bytes : ByteArray} {maxL maxL' : Nat} {ret ret' : Option FieldType} {e : Env} {s s₁ : State} {m : MethodId} {args : Array Value} {below : List Frame} {meth : Method} {c : Code} {hh : List (Nat × Nat × Nat × Nat)}
    (B : BodyLoose p l y S cc maxL ret e s m args below meth c s₁) (h : (Cond.codeWith y bytes maxL' ret' hh).before args s = true) : c.exceptionTable.toList = tableOf hh := by
  obtain ⟨m9, meth9, c9, hn9, h1, h2, -, -, h6, -⟩ := Cond.codeWith_spec h
  cases Option.some.inj (hn9.symm.trans B.named)
  cases Option.some.inj (h1.symm.trans B.method)
  cases Option.some.inj (h2.symm.trans (Stand.of_body B).code)
  rw [← h6, table_eq]
end Bodies
end VXA
/-! ===== END ===== -/
/-! ===== BEGIN a static call of a method with an exception table ===== -/
section VXS
variable {p : Program} {l : Launch} {e : Env} {R : Room} {s : State} {m : MethodId} {args : Array Value} {below : List Frame} {meth : Method} {c : Code} {T : State} {H : Heap} {locs : List Loc} {cells slots : Nat}
abbrev vx_CSW (R : Room) (s : State) (args : Array Value) (own : String) (index : Nat) (y : MethodName) (bytes : ByteArray) (maxL : Nat) (ret : Option FieldType) (hh : List (Nat × Nat × Nat × Nat)) (ws : List Cond) (rm : Room) (mc ms n : Nat) : Prop :=
  (rm.cells = mc ∧ rm.slots = ms ∧ rm.frames + 1 ≤ R.frames ∧ 8 + (maxL + 11) + rm.locals ≤ R.locals ∧ (∀ w ∈ ws, ∀ (a' : Array Value) (U : State), s.WarmedH U.vm → w.before a' U = true) ∧ Cond.codeWith y bytes maxL ret hh ∈ ws) ∧
  (Cond.codeWith y bytes maxL ret hh).before args s = true ∧ (Cond.initialized y.cls).before args s = true ∧ (y.cls ≠ "java/lang/invoke/MethodHandle" ∧ y.cls ≠ "java/lang/invoke/VarHandle") ∧
  (∀ sig, parseMethodDescriptor y.desc = some sig → n = sig.parameters.length) ∧ (Cond.methodLink own index y).before args s = true ∧ (Cond.static y).before args s = true
theorem vx_cwSW {own : String} {index maxL mc ms : Nat} {y : MethodName} {bytes : ByteArray} {ret : Option FieldType} {hh : List (Nat × Nat × Nat × Nat)} {Ts ws ws' : List Cond} {rm : Room} (n : Nat) (ht : ∀ w ∈ Ts, w.before args s = true) (hT : GoodIn Ts (va_wsS own index y ws)) (hw : ws = Cond.codeWith y bytes maxL ret hh :: ws') (hrc : rm.cells = mc) (hrs : rm.slots = ms)
    (hd : y.cls ≠ "java/lang/invoke/MethodHandle" ∧ y.cls ≠ "java/lang/invoke/VarHandle" ∧ (parseMethodDescriptor y.desc).map (fun d => d.parameters.length) = some n) (hR : rm.frames + 1 ≤ R.frames ∧ 8 + (maxL + 11) + rm.locals ≤ R.locals) :
    vx_CSW R s args own index y bytes maxL ret hh ws rm mc ms n := by
  have ok : ∀ w ∈ va_wsS own index y ws, w.before args s = true := fun w h => ht w (hT w h).1
  have hG : GoodIn Ts ws := fun w h => hT w (by unfold va_wsS; exact List.mem_append_right _ h)
  have hc : Cond.codeWith y bytes maxL ret hh ∈ ws := by rw [hw]; exact List.mem_cons_self
  refine ⟨⟨hrc, hrs, hR.1, hR.2, pay_in ht hG, hc⟩, ht _ (hG _ hc).1, ok _ (by simp [va_wsS]), ⟨hd.1, hd.2.1⟩, fun sig h => ?_, ok _ (by simp [va_wsS]), ok _ (by simp [va_wsS])⟩
  have h2 := hd.2.2
  rw [h] at h2
  exact (Option.some.inj h2).symm
theorem vx_callSW (X : Stand p l e R s m args below meth c T locs cells slots) (hexec : p.tables.exec = Jvm.exec) {own : String} {index : Nat} {y : MethodName} {bytes : ByteArray} {maxL : Nat} {ret : Option FieldType} {hh : List (Nat × Nat × Nat × Nat)}
    (hown : s.vm.findClass own = some m.cls) (hlink : (Cond.methodLink own index y).before args s = true) (hstat : (Cond.static y).before args s = true) (hinit : (Cond.initialized y.cls).before args s = true)
    (hcode : (Cond.codeWith y bytes maxL ret hh).before args s = true) (hy : y.cls ≠ "java/lang/invoke/MethodHandle" ∧ y.cls ≠ "java/lang/invoke/VarHandle")
    {W9 : Nat} {Pre : Pt → Array Value → Prop} {Post : Pt → Array Value → Option Value → Pt → Prop} (hK : Back l R p e below s args y 3 W9 Pre Post)
    {g : JFrame} (hg : g.method = m) (hsize : g.locals.size = c.maxLocals) {argsL rest : List Value} (hlen : ∀ sig, parseMethodDescriptor y.desc = some sig → argsL.length = sig.parameters.length)
    (hstack : g.stack = argsL.reverse ++ rest) (hW : 2 * g.monitorRoom + (rest.map fun v => v.category).sum ≤ W9) (hdg : decode c.code g.pc = .ok (.invokestatic index, 3))
    (hpre : ∀ vm₁, s.WarmedH vm₁ → Pre ⟨T.setVm vm₁, locs, cells, slots⟩ argsL.toArray) :
    ∃ (v : Option Value) (vm₁ : Vm) (B : Pt), s.WarmedH vm₁ ∧ Stand p l e R s m args below meth c B.U B.locs B.cells B.slots ∧ Post ⟨T.setVm vm₁, locs, cells, slots⟩ argsL.toArray v B ∧
      ∀ target, Steps p.tables e below (B.U.setTop { g with pc := g.pc + 3, stack := v.toList ++ rest }) target → Steps p.tables e below (T.setTop g) target := by
  obtain ⟨mk, methM, cM, hnamed, hmethM, -, -, -, -, -, -, hsigM⟩ := Cond.codeWith_spec hcode
  have hstatic : methM.isStatic = true := Cond.static_spec hnamed hmethM hstat
  obtain ⟨kP, hkP, -⟩ := className_of_methodNamed hnamed
  have hinitP : kP.init = .initialized := Cond.initialized_spec (findClass_of_methodNamed hnamed) hkP hinit
  obtain ⟨vm₁, X₁, hstep₁⟩ := X.invokestatic hexec hown hlink hnamed hmethM hstatic hkP hinitP hy (g := g) hg (argsL := argsL) (rest := rest) (hlen _ hsigM) hstack hdg
  obtain ⟨v, B, X', hpost, hsteps⟩ := hK m meth c ⟨T.setVm vm₁, locs, cells, slots⟩ { g with stack := rest } (.invokestatic index) mk argsL.toArray X₁ hg hsize hdg hW (X₁.named hnamed) (hpre vm₁ X₁.warmed)
  exact ⟨v, vm₁, B, X₁.warmed, X', hpost, fun target h => hstep₁ _ fun acts => by rw [doInvoke_state]; exact hsteps.trans h⟩
theorem vx_runSW {y : MethodName} {bytes cc : ByteArray} {maxL nL mc ms n index : Nat} {ret : Option FieldType} {hh : List (Nat × Nat × Nat × Nat)} {ws : List Cond} {rm : Room} {Pc : Array Value → State → Prop} {Qc : Array Value → State → Outcome → State → Prop} {free : Addr → Prop} {Ts : List Cond} {own : String} {As rest : List Value} {g : JFrame}
    (S : CallFix p m c cc nL s args Ts own) (hM : Met l y ws rm Pc Qc mc ms free) (cw : vx_CSW R s args own index y bytes maxL ret hh ws rm mc ms n) (hp : PreS s H Pc As)
    (hg : g.method = m) (hn : As.length = n) (hsize : g.locals.size = nL) (hstack : g.stack = As.reverse ++ rest) (hW : 2 * g.monitorRoom + (rest.map fun v => v.category).sum ≤ 8) (hdg : decode cc g.pc = .ok (.invokestatic index, 3)) (hf : cells + mc ≤ R.cells ∧ slots + ms ≤ R.slots) :
    va_Run p l e R s m args below meth c H locs cells slots mc ms g rest (Qc As.toArray) (free) := by
  obtain ⟨⟨hrc, hrs, hfr, hlo, hws, hcw⟩, hcode, hini, hy, hlen, hl, hstt⟩ := cw
  have hK : Back l R p e below s args y 3 8 (PreOf R mc ms Pc) (PostOf Qc mc ms free) := va_backW (hh := hh) (bytes := bytes) (maxL := maxL) (ret := ret) hM hp.1 hrc hrs hfr hlo hws hcw (fun a' U hW => word_at hW (Or.inl (by first | rfl | simp [Cond.onTables, Cond.keeps, Cond.steady])) hini)
  obtain ⟨hx, hb, hml, ho, -⟩ := S
  intro T hT X
  obtain ⟨v, vm₁, ⟨U', l2, c2, s2⟩, hW₁, X', ⟨g', mk, t, L, e1, e2, hq, h1, hL, h2, h3⟩, st⟩ := vx_callSW X hx (hh := hh) (bytes := bytes) (maxL := maxL) (ret := ret) ho hl hstt hini hcode hy hK hg (hsize.trans hml.symm) (argsL := As) (rest := rest) (fun sig h => hn.trans (hlen sig h)) hstack hW (by rw [hb]; exact hdg)
    (fun vm₁ hW₁ => ⟨hf.1, hf.2, hp.2 (T.setVm vm₁) hT hW₁⟩)
  dsimp only [Pt.U, Pt.locs, Pt.cells, Pt.slots] at X' e1 e2 h1 h2 h3 st
  subst h1; subst h2; subst h3
  exact ⟨v, (T.setVm vm₁).calling g' mk As.toArray, t, U', L, hT, X', hL, e1, e2, hq, st⟩
/-- not caught here, past rows that name other classes: it goes on to the caller -/
theorem vx_outP {p : Program} {l : Launch} {e : Env} {R : Room} {s : State} {m : MethodId} {args : Array Value} {below : List Frame} {meth : Method} {c : Code} {H : Heap} {locs : List Loc} {cells slots : Nat} {free : Addr → Prop} {ls : Array Slot} {rest : List Value} {Qc : Array Value → State → Outcome → State → Prop} {XC : String → State → State → Prop}
    {pc : Nat} {own E : String} {ce : Cell} {q : Addr} {mc ms : Nat} (hown : s.vm.findClass own = some m.cls) (hlocks : meth.locks = false)
    (hpass : ∀ z ∈ c.exceptionTable.toList, covers z pc = false ∨ (z.catchType ≠ 0 ∧ ∃ nm : String, (Cond.classLink own z.catchType nm).before args s = true ∧ va_Nc E nm s)) (hcell : H[q]? = some ce) (hv : ce.vm = .none) (hcl : s.vm.findClass E = some ce.cls)
    (hx : ∀ t : State, t.heap = H → s.vm.Alike t.vm → XC E s t) (hf : ∀ z ∈ locs, free z.base) (hc : cells ≤ mc) (hs : slots ≤ ms) :
    vx_W p l e R s m args below meth c H locs cells slots (vx_MQ below Qc XC args s mc ms free) (F0 m pc ls rest) q := by
  intro T hT X
  have hpl : e.platform.magicAccessors = ({} : Platform).magicAccessors := by rw [X.admits.platform]
  obtain ⟨vm', hW', X', st⟩ := X.outThrough hlocks q (g := F0 m pc ls rest) rfl rfl rfl (cell := ce) (by rw [hT]; exact hcell) (by rw [hv]; rfl)
    (by obtain ⟨k9, h9, -⟩ := Vm.findClass_spec hcl; exact ⟨k9, h9⟩) (fun z hz => by
      rcases hpass z hz with h | ⟨hz0, nm, hl1, hn1⟩
      · exact Or.inl h
      · obtain ⟨c6, hc6, hcl6⟩ := Cond.classLink_spec hown hl1 e.platform hpl
        obtain ⟨a8, b8, h1, h2, h3⟩ := hn1
        cases Option.some.inj (h1.symm.trans hcl)
        cases Option.some.inj (h2.symm.trans hc6)
        exact Or.inr ⟨hz0, _, hcl6, h3⟩)
  obtain ⟨g₀, hfr⟩ := X'.frames_eq
  have hcell9 : ((T.setVm vm').setFrames (.throwing q :: below)).heap[q]? = some ce := by
    show T.heap[q]? = some ce
    rw [hT]; exact hcell
  have hend : Ended ((T.setVm vm').setFrames (.throwing q :: below)) below (.threw q) := State.frames_setFrames _ (State.cur_lt_of_frames hfr)
  refine ⟨(T.setVm vm').setFrames (.throwing q :: below), ?_, .threw q, X'.here.running, hend, Or.inr ⟨q, rfl, E, ce, locs, hx _ hT (X'.ends _).1.alike, hcell9, hv, hcl, (X'.ends _).1, (X'.ends _).2.mono hc hs, hf⟩⟩
  rw [X.pushThrowing_eq]
  exact st
/-- a thing of a world lies in the heap -/
theorem vx_lt {D : va_G} {cl : List vw_C} {ws : va_W} {H1 : Heap} (h : va_P D cl ws H1) {k : Nat} {q : Nat × va_E} (hk : ws[k]? = some q) : q.1 < H1.size := (h k q hk).lt
end VXS
/-! ===== END ===== -/
/-! ===== BEGIN methods with a table of their own: called by a name, returning or throwing ===== -/
section VXH
/-! vx_backW, vx_callVX, vx_callSX, vx_callVW, vx_runVW, vx_runVX, vx_runSX, vx_ofWH follow the same proofs as their sisters above (Free/Laws.lean, Shelf42/LK1.lean); vx_outP calls Shelf42/NT130.lean (outThrough). -/
section
variable {l : Launch} {R : Room} {p : Program} {e : Env} {below : List Frame} {s : State} {sargs : Array Value} {y : MethodName} {len W9 : Nat}
theorem vx_backW {ws : List Cond} {rm : Room} {Pc : Array Value → State → Prop} {Qc : Array Value → State → Outcome → State → Prop} {XC : String → State → State → Prop} {mc ms : Nat} {free : Addr → Prop} {bytes : ByteArray} {maxL : Nat} {ret : Option FieldType} {hh : List (Nat × Nat × Nat × Nat)}
    (hM : vx_Met l y ws rm Pc Qc XC mc ms free) (hblind : FrameBlind Pc) (hrc : rm.cells = mc) (hrs : rm.slots = ms)
    (hframes : rm.frames + 1 ≤ R.frames) (hlocals : W9 + (maxL + 11) + rm.locals ≤ R.locals)
    (hws : ∀ w ∈ ws, ∀ a' U, s.WarmedH U.vm → w.before a' U = true) (hcode : Cond.codeWith y bytes maxL ret hh ∈ ws) (hinit : ∀ a' U, s.WarmedH U.vm → (Cond.initialized y.cls).before a' U = true) :
    vx_Back l R p e below s sargs y len W9 (PreOf R mc ms Pc) (PostOf Qc mc ms free) (vx_Post XC mc ms free) := by
  intro m meth c A g ig mk a X hg hsize hdg hW hn hp
  have h1 : (headSpec ws rm).pre.before a A.U = true := atoms_intro fun w hw => hws w hw _ _ X.warmed
  have h2 : (Cond.codeWith y bytes maxL ret hh).before a A.U = true := hws _ hcode _ _ X.warmed
  have h3 : (Cond.initialized y.cls).before a A.U = true := hinit _ _ X.warmed
  have h4 : A.cells + (headSpec ws rm).room.cells ≤ R.cells := by rw [show (headSpec ws rm).room.cells = mc from hrc]; exact hp.1
  have h5 : A.slots + (headSpec ws rm).room.slots ≤ R.slots := by rw [show (headSpec ws rm).room.slots = ms from hrs]; exact hp.2.1
  have hPc : Pc a (A.U.calling g mk a) := hblind _ _ _ _ hp.2.2
  obtain ⟨U, Ls, c0, s0⟩ := A
  dsimp only [Pt.U, Pt.locs, Pt.cells, Pt.slots] at h1 h2 h3 h4 h5 X hn hPc ⊢
  obtain ⟨m9, methY, cY, hn9, hmY, hcY, -, hlY, -⟩ := Cond.codeWith_spec h2
  cases Option.some.inj (hn9.symm.trans hn)
  obtain ⟨kY, hkY, -⟩ := className_of_methodNamed hn
  have hinitY : kY.init = .initialized := Cond.initialized_spec (findClass_of_methodNamed hn) hkY h3
  have h : At U g.method c below := by rw [hg]; exact X.here
  have hlocals9 : W9 + (maxL + 11) + (headSpec ws rm).room.locals ≤ R.locals := hlocals
  have happ : (headSpec ws rm).appliesLoose y e.platform (U.calling g mk a) = true :=
    Spec.appliesLoose_calling (g := g) h hdg hn hkY hinitY
      (X.room_calling (g := g) (R' := (headSpec ws rm).room) hsize hmY hcY hframes (by rw [hlY]; omega) h4 h5) h1
  obtain ⟨mid, hmid⟩ := h.above
  have hfr : (U.setTop g).frames = (.java g :: mid) ++ below := by rw [State.frames_setTop' g h.top, hmid]; rfl
  obtain ⟨o, s₂, hsteps, -, hend, hq⟩ := Steps.callFree hM p X.admits X.cas X.clock (acts := []) hfr happ hPc trivial
  have hq' : vx_Q Qc XC mc ms free a (U.calling g mk a) o s₂ := hq
  rw [State.frames_setTop' g h.top] at hend
  obtain ⟨g₀, hg0⟩ := Option.isSome_iff_exists.mp h.top
  obtain ⟨r, hr⟩ := State.topJava?_eq_some.mp hg0
  have hr' : (({ U with heap := s₂.heap, slotsUsed := s₂.slotsUsed } : State).setVm s₂.vm).frames = .java g₀ :: r := hr
  rcases hq' with ⟨hqc, L, hfe, hL⟩ | ⟨q, rfl, E, ce, L, hx, hce, hcv, hcl, hW₂, hsm, hL⟩
  · obtain ⟨⟨v, rfl⟩, hW₂, e2, q2, q3, q4, q5, q6⟩ := id hfe
    have e3 : s₂ = ({ (U.calling g mk a).setFrames s₂.frames with heap := s₂.heap, slotsUsed := s₂.slotsUsed } : State).setVm s₂.vm := by
      have : s₂ = ({ s₂ with vm := (U.calling g mk a).vm } : State).setVm s₂.vm := rfl
      rw [e2] at this
      exact this
    obtain ⟨c₂, i₂, len₂, hc₂, hd₂, hf₂⟩ := hend
    have hW' : U.WarmedH s₂.vm := hW₂
    have hcc : c₂ = c := by
      have h1 : s₂.code? g.method = U.code? g.method := by
        rw [State.code?_eq, State.code?_eq, hW'.alike.method?]
      exact Option.some.inj (hc₂.symm.trans (h1.trans h.code))
    subst hcc
    have hlen : len₂ = len := by rw [hdg] at hd₂; cases hd₂; rfl
    subst hlen
    have hs₂ : s₂ = (({ U with heap := s₂.heap, slotsUsed := s₂.slotsUsed } : State).setVm s₂.vm).setTop { g with pc := g.pc + len₂, stack := v.toList ++ g.stack } := by
      refine e3.trans ?_
      rw [hf₂, State.calling_eq h.top, State.setFrames_setFrames, State.setTop_of_frames _ hr', hr]
      rfl
    have hsame : U.sameButNew ({ U with heap := s₂.heap, slotsUsed := s₂.slotsUsed } : State) L mc ms := by
      refine ⟨?_, q2, q3, q4, q5, q6⟩
      obtain ⟨t, ht, -⟩ := State.frames_cons hr
      show ({ U with heap := s₂.heap, slotsUsed := s₂.slotsUsed } : State) = { U.setFrames U.frames with heap := s₂.heap, slotsUsed := s₂.slotsUsed }
      rw [State.setFrames_self ht]
    subst hg
    refine Or.inl ⟨v, ⟨(({ U with heap := s₂.heap, slotsUsed := s₂.slotsUsed } : State).setVm s₂.vm), Ls ++ L, c0 + mc, s0 + ms⟩,
      ⟨X.admits, X.cas, X.clock, X.frames, X.room, X.hears, X.method, X.code, (X.here.setHeapUsed s₂.heap s₂.slotsUsed).setVm hW'.alike, X.tail, State.WarmedH.trans X.warmed hW', X.limits, X.bytes, X.same.trans (hsame.setVm s.vm)⟩,
      ⟨g, mk, s₂, L, rfl, rfl, hqc, rfl, hL, rfl, rfl⟩, ?_⟩
    show Steps p.tables e below _ ((({ U with heap := s₂.heap, slotsUsed := s₂.slotsUsed } : State).setVm s₂.vm).setTop { g with pc := g.pc + len₂, stack := v.toList ++ g.stack })
    rw [← hs₂]
    exact hsteps
  · obtain ⟨e2, q2, q3, q4, q5, q6⟩ := id hsm
    have e3 : s₂ = ({ (U.calling g mk a).setFrames s₂.frames with heap := s₂.heap, slotsUsed := s₂.slotsUsed } : State).setVm s₂.vm := by
      have : s₂ = ({ s₂ with vm := (U.calling g mk a).vm } : State).setVm s₂.vm := rfl
      rw [e2] at this
      exact this
    have hf₂ : s₂.frames = .throwing q :: .java g :: U.frames.tail := hend
    have hW' : U.WarmedH s₂.vm := hW₂
    have hs₂ : s₂ = ((({ U with heap := s₂.heap, slotsUsed := s₂.slotsUsed } : State).setVm s₂.vm).setTop g).pushFrame (.throwing q) := by
      refine e3.trans ?_
      rw [hf₂, State.calling_eq h.top, State.setFrames_setFrames, State.pushFrame, State.frames_setTop _ hr', State.setTop_of_frames _ hr', State.setFrames_setFrames, hr]
      rfl
    have hsame : U.sameButNew ({ U with heap := s₂.heap, slotsUsed := s₂.slotsUsed } : State) L mc ms := by
      refine ⟨?_, q2, q3, q4, q5, q6⟩
      obtain ⟨t, ht, -⟩ := State.frames_cons hr
      show ({ U with heap := s₂.heap, slotsUsed := s₂.slotsUsed } : State) = { U.setFrames U.frames with heap := s₂.heap, slotsUsed := s₂.slotsUsed }
      rw [State.setFrames_self ht]
    subst hg
    refine Or.inr ⟨q, ⟨(({ U with heap := s₂.heap, slotsUsed := s₂.slotsUsed } : State).setVm s₂.vm), Ls ++ L, c0 + mc, s0 + ms⟩,
      ⟨X.admits, X.cas, X.clock, X.frames, X.room, X.hears, X.method, X.code, (X.here.setHeapUsed s₂.heap s₂.slotsUsed).setVm hW'.alike, X.tail, State.WarmedH.trans X.warmed hW', X.limits, X.bytes, X.same.trans (hsame.setVm s.vm)⟩,
      ⟨g, mk, s₂, L, E, ce, rfl, rfl, hx, hce, hcv, hcl, rfl, hL, rfl, rfl⟩, ?_⟩
    show Steps p.tables e below _ (((({ U with heap := s₂.heap, slotsUsed := s₂.slotsUsed } : State).setVm s₂.vm).setTop g).pushFrame (.throwing q))
    rw [← hs₂]
    exact hsteps
end
variable {p : Program} {l : Launch} {e : Env} {R : Room} {s : State} {m : MethodId} {args : Array Value} {below : List Frame} {meth : Method} {c : Code} {T : State} {H : Heap} {locs : List Loc} {cells slots : Nat}
theorem vx_callVX (X : Stand p l e R s m args below meth c T locs cells slots) (hexec : p.tables.exec = Jvm.exec) {own C : String} {index : Nat} {y : MethodName} {bytes : ByteArray} {maxL : Nat} {ret : Option FieldType} {hh : List (Nat × Nat × Nat × Nat)}
    (hown : s.vm.findClass own = some m.cls) (hlink : (Cond.methodLink own index y).before args s = true) (hinst : (Cond.instanceMethod y).before args s = true) (hsel : (Cond.selects C y y).before args s = true)
    (hcode : (Cond.codeWith y bytes maxL ret hh).before args s = true) (hy : y.cls ≠ "java/lang/invoke/MethodHandle" ∧ y.cls ≠ "java/lang/invoke/VarHandle")
    {W9 : Nat} {Pre : Pt → Array Value → Prop} {Post : Pt → Array Value → Option Value → Pt → Prop} {PostX : Pt → Array Value → Addr → Pt → Prop} (hK : vx_Back l R p e below s args y 3 W9 Pre Post PostX)
    {b : Addr} {cellB : Cell} (hcell : T.heap[b]? = some cellB) (hobj : cellB.vm.isStatics = false) (hcls : s.vm.findClass C = some cellB.cls)
    {g : JFrame} (hg : g.method = m) (hsize : g.locals.size = c.maxLocals) {argsL rest : List Value} (hlen : ∀ sig, parseMethodDescriptor y.desc = some sig → argsL.length = sig.parameters.length)
    (hstack : g.stack = argsL.reverse ++ .ref b :: rest) (hW : 2 * g.monitorRoom + (rest.map fun v => v.category).sum ≤ W9) (hdg : decode c.code g.pc = .ok (.invokevirtual index, 3))
    (hpre : ∀ vm₁, s.WarmedH vm₁ → Pre ⟨T.setVm vm₁, locs, cells, slots⟩ (Value.ref b :: argsL).toArray) :
    (∃ (v : Option Value) (vm₁ : Vm) (B : Pt), s.WarmedH vm₁ ∧ Stand p l e R s m args below meth c B.U B.locs B.cells B.slots ∧ Post ⟨T.setVm vm₁, locs, cells, slots⟩ (Value.ref b :: argsL).toArray v B ∧
      ∀ target, Steps p.tables e below (B.U.setTop { g with pc := g.pc + 3, stack := v.toList ++ rest }) target → Steps p.tables e below (T.setTop g) target) ∨
    (∃ (q : Addr) (vm₁ : Vm) (B : Pt), s.WarmedH vm₁ ∧ Stand p l e R s m args below meth c B.U B.locs B.cells B.slots ∧ PostX ⟨T.setVm vm₁, locs, cells, slots⟩ (Value.ref b :: argsL).toArray q B ∧
      Steps p.tables e below (T.setTop g) ((B.U.setTop { g with stack := rest }).pushFrame (.throwing q))) := by
  obtain ⟨mk, methM, hnamed, hmethM, hstM, habM⟩ := Cond.instanceMethod_spec hinst
  obtain ⟨m8, methM', cM, hn8, hmethM', -, -, -, -, -, -, hsigM⟩ := Cond.codeWith_spec hcode
  cases Option.some.inj (hn8.symm.trans hnamed)
  cases hmethM.symm.trans hmethM'
  obtain ⟨c2, r2, m2, q1, q2, q3, q4, kP, hkP, hkPi⟩ := Cond.selects_spec hsel
  cases hcls.symm.trans q1
  cases (State.methodFound?_of_named hnamed hy).symm.trans q2
  cases hnamed.symm.trans q3
  have hselP : selectMethod e.platform s.vm cellB.cls mk = .method mk := by rw [Launch.admits_selectMethod X.admits]; exact q4
  obtain ⟨vm₁, X₁, hstep₁⟩ := X.invokevirtual hexec hown hlink hnamed hmethM hstM hkP hkPi hy (a := b) (cell := cellB) hcell
    (fun z h => by rw [h] at hobj; cases hobj) hselP hmethM habM hkP hkPi (g := g) hg (argsL := argsL) (rest := rest) (hlen _ hsigM) hstack hdg
  rcases hK m meth c ⟨T.setVm vm₁, locs, cells, slots⟩ { g with stack := rest } (.invokevirtual index) mk (Value.ref b :: argsL).toArray X₁ hg hsize hdg hW (X₁.named hnamed) (hpre vm₁ X₁.warmed) with ⟨v, B, X', hpost, hsteps⟩ | ⟨q, B, X', hpost, hsteps⟩
  · exact Or.inl ⟨v, vm₁, B, X₁.warmed, X', hpost, fun target h => hstep₁ _ fun acts => by rw [doInvoke_state]; exact hsteps.trans h⟩
  · exact Or.inr ⟨q, vm₁, B, X₁.warmed, X', hpost, hstep₁ _ fun acts => by rw [doInvoke_state]; exact hsteps⟩
theorem vx_callSX (X : Stand p l e R s m args below meth c T locs cells slots) (hexec : p.tables.exec = Jvm.exec) {own : String} {index : Nat} {y : MethodName} {bytes : ByteArray} {maxL : Nat} {ret : Option FieldType} {hh : List (Nat × Nat × Nat × Nat)}
    (hown : s.vm.findClass own = some m.cls) (hlink : (Cond.methodLink own index y).before args s = true) (hstat : (Cond.static y).before args s = true) (hinit : (Cond.initialized y.cls).before args s = true)
    (hcode : (Cond.codeWith y bytes maxL ret hh).before args s = true) (hy : y.cls ≠ "java/lang/invoke/MethodHandle" ∧ y.cls ≠ "java/lang/invoke/VarHandle")
    {W9 : Nat} {Pre : Pt → Array Value → Prop} {Post : Pt → Array Value → Option Value → Pt → Prop} {PostX : Pt → Array Value → Addr → Pt → Prop} (hK : vx_Back l R p e below s args y 3 W9 Pre Post PostX)
    {g : JFrame} (hg : g.method = m) (hsize : g.locals.size = c.maxLocals) {argsL rest : List Value} (hlen : ∀ sig, parseMethodDescriptor y.desc = some sig → argsL.length = sig.parameters.length)
    (hstack : g.stack = argsL.reverse ++ rest) (hW : 2 * g.monitorRoom + (rest.map fun v => v.category).sum ≤ W9) (hdg : decode c.code g.pc = .ok (.invokestatic index, 3))
    (hpre : ∀ vm₁, s.WarmedH vm₁ → Pre ⟨T.setVm vm₁, locs, cells, slots⟩ argsL.toArray) :
    (∃ (v : Option Value) (vm₁ : Vm) (B : Pt), s.WarmedH vm₁ ∧ Stand p l e R s m args below meth c B.U B.locs B.cells B.slots ∧ Post ⟨T.setVm vm₁, locs, cells, slots⟩ argsL.toArray v B ∧
      ∀ target, Steps p.tables e below (B.U.setTop { g with pc := g.pc + 3, stack := v.toList ++ rest }) target → Steps p.tables e below (T.setTop g) target) ∨
    (∃ (q : Addr) (vm₁ : Vm) (B : Pt), s.WarmedH vm₁ ∧ Stand p l e R s m args below meth c B.U B.locs B.cells B.slots ∧ PostX ⟨T.setVm vm₁, locs, cells, slots⟩ argsL.toArray q B ∧
      Steps p.tables e below (T.setTop g) ((B.U.setTop { g with stack := rest }).pushFrame (.throwing q))) := by
  obtain ⟨mk, methM, cM, hnamed, hmethM, -, -, -, -, -, -, hsigM⟩ := Cond.codeWith_spec hcode
  have hstatic : methM.isStatic = true := Cond.static_spec hnamed hmethM hstat
  obtain ⟨kP, hkP, -⟩ := className_of_methodNamed hnamed
  have hinitP : kP.init = .initialized := Cond.initialized_spec (findClass_of_methodNamed hnamed) hkP hinit
  obtain ⟨vm₁, X₁, hstep₁⟩ := X.invokestatic hexec hown hlink hnamed hmethM hstatic hkP hinitP hy (g := g) hg (argsL := argsL) (rest := rest) (hlen _ hsigM) hstack hdg
  rcases hK m meth c ⟨T.setVm vm₁, locs, cells, slots⟩ { g with stack := rest } (.invokestatic index) mk argsL.toArray X₁ hg hsize hdg hW (X₁.named hnamed) (hpre vm₁ X₁.warmed) with ⟨v, B, X', hpost, hsteps⟩ | ⟨q, B, X', hpost, hsteps⟩
  · exact Or.inl ⟨v, vm₁, B, X₁.warmed, X', hpost, fun target h => hstep₁ _ fun acts => by rw [doInvoke_state]; exact hsteps.trans h⟩
  · exact Or.inr ⟨q, vm₁, B, X₁.warmed, X', hpost, hstep₁ _ fun acts => by rw [doInvoke_state]; exact hsteps⟩
theorem vx_callVW (X : Stand p l e R s m args below meth c T locs cells slots) (hexec : p.tables.exec = Jvm.exec) {own C : String} {index : Nat} {y : MethodName} {bytes : ByteArray} {maxL : Nat} {ret : Option FieldType} {hh : List (Nat × Nat × Nat × Nat)}
    (hown : s.vm.findClass own = some m.cls) (hlink : (Cond.methodLink own index y).before args s = true) (hinst : (Cond.instanceMethod y).before args s = true) (hsel : (Cond.selects C y y).before args s = true)
    (hcode : (Cond.codeWith y bytes maxL ret hh).before args s = true) (hy : y.cls ≠ "java/lang/invoke/MethodHandle" ∧ y.cls ≠ "java/lang/invoke/VarHandle")
    {W9 : Nat} {Pre : Pt → Array Value → Prop} {Post : Pt → Array Value → Option Value → Pt → Prop} (hK : Back l R p e below s args y 3 W9 Pre Post)
    {b : Addr} {cellB : Cell} (hcell : T.heap[b]? = some cellB) (hobj : cellB.vm.isStatics = false) (hcls : s.vm.findClass C = some cellB.cls)
    {g : JFrame} (hg : g.method = m) (hsize : g.locals.size = c.maxLocals) {argsL rest : List Value} (hlen : ∀ sig, parseMethodDescriptor y.desc = some sig → argsL.length = sig.parameters.length)
    (hstack : g.stack = argsL.reverse ++ .ref b :: rest) (hW : 2 * g.monitorRoom + (rest.map fun v => v.category).sum ≤ W9) (hdg : decode c.code g.pc = .ok (.invokevirtual index, 3))
    (hpre : ∀ vm₁, s.WarmedH vm₁ → Pre ⟨T.setVm vm₁, locs, cells, slots⟩ (Value.ref b :: argsL).toArray) :
    ∃ (v : Option Value) (vm₁ : Vm) (B : Pt), s.WarmedH vm₁ ∧ Stand p l e R s m args below meth c B.U B.locs B.cells B.slots ∧ Post ⟨T.setVm vm₁, locs, cells, slots⟩ (Value.ref b :: argsL).toArray v B ∧
      ∀ target, Steps p.tables e below (B.U.setTop { g with pc := g.pc + 3, stack := v.toList ++ rest }) target → Steps p.tables e below (T.setTop g) target := by
  obtain ⟨mk, methM, hnamed, hmethM, hstM, habM⟩ := Cond.instanceMethod_spec hinst
  obtain ⟨m8, methM', cM, hn8, hmethM', -, -, -, -, -, -, hsigM⟩ := Cond.codeWith_spec hcode
  cases Option.some.inj (hn8.symm.trans hnamed)
  cases hmethM.symm.trans hmethM'
  obtain ⟨c2, r2, m2, q1, q2, q3, q4, kP, hkP, hkPi⟩ := Cond.selects_spec hsel
  cases hcls.symm.trans q1
  cases (State.methodFound?_of_named hnamed hy).symm.trans q2
  cases hnamed.symm.trans q3
  have hselP : selectMethod e.platform s.vm cellB.cls mk = .method mk := by rw [Launch.admits_selectMethod X.admits]; exact q4
  obtain ⟨vm₁, X₁, hstep₁⟩ := X.invokevirtual hexec hown hlink hnamed hmethM hstM hkP hkPi hy (a := b) (cell := cellB) hcell
    (fun z h => by rw [h] at hobj; cases hobj) hselP hmethM habM hkP hkPi (g := g) hg (argsL := argsL) (rest := rest) (hlen _ hsigM) hstack hdg
  obtain ⟨v, B, X', hpost, hsteps⟩ := hK m meth c ⟨T.setVm vm₁, locs, cells, slots⟩ { g with stack := rest } (.invokevirtual index) mk (Value.ref b :: argsL).toArray X₁ hg hsize hdg hW (X₁.named hnamed) (hpre vm₁ X₁.warmed)
  exact ⟨v, vm₁, B, X₁.warmed, X', hpost, fun target h => hstep₁ _ fun acts => by rw [doInvoke_state]; exact hsteps.trans h⟩
abbrev vx_CVW (R : Room) (s : State) (args : Array Value) (own C : String) (index : Nat) (y : MethodName) (bytes : ByteArray) (maxL : Nat) (ret : Option FieldType) (hh : List (Nat × Nat × Nat × Nat)) (ws : List Cond) (rm : Room) (mc ms n : Nat) : Prop :=
  (rm.cells = mc ∧ rm.slots = ms ∧ rm.frames + 1 ≤ R.frames ∧ 8 + (maxL + 11) + rm.locals ≤ R.locals ∧ (∀ w ∈ ws, ∀ (a' : Array Value) (U : State), s.WarmedH U.vm → w.before a' U = true) ∧ Cond.codeWith y bytes maxL ret hh ∈ ws) ∧
  (Cond.codeWith y bytes maxL ret hh).before args s = true ∧ (Cond.initialized y.cls).before args s = true ∧ (y.cls ≠ "java/lang/invoke/MethodHandle" ∧ y.cls ≠ "java/lang/invoke/VarHandle") ∧
  (∀ sig, parseMethodDescriptor y.desc = some sig → n = sig.parameters.length) ∧ (Cond.methodLink own index y).before args s = true ∧ (Cond.instanceMethod y).before args s = true ∧ (Cond.selects C y y).before args s = true
theorem vx_cwVW {own C : String} {index maxL mc ms : Nat} {y : MethodName} {bytes : ByteArray} {ret : Option FieldType} {hh : List (Nat × Nat × Nat × Nat)} {Ts ws ws' : List Cond} {rm : Room} (n : Nat) (ht : ∀ w ∈ Ts, w.before args s = true) (hT : GoodIn Ts (wsV own index C y ws)) (hw : ws = Cond.codeWith y bytes maxL ret hh :: ws') (hrc : rm.cells = mc) (hrs : rm.slots = ms)
    (hd : y.cls = C ∧ y.cls ≠ "java/lang/invoke/MethodHandle" ∧ y.cls ≠ "java/lang/invoke/VarHandle" ∧ (parseMethodDescriptor y.desc).map (fun d => d.parameters.length) = some n) (hR : rm.frames + 1 ≤ R.frames ∧ 8 + (maxL + 11) + rm.locals ≤ R.locals) :
    vx_CVW R s args own C index y bytes maxL ret hh ws rm mc ms n := by
  obtain ⟨hC, hd⟩ := hd
  subst hC
  have ok : ∀ w ∈ wsV own index y.cls y ws, w.before args s = true := fun w h => ht w (hT w h).1
  have hG : GoodIn Ts ws := fun w h => hT w (by unfold wsV; exact List.mem_append_right _ h)
  have hc : Cond.codeWith y bytes maxL ret hh ∈ ws := by rw [hw]; exact List.mem_cons_self
  refine ⟨⟨hrc, hrs, hR.1, hR.2, pay_in ht hG, hc⟩, ht _ (hG _ hc).1, ok _ (by simp [wsV]), ⟨hd.1, hd.2.1⟩, fun sig h => ?_, ok _ (by simp [wsV]), ok _ (by simp [wsV]), ok _ (by simp [wsV])⟩
  have h2 := hd.2.2
  rw [h] at h2
  exact (Option.some.inj h2).symm
theorem vx_runVW {y : MethodName} {bytes cc : ByteArray} {maxL nL mc ms n index : Nat} {ret : Option FieldType} {hh : List (Nat × Nat × Nat × Nat)} {ws : List Cond} {rm : Room} {Pc : Array Value → State → Prop} {Qc : Array Value → State → Outcome → State → Prop} {free : Addr → Prop} {Ts : List Cond} {own C : String} {b : Addr} {As rest : List Value} {g : JFrame}
    (S : CallFix p m c cc nL s args Ts own) (hM : Met l y ws rm Pc Qc mc ms free) (cw : vx_CVW R s args own C index y bytes maxL ret hh ws rm mc ms n) (hp : PreV s H C b Pc As)
    (hg : g.method = m) (hn : As.length = n) (hsize : g.locals.size = nL) (hstack : g.stack = As.reverse ++ .ref b :: rest) (hW : 2 * g.monitorRoom + (rest.map fun v => v.category).sum ≤ 8) (hdg : decode cc g.pc = .ok (.invokevirtual index, 3)) (hf : cells + mc ≤ R.cells ∧ slots + ms ≤ R.slots) :
    va_Run p l e R s m args below meth c H locs cells slots mc ms g rest (Qc (Value.ref b :: As).toArray) free := by
  obtain ⟨⟨hrc, hrs, hfr, hlo, hws, hcw⟩, hcode, hini, hy, hlen, hl, hin, hse⟩ := cw
  have hK : Back l R p e below s args y 3 8 (PreOf R mc ms Pc) (PostOf Qc mc ms free) := va_backW (hh := hh) (bytes := bytes) (maxL := maxL) (ret := ret) hM hp.1 hrc hrs hfr hlo hws hcw (fun a' U hW => word_at hW (Or.inl (by first | rfl | simp [Cond.onTables, Cond.keeps, Cond.steady])) hini)
  obtain ⟨hx, hb, hml, ho, -⟩ := S
  obtain ⟨-, ⟨cellB, hcB, hoB, hclB⟩, hPc⟩ := hp
  intro T hT X
  obtain ⟨v, vm₁, ⟨U', l2, c2, s2⟩, hW₁, X', ⟨g', mk, t, L, e1, e2, hq, h1, hL, h2, h3⟩, st⟩ := vx_callVW X hx (C := C) (hh := hh) (bytes := bytes) (maxL := maxL) (ret := ret) ho hl hin hse hcode hy hK (by rw [hT]; exact hcB) hoB hclB hg (hsize.trans hml.symm) (argsL := As) (rest := rest) (fun sig h => hn.trans (hlen sig h)) hstack hW (by rw [hb]; exact hdg)
    (fun vm₁ hW₁ => ⟨hf.1, hf.2, hPc (T.setVm vm₁) hT hW₁⟩)
  dsimp only [Pt.U, Pt.locs, Pt.cells, Pt.slots] at X' e1 e2 h1 h2 h3 st
  subst h1; subst h2; subst h3
  exact ⟨v, (T.setVm vm₁).calling g' mk (Value.ref b :: As).toArray, t, U', L, hT, X', hL, e1, e2, hq, st⟩
section
variable {y : MethodName} {bytes cc : ByteArray} {maxL nL mc ms n index : Nat} {ret : Option FieldType} {ws : List Cond} {rm : Room} {Pc : Array Value → State → Prop} {Qc : Array Value → State → Outcome → State → Prop} {XC : String → State → State → Prop} {free : Addr → Prop} {Ts : List Cond} {own C : String} {b : Addr} {As rest : List Value} {g : JFrame}
theorem vx_runVX {hh : List (Nat × Nat × Nat × Nat)} (S : CallFix p m c cc nL s args Ts own) (hM : vx_Met l y ws rm Pc Qc XC mc ms free) (cw : vx_CVW R s args own C index y bytes maxL ret hh ws rm mc ms n) (hp : PreV s H C b Pc As)
    (hg : g.method = m) (hn : As.length = n) (hsize : g.locals.size = nL) (hstack : g.stack = As.reverse ++ .ref b :: rest) (hW : 2 * g.monitorRoom + (rest.map fun v => v.category).sum ≤ 8) (hdg : decode cc g.pc = .ok (.invokevirtual index, 3)) (hf : cells + mc ≤ R.cells ∧ slots + ms ≤ R.slots) :
    vx_Run p l e R s m args below meth c H locs cells slots mc ms g rest (Qc (Value.ref b :: As).toArray) XC free := by
  obtain ⟨⟨hrc, hrs, hfr, hlo, hws, hcw⟩, hcode, hini, hy, hlen, hl, hin, hse⟩ := cw
  have hK : vx_Back l R p e below s args y 3 8 (PreOf R mc ms Pc) (PostOf Qc mc ms free) (vx_Post XC mc ms free) := vx_backW (hh := hh) (bytes := bytes) (maxL := maxL) (ret := ret) hM hp.1 hrc hrs hfr hlo hws hcw (fun a' U hW => word_at hW (Or.inl (by first | rfl | simp [Cond.onTables, Cond.keeps, Cond.steady])) hini)
  obtain ⟨hx, hb, hml, ho, -⟩ := S
  obtain ⟨-, ⟨cellB, hcB, hoB, hclB⟩, hPc⟩ := hp
  intro T hT X
  rcases vx_callVX X hx (C := C) (hh := hh) (bytes := bytes) (maxL := maxL) (ret := ret) ho hl hin hse hcode hy hK (by rw [hT]; exact hcB) hoB hclB hg (hsize.trans hml.symm) (argsL := As) (rest := rest) (fun sig h => hn.trans (hlen sig h)) hstack hW (by rw [hb]; exact hdg)
    (fun vm₁ hW₁ => ⟨hf.1, hf.2, hPc (T.setVm vm₁) hT hW₁⟩) with ⟨v, vm₁, ⟨U', l2, c2, s2⟩, hW₁, X', ⟨g', mk, t, L, e1, e2, hq, h1, hL, h2, h3⟩, st⟩ | ⟨q, vm₁, ⟨U', l2, c2, s2⟩, hW₁, X', ⟨g', mk, t, L, E, ce, e1, e2, hq, hce, hcv, hcl, h1, hL, h2, h3⟩, st⟩
  · dsimp only [Pt.U, Pt.locs, Pt.cells, Pt.slots] at X' e1 e2 h1 h2 h3 st
    subst h1; subst h2; subst h3
    exact Or.inl ⟨v, (T.setVm vm₁).calling g' mk (Value.ref b :: As).toArray, t, U', L, hT, X', hL, e1, e2, hq, st⟩
  · dsimp only [Pt.U, Pt.locs, Pt.cells, Pt.slots] at X' e1 e2 h1 h2 h3 st hcl
    subst h1; subst h2; subst h3
    exact Or.inr ⟨q, (T.setVm vm₁).calling g' mk (Value.ref b :: As).toArray, t, U', L, E, ce, hT, X', hL, e1, e2, hq, hce, hcv, vx_cls hW₁ hcl, st⟩
theorem vx_runSX {hh : List (Nat × Nat × Nat × Nat)} (S : CallFix p m c cc nL s args Ts own) (hM : vx_Met l y ws rm Pc Qc XC mc ms free) (cw : vx_CSW R s args own index y bytes maxL ret hh ws rm mc ms n) (hp : PreS s H Pc As)
    (hg : g.method = m) (hn : As.length = n) (hsize : g.locals.size = nL) (hstack : g.stack = As.reverse ++ rest) (hW : 2 * g.monitorRoom + (rest.map fun v => v.category).sum ≤ 8) (hdg : decode cc g.pc = .ok (.invokestatic index, 3)) (hf : cells + mc ≤ R.cells ∧ slots + ms ≤ R.slots) :
    vx_Run p l e R s m args below meth c H locs cells slots mc ms g rest (Qc As.toArray) XC free := by
  obtain ⟨⟨hrc, hrs, hfr, hlo, hws, hcw⟩, hcode, hini, hy, hlen, hl, hstt⟩ := cw
  have hK : vx_Back l R p e below s args y 3 8 (PreOf R mc ms Pc) (PostOf Qc mc ms free) (vx_Post XC mc ms free) := vx_backW (hh := hh) (bytes := bytes) (maxL := maxL) (ret := ret) hM hp.1 hrc hrs hfr hlo hws hcw (fun a' U hW => word_at hW (Or.inl (by first | rfl | simp [Cond.onTables, Cond.keeps, Cond.steady])) hini)
  obtain ⟨hx, hb, hml, ho, -⟩ := S
  intro T hT X
  rcases vx_callSX X hx (hh := hh) (bytes := bytes) (maxL := maxL) (ret := ret) ho hl hstt hini hcode hy hK hg (hsize.trans hml.symm) (argsL := As) (rest := rest) (fun sig h => hn.trans (hlen sig h)) hstack hW (by rw [hb]; exact hdg)
    (fun vm₁ hW₁ => ⟨hf.1, hf.2, hp.2 (T.setVm vm₁) hT hW₁⟩) with ⟨v, vm₁, ⟨U', l2, c2, s2⟩, hW₁, X', ⟨g', mk, t, L, e1, e2, hq, h1, hL, h2, h3⟩, st⟩ | ⟨q, vm₁, ⟨U', l2, c2, s2⟩, hW₁, X', ⟨g', mk, t, L, E, ce, e1, e2, hq, hce, hcv, hcl, h1, hL, h2, h3⟩, st⟩
  · dsimp only [Pt.U, Pt.locs, Pt.cells, Pt.slots] at X' e1 e2 h1 h2 h3 st
    subst h1; subst h2; subst h3
    exact Or.inl ⟨v, (T.setVm vm₁).calling g' mk As.toArray, t, U', L, hT, X', hL, e1, e2, hq, st⟩
  · dsimp only [Pt.U, Pt.locs, Pt.cells, Pt.slots] at X' e1 e2 h1 h2 h3 st hcl
    subst h1; subst h2; subst h3
    exact Or.inr ⟨q, (T.setVm vm₁).calling g' mk As.toArray, t, U', L, E, ce, hT, X', hL, e1, e2, hq, hce, hcv, vx_cls hW₁ hcl, st⟩
end
end VXH
theorem vx_ofWH {l : Launch} {y : MethodName} {ws ws' : List Cond} {rm : Room} {Pc : Array Value → State → Prop} {Qc : Array Value → State → Outcome → State → Prop} {XC : String → State → State → Prop} {mc ms : Nat} {free : Addr → Prop} {cc : ByteArray} {maxL : Nat} {ret : Option FieldType} {hh : List (Nat × Nat × Nat × Nat)}
    (hy : plainName y.cls = true) (hw : ws = Cond.codeWith y cc maxL ret hh :: ws')
    (body : ∀ p e s m args below meth c s₁, BodyLoose p l y (headSpec ws rm) cc maxL ret e s m args below meth c s₁ → c.maxLocals = maxL → Pc args s →
      W p l e (headSpec ws rm).room s m args below meth c s.heap [] 0 0 (vx_MQ below Qc XC args s mc ms free) (entryFrame m args maxL)) : vx_Met l y ws rm Pc Qc XC mc ms free := by
  refine MetFree.of_bodyS (code := cc) (maxLocals := maxL) (ret := ret) hy ?_ ?_
  · intro args s m h hn
    obtain ⟨m9, meth, c, hn9, h1, h2, h3, h4, -, h5, h6, -⟩ := Cond.codeWith_spec (atoms_spec (ws := ws) h _ (by rw [hw]; exact List.mem_cons_self))
    cases hn.symm.trans hn9
    exact ⟨meth, c, h1, h2, h3, h4, h5, h6⟩
  · intro p e s m args below meth c s₁ B hml hP _
    have hh0 : s₁.heap = s.heap := by rw [B.state]; rfl
    obtain ⟨t, a1, o, b1, b2, b3⟩ := body p e s m args below meth c s₁ B hml hP s₁ hh0 (Stand.of_body B)
    exact ⟨t, o, a1, b1, b2, b3⟩
/-! ===== END ===== -/

/-! ===== BEGIN what the machine throws by itself, no traces kept ===== -/
section VXM
set_option maxHeartbeats 1000000 in
/-- the machine throws cls with the message text, no traces kept: from its note over the frame g to 'throwing' over the same frame (follows the proofs of Stand.vmThrowsMessage, Shelf/KitTracedVmS.lean, and Stand.throwsMessageColdBareV, StandMessageColdV.lean, without the step out of the frame) -/
theorem vx_vmAt {p : Program} {l : Launch} {e : Env} {R : Room} {s : State} {m₀ : MethodId} {args : Array Value} {below : List Frame} {meth : Method} {c : Code} {W : State} {locs : List Loc} {cells slots : Nat}
    (X : Stand p l e R s m₀ args below meth c W locs cells slots) (hexec : p.tables.exec = Jvm.exec) (htr : e.platform.stackTraces = false) {cls : String} {names : List String} {text : String}
    (hcls : Bundle.fit cls = true) (hnames : ∀ n ∈ names, Bundle.fit n = true) (hsoe : (cls == "java/lang/StackOverflowError") = false) (hoom : (cls == "java/lang/OutOfMemoryError") = false)
    (h : ∀ a ∈ Bundle.messageArmAtoms cls names, a.before args s = true)
    (hlocs : ∀ x ∈ locs, ∀ cell, s.heap[x.base]? = some cell → cell.vm.isStatics = false)
    (htext : (text == notModelled) = false) (hlimit : ¬ (stringBytes (stringToUtf16 text)).size > e.platform.arrayLengthLimit) (hheap : ¬ (stringBytes (stringToUtf16 text)).size * componentBytes .byte > e.platform.maxHeapBytes)
    {g : JFrame} (hg : g.method = m₀) (hsize : g.locals.size = c.maxLocals)
    (hRframes : names.length + 4 < R.frames) (hRlocals : 2 * g.monitorRoom + (g.stack.map fun v => v.category).sum + 10240 ≤ R.locals) (hshort : 13 * names.length + 55 ≤ 10240)
    (hRcells : cells + 3 ≤ R.cells) (hRslots : slots + ((stringBytes (stringToUtf16 text)).size + 4 + 6) ≤ R.slots) (hlocks : meth.locks = false) :
    ∃ (S : State) (q : Addr) (ce : Cell), (∀ target, Steps p.tables e below ((S.setTop g).pushFrame (.throwing q)) target → Steps p.tables e below ((W.setTop g).pushFrame (.throwNew cls (some text) none)) target) ∧
      Stand p l e R s m₀ args below meth c S locs (cells + 3) (slots + ((stringBytes (stringToUtf16 text)).size + 4 + 6)) ∧ S.heap[q]? = some ce ∧ s.vm.findClass cls = some ce.cls ∧ ce.vm = .none := by
  have howns : e.platform.frameOwnsMonitors = true := by rw [X.admits.platform]
  have hfin : e.platform.finalization = false := by rw [X.admits.platform]
  have hpl : e.platform.magicAccessors = ({} : Platform).magicAccessors := by rw [X.admits.platform]
  have a : ∀ x, x ∈ Bundle.messageArmAtoms cls names → x.holds args s none s [] = true := fun x hx => h x hx
  obtain ⟨T, Z0, L, -, Y⟩ := ThrowableC.of_atoms (args := args) howns hfin hpl (fun x hx => h x (by simp [Bundle.messageArmAtoms, hx]))
  obtain ⟨Z, M, LZ, LM, hnZ⟩ := Init0T.ofS_atoms (args := args) hpl L Y (fun x hx => h x (by simp [Bundle.messageArmAtoms, hx]))
  obtain ⟨P1, Ps, hlen, L1, hL, hP1m, hlink1, hlink⟩ := Bundle.chainS (args := args) hpl hnZ names cls hcls hnames (fun x hx => h x (by simp [Bundle.messageArmAtoms, hx]))
  obtain ⟨Zs, LZs, hn4, hfitv, hfitc⟩ := StringT.of_atoms (args := args) (fun x hx => h x (by simp [Bundle.messageArmAtoms, hx]))
  have hfound : s.vm.findClass cls = some P1.m.cls := findClass_of_methodNamed hP1m
  obtain ⟨c1, kX, hc1, hk, hord, -, -, hn6⟩ := Cond.instantiable_spec (a (.instantiable cls 6) (by simp [Bundle.messageArmAtoms]))
  cases Option.some.inj (hc1.symm.trans hfound)
  have hinit := Cond.initialized_spec hfound hk (a (.initialized cls) (by simp [Bundle.messageArmAtoms]))
  have hctor : kX.findMethod "<init>" "(Ljava/lang/String;)V" = some P1.m.idx := findMethod_of_methodNamed hP1m hk
  have hsel0 : selectMethod e.platform s.vm P1.m.cls T.fill0 = .method T.fill0 := by
    obtain ⟨c2, r2, m2, q1, q2, q3, q4, -⟩ := Cond.selects_spec (a (.selects cls Bundle.tFill0 Bundle.tFill0) (by simp [Bundle.messageArmAtoms]))
    cases Option.some.inj (q1.symm.trans hfound)
    cases Option.some.inj (q2.symm.trans (State.methodFound?_of_named Y.fill0 (by decide)))
    cases Option.some.inj (q3.symm.trans Y.fill0)
    rw [Launch.admits_selectMethod X.admits]; exact q4
  have hselF : selectMethod e.platform s.vm P1.m.cls T.fill = .method T.fill := by
    obtain ⟨c2, r2, m2, q1, q2, q3, q4, -⟩ := Cond.selects_spec (a (.selects cls Bundle.tFill Bundle.tFill) (by simp [Bundle.messageArmAtoms]))
    cases Option.some.inj (q1.symm.trans hfound)
    cases Option.some.inj (q2.symm.trans (State.methodFound?_of_named Y.fill (by decide)))
    cases Option.some.inj (q3.symm.trans Y.fill)
    rw [Launch.admits_selectMethod X.admits]; exact q4
  obtain ⟨cellS0, hcS0, hiss⟩ := Y.statics
  obtain ⟨u0, hu0⟩ := Cond.staticRefV Y.unassigned L.unassignedStatic L.statics hcS0 hiss (a (.isRef (.static Bundle.tN "UNASSIGNED_STACK" Bundle.steD)) (by simp [Bundle.messageArmAtoms]))
  obtain ⟨sen, hsen⟩ := Cond.staticRefV Y.sentinel L.sentinelStatic L.statics hcS0 hiss (a (.isRef (.static Bundle.tN "SUPPRESSED_SENTINEL" Bundle.listD)) (by simp [Bundle.messageArmAtoms]))
  obtain ⟨ci198, i198, fB, hk198, hg198, ha198, hsB, -, hnB, htB, hffB⟩ := Cond.ownField (t := .object "java/lang/Object") Y.found L.cls (by decide +kernel) (a (.fieldLink Bundle.tN 198 Bundle.tN "backtrace" "Ljava/lang/Object;") (by simp [Bundle.messageArmAtoms])) (a (.lays Bundle.tN Bundle.tN "backtrace" "Ljava/lang/Object;") (by simp [Bundle.messageArmAtoms])) e.platform hpl
  obtain ⟨cellS, hcS', heS, -, hkeep⟩ := X.same.2.2.2.2.2 T.aS cellS0 hcS0
  have hcellS : W.heap[T.aS]? = some cellS := hcS'
  have hout' : ∀ i, (⟨T.aS, i⟩ : Loc) ∉ locs := fun i hmem => by
    have := hlocs _ hmem cellS0 hcS0
    rw [hiss] at this; cases this
  have hknownS : cellS.vm ≠ .unknown := by
    rw [heS]; intro hu
    rw [show cellS0.vm = .unknown from hu] at hiss
    cases hiss
  have hvU : cellS.slots[T.fUnassigned.slot]? = some u0.v := by rw [hkeep _ (hout' _)]; exact hu0
  have hvSen : cellS.slots[T.fSentinel.slot]? = some sen.v := by rw [hkeep _ (hout' _)]; exact hsen
  obtain ⟨iM, hffM⟩ := Y.msg
  obtain ⟨tyC, dC, hdC, hdnC⟩ := Cond.laysAt hfound hk Y.cause (a (.lays cls Bundle.tN "cause" "Ljava/lang/Throwable;") (by simp [Bundle.messageArmAtoms]))
  obtain ⟨tyS, dS, hdS, hdnS⟩ := Cond.laysAt hfound hk Y.stack (a (.lays cls Bundle.tN "stackTrace" Bundle.steD) (by simp [Bundle.messageArmAtoms]))
  obtain ⟨tyP, dP, hdP, hdnP⟩ := Cond.laysAt hfound hk Y.supp (a (.lays cls Bundle.tN "suppressedExceptions" Bundle.listD) (by simp [Bundle.messageArmAtoms]))
  obtain ⟨tyM, dM, hdM, hdnM⟩ := Cond.laysAt hfound hk hffM (a (.lays cls Bundle.tN "detailMessage" "Ljava/lang/String;") (by simp [Bundle.messageArmAtoms]))
  obtain ⟨tyB, dB, hdB, hdnB⟩ := Cond.laysAt hfound hk hffB (a (.lays cls Bundle.tN "backtrace" "Ljava/lang/Object;") (by simp [Bundle.messageArmAtoms]))
  have bC := Cond.laysApart hdB hdC hdnB hdnC (by rw [hnB, Y.causeName]; decide)
  have bS := Cond.laysApart hdB hdS hdnB hdnS (by rw [hnB, Y.stackName]; decide)
  have bP := Cond.laysApart hdB hdP hdnB hdnP (by rw [hnB, Y.suppName]; decide)
  have hbk : ((preparedCellV T.toThrowableT (freshCell P1.m.cls kX) (W.heap.size + 2) u0 sen).withEntry W.cur).slots[fB.slot]? = some .null := by
    have := fresh_default (c := P1.m.cls) tyB
    rw [htB] at this
    simpa [preparedCellV, Cell.setSlot, Cell.withEntry, Array.getElem?_setIfInBounds, bC, bS, bP, bC.symm, bS.symm, bP.symm, defaultValue] using this
  have tkC := Takes.of_laid (v := .ref (W.heap.size + 2)) hk hord tyC (by rw [Y.causeType]; rfl)
  have tkS := Takes.of_laid (v := u0.v) hk hord tyS (by rw [Y.stackType]; exact fits_refV_array _ u0)
  have tkP := Takes.of_laid (v := sen.v) hk hord tyP (by rw [Y.suppType]; exact fits_refV_object _ sen)
  have tkM := Takes.of_laid (v := .ref (W.heap.size + 1)) hk hord tyM (by rw [Y.msgType]; rfl)
  have hskip : SkipFacts T e.platform s (fun u => u) u0 ((preparedCellV T.toThrowableT (freshCell P1.m.cls kX) (W.heap.size + 2) u0 sen).withEntry W.cur) := ⟨{ ci198 := ci198, i198 := i198, fBack := fB }, ⟨hk198, hg198, ha198, hsB⟩, hbk, fun _ _ => rfl⟩
  have h0 : At W g.method c below := by rw [hg]; exact X.here
  obtain ⟨hbeyond, hfreeW⟩ := X.vmMayThrow hsize (.throwNew cls (some text) none) (fun f hf => by cases hf) rfl hRlocals
  have hfr' : W.frames.length + Ps.length + 4 < (e.platform.stackLimits W.me).1 := by have := X.framesAbove hRframes; omega
  have hwd' : (stackUse (.java g :: W.frames.tail)).2 + 13 * Ps.length + 55 ≤ (e.platform.stackLimits W.me).2 := by have := X.stackAbove hsize (K := 13 * Ps.length + 55) (by omega); omega
  have hslots : W.slotsUsed + (stringBytes (stringToUtf16 text)).size + Zs.kS.instanceTypes.size + kX.instanceTypes.size ≤ e.platform.maxSlots := by
    have := X.slotsAbove hRslots
    rw [hn4, hn6]
    omega
  obtain ⟨vm', hW', st⟩ := Steps.vmThrowsMessageColdByV p (s₀ := s) (S := W) (g := g) h0 hexec T L Z LZ M LM X.warmed (t := W.cur) rfl Zs LZs P1 L1 Ps hL hlink1 hlink hsoe hoom hfound hk hinit hord hctor
    (Launch.admits_hotImplicitExceptions X.admits) hbeyond hfreeW htext hlimit hheap (X.cellsAbove hRcells) hslots (hfitv _) (hfitc _)
    (Nn := fun u => u) heapOnly_id (fun _ _ => rfl) (fun _ => rfl) (fun u x y => setCell_twice _ _ _ _) (fun _ => Nat.le_refl _) (cN := ((preparedCellV T.toThrowableT (freshCell P1.m.cls kX) (W.heap.size + 2) u0 sen).withEntry W.cur))
    hsel0 hcellS hknownS hvU tkS (fun _ hu => hu) (fun _ hu => hu) rfl rfl rfl (by simp [preparedCellV, Cell.setSlot, Cell.withEntry]) hskip (fun _ _ hA hW _ hroom _ hrest => L.nativeOff p htr hA hW hroom hrest) hselF hvSen tkC tkP tkM Y.objLocals rfl hfr' hwd'
  rw [plainBareV_eq T.toThrowableT (W.heap.size + 2) u0 sen (.ref (W.heap.size + 1)) W.cur rfl rfl] at st
  obtain ⟨-, -, w3, w4, -, -, -⟩ := withThrown_facts e.platform W Zs text P1.m.cls kX
  have X3 := ((X.pushed (bytesOf Zs.cB (stringToUtf16 text))).pushed (stringAt Zs.cS Zs.kS Zs.fv Zs.fc (stringToUtf16 text) W.heap.size)).pushed (freshCell P1.m.cls kX)
  rw [← withString_eq] at X3
  have X4 := X3.noted hW'
  have ha : (W.heap.size + 2) < ((withThrown W Zs text P1.m.cls kX).setVm vm').heap.size := by show _ < (withThrown W Zs text P1.m.cls kX).heap.size; rw [w3]; omega
  have hcell : ((withThrown W Zs text P1.m.cls kX).setVm vm').heap[(W.heap.size + 2)]? = some (freshCell P1.m.cls kX) := w4
  have X5 := ((((X4.stored hcell T.fCause.slot (.ref (W.heap.size + 2))).storedAgain ha T.fStack.slot u0.v).storedAgain ha T.fSupp.slot sen.v).storedAgain ha T.fStack.slot u0.v).storedAgain ha T.fMsg.slot (.ref (W.heap.size + 1))
  obtain ⟨g₁, hfrM⟩ := X5.frames_eq
  have hU : ((((withThrown W Zs text P1.m.cls kX).setVm vm').setCell (W.heap.size + 2) (plainBareV T.toThrowableT (freshCell P1.m.cls kX) (W.heap.size + 2) u0 sen (.ref (W.heap.size + 1)))).setTop g).pushFrame (.throwing (W.heap.size + 2)) = (((withThrown W Zs text P1.m.cls kX).setVm vm').setCell (W.heap.size + 2) (plainBareV T.toThrowableT (freshCell P1.m.cls kX) (W.heap.size + 2) u0 sen (.ref (W.heap.size + 1)))).setFrames (.throwing (W.heap.size + 2) :: .java g :: below) := by
    rw [State.pushFrame, State.frames_setTop _ hfrM, State.setTop_of_frames _ hfrM, State.setFrames_setFrames]
  have b1 : (bytesOf Zs.cB (stringToUtf16 text)).slots.size = (stringBytes (stringToUtf16 text)).size := by
    rw [(Cell.writeAll_facts _ _).2.2]; simp [bytes0]
  have b2 : (stringAt Zs.cS Zs.kS Zs.fv Zs.fc (stringToUtf16 text) W.heap.size).slots.size = 4 := by simp [string0, Cell.setSlot, hn4]
  have b3 : (freshCell P1.m.cls kX).slots.size = 6 := by simp [hn6]
  rw [b1, b2, b3] at X5
  have e9 : slots + (stringBytes (stringToUtf16 text)).size + 4 + 6 = slots + ((stringBytes (stringToUtf16 text)).size + 4 + 6) := by omega
  rw [e9] at X5
  simp only [List.append_assoc, List.cons_append, List.nil_append] at X5
  refine ⟨((withThrown W Zs text P1.m.cls kX).setVm vm').setCell (W.heap.size + 2) (plainBareV T.toThrowableT (freshCell P1.m.cls kX) (W.heap.size + 2) u0 sen (.ref (W.heap.size + 1))), W.heap.size + 2, _, fun target ht => st _ (by rw [X.tail, ← hU]; exact ht),
    X5.forget (fun y hy => ?_), heapAt_setCell_self _ ha, hfound, rfl⟩
  simp only [List.mem_cons, List.not_mem_nil, or_false] at hy
  have hge : s.heap.size ≤ W.heap.size := X.same.2.1
  rcases hy with rfl | rfl | rfl | rfl | rfl <;> exact Nat.le_trans hge (Nat.le_add_right _ 2)
set_option maxHeartbeats 1000000 in
/-- the machine throws NullPointerException, no traces kept: from its note over the frame g to 'throwing' over the same frame (follows the proof of Stand.vmThrowsNpe, Shelf42/KT2.lean; throwsNpeColdBareVAt, Shelf42/NT91.lean, called) -/
theorem vx_npeAt {p : Program} {l : Launch} {e : Env} {R : Room} {s : State} {m₀ : MethodId} {args : Array Value} {below : List Frame} {meth : Method} {c : Code} {W : State} {locs : List Loc} {cells slots : Nat}
    (X : Stand p l e R s m₀ args below meth c W locs cells slots) (hexec : p.tables.exec = Jvm.exec) (htr : e.platform.stackTraces = false) {n : Nat}
    (h : ∀ a ∈ Bundle.npeArmAtoms n, a.before args s = true)
    (hlocs : ∀ x ∈ locs, ∀ cell, s.heap[x.base]? = some cell → cell.vm.isStatics = false)
    {g : JFrame} (hg : g.method = m₀) (hsize : g.locals.size = c.maxLocals)
    (hRframes : 7 < R.frames) (hRlocals : 2 * g.monitorRoom + (g.stack.map fun v => v.category).sum + 10240 ≤ R.locals)
    (hRcells : cells + 1 ≤ R.cells) (hRslots : slots + n ≤ R.slots) (hlocks : meth.locks = false) :
    ∃ (S : State) (q : Addr) (ce : Cell), (∀ target, Steps p.tables e below ((S.setTop g).pushFrame (.throwing q)) target → Steps p.tables e below ((W.setTop g).pushFrame (.throwNew "java/lang/NullPointerException" none none)) target) ∧
      Stand p l e R s m₀ args below meth c S locs (cells + 1) (slots + n) ∧ S.heap[q]? = some ce ∧ s.vm.findClass "java/lang/NullPointerException" = some ce.cls ∧ ce.vm = .none := by
  have howns : e.platform.frameOwnsMonitors = true := by rw [X.admits.platform]
  have hfin : e.platform.finalization = false := by rw [X.admits.platform]
  have hpl : e.platform.magicAccessors = ({} : Platform).magicAccessors := by rw [X.admits.platform]
  have hpl2 : e.platform.arrayCloneIsPublic = true := by rw [X.admits.platform]
  have a' : ∀ x, x ∈ Bundle.npeArmAtoms n → x.holds args s none s [] = true := fun x hx => h x hx
  obtain ⟨T, Z, L, LZ, Y⟩ := ThrowableC.of_atoms (args := args) howns hfin hpl (fun x hx => h x (by simp [Bundle.npeArmAtoms, hx]))
  obtain ⟨N, LN, hcN, hnNF, hordN, hffS⟩ := NpeC.of_atoms (args := args) hpl hpl2 L Y (fun x hx => h x (by simp [Bundle.npeArmAtoms, hx]))
  obtain ⟨P1, L1, hP1m, hP1s⟩ := PassC.of_atoms (args := args) (s := s) hpl (X := Bundle.nN) (Y := Bundle.rN) (by decide) (by decide) LibCode.NullPointerException.Init0.at_0 LibCode.NullPointerException.Init0.at_1 LibCode.NullPointerException.Init0.at_4 (fun x hx => h x (by simp [Bundle.npeArmAtoms, hx]))
  obtain ⟨PR, LR, hPRm, hPRs⟩ := PassC.of_atoms (args := args) (s := s) hpl (X := Bundle.rN) (Y := Bundle.eN) (by decide) (by decide) LibCode.RuntimeException.Init0.at_0 LibCode.RuntimeException.Init0.at_1 LibCode.RuntimeException.Init0.at_4 (fun x hx => h x (by simp [Bundle.npeArmAtoms, hx]))
  obtain ⟨PE, LEx, hPEm, hPEs⟩ := PassC.of_atoms (args := args) (s := s) hpl (X := Bundle.eN) (Y := Bundle.tN) (by decide) (by decide) LibCode.Exception.Init0.at_0 LibCode.Exception.Init0.at_1 LibCode.Exception.Init0.at_4 (fun x hx => h x (by simp [Bundle.npeArmAtoms, hx]))
  have hfound : s.vm.findClass Bundle.nN = some P1.m.cls := findClass_of_methodNamed hP1m
  have ecls : N.cN = P1.m.cls := Option.some.inj (hcN.symm.trans hfound)
  have hk : s.vm.classes[P1.m.cls]? = some N.kN := by rw [← ecls]; exact LN.cls
  have hinit := Cond.initialized_spec hfound hk (a' (.initialized Bundle.nN) (by simp [Bundle.npeArmAtoms]))
  have hctor : N.kN.findMethod "<init>" "()V" = some P1.m.idx := findMethod_of_methodNamed hP1m hk
  obtain ⟨c1, k1, hc1, hk1, -, -, -, hn⟩ := Cond.instantiable_spec (a' (.instantiable Bundle.nN n) (by simp [Bundle.npeArmAtoms]))
  cases Option.some.inj (hc1.symm.trans hfound)
  cases Option.some.inj (hk1.symm.trans hk)
  have hfsz : (freshCell P1.m.cls N.kN).slots.size = n := by simp [hn]
  have hlink1 : P1.sup = PR.m := Option.some.inj (hP1s.symm.trans hPRm)
  have hlinkR : PR.sup = PE.m := Option.some.inj (hPRs.symm.trans hPEm)
  have hlinkE : PE.sup = Z.m T.toThrowableT := Option.some.inj (hPEs.symm.trans Y.init0)
  have hLs : ∀ P, P ∈ [PR, PE] → P.Links0 e.platform s := fun P hP => by
    simp only [List.mem_cons, List.not_mem_nil, or_false] at hP
    rcases hP with rfl | rfl
    · exact LR
    · exact LEx
  have hsel0 : selectMethod e.platform s.vm P1.m.cls T.fill0 = .method T.fill0 := by
    obtain ⟨c2, r2, m2, q1, q2, q3, q4, -⟩ := Cond.selects_spec (a' (.selects Bundle.nN Bundle.tFill0 Bundle.tFill0) (by simp [Bundle.npeArmAtoms]))
    cases Option.some.inj (q1.symm.trans hfound)
    cases Option.some.inj (q2.symm.trans (State.methodFound?_of_named Y.fill0 (by decide)))
    cases Option.some.inj (q3.symm.trans Y.fill0)
    rw [Launch.admits_selectMethod X.admits]; exact q4
  have hselF : selectMethod e.platform s.vm P1.m.cls T.fill = .method N.fill := by
    obtain ⟨c2, r2, m2, q1, q2, q3, q4, -⟩ := Cond.selects_spec (a' (.selects Bundle.nN Bundle.tFill Bundle.nFill) (by simp [Bundle.npeArmAtoms]))
    cases Option.some.inj (q1.symm.trans hfound)
    cases Option.some.inj (q2.symm.trans (State.methodFound?_of_named Y.fill (by decide)))
    cases Option.some.inj (q3.symm.trans hnNF)
    rw [Launch.admits_selectMethod X.admits]; exact q4
  obtain ⟨cellS0, hcS0, hiss⟩ := Y.statics
  obtain ⟨u0, hu0⟩ := Cond.staticRefV Y.unassigned L.unassignedStatic L.statics hcS0 hiss (a' (.isRef (.static Bundle.tN "UNASSIGNED_STACK" Bundle.steD)) (by simp [Bundle.npeArmAtoms]))
  obtain ⟨sen, hsen⟩ := Cond.staticRefV Y.sentinel L.sentinelStatic L.statics hcS0 hiss (a' (.isRef (.static Bundle.tN "SUPPRESSED_SENTINEL" Bundle.listD)) (by simp [Bundle.npeArmAtoms]))
  obtain ⟨ci198, i198, fB, hk198, hg198, ha198, hsB, -, hnB, htB, hffB⟩ := Cond.ownField (t := .object "java/lang/Object") Y.found L.cls (by decide +kernel) (a' (.fieldLink Bundle.tN 198 Bundle.tN "backtrace" Bundle.objD) (by simp [Bundle.npeArmAtoms])) (a' (.lays Bundle.tN Bundle.tN "backtrace" Bundle.objD) (by simp [Bundle.npeArmAtoms])) e.platform hpl
  obtain ⟨cellS, hcS', heS, -, hkeep⟩ := X.same.2.2.2.2.2 T.aS cellS0 hcS0
  have hcellS : W.heap[T.aS]? = some cellS := hcS'
  have hout' : ∀ i, (⟨T.aS, i⟩ : Loc) ∉ locs := fun i hmem => by
    have := hlocs _ hmem cellS0 hcS0
    rw [hiss] at this; cases this
  have hknownS : cellS.vm ≠ .unknown := by
    rw [heS]; intro hu
    rw [show cellS0.vm = .unknown from hu] at hiss
    cases hiss
  have hvU : cellS.slots[T.fUnassigned.slot]? = some u0.v := by rw [hkeep _ (hout' _)]; exact hu0
  have hvSen : cellS.slots[T.fSentinel.slot]? = some sen.v := by rw [hkeep _ (hout' _)]; exact hsen
  obtain ⟨tyC, dC, hdC, hdnC⟩ := Cond.laysAt hfound hk Y.cause (a' (.lays Bundle.nN Bundle.tN "cause" "Ljava/lang/Throwable;") (by simp [Bundle.npeArmAtoms]))
  obtain ⟨tyS, dS, hdS, hdnS⟩ := Cond.laysAt hfound hk Y.stack (a' (.lays Bundle.nN Bundle.tN "stackTrace" Bundle.steD) (by simp [Bundle.npeArmAtoms]))
  obtain ⟨tyP, dP, hdP, hdnP⟩ := Cond.laysAt hfound hk Y.supp (a' (.lays Bundle.nN Bundle.tN "suppressedExceptions" Bundle.listD) (by simp [Bundle.npeArmAtoms]))
  obtain ⟨tyX, dX, hdX, hdnX⟩ := Cond.laysAt hfound hk hffS (a' (.lays Bundle.nN Bundle.nN "extendedMessageState" "I") (by simp [Bundle.npeArmAtoms, Bundle.npeAtoms]))
  obtain ⟨hnX, htX⟩ := State.fieldFound?_type hffS (t := .int) (by decide +kernel)
  have xC := Cond.laysApart hdC hdX hdnC hdnX (by rw [hnX, Y.causeName]; decide)
  have xS := Cond.laysApart hdS hdX hdnS hdnX (by rw [hnX, Y.stackName]; decide)
  have xP := Cond.laysApart hdP hdX hdnP hdnX (by rw [hnX, Y.suppName]; decide)
  have hv0 : (freshCell P1.m.cls N.kN).slots[N.fState.slot]? = some (.int 0) := by
    have := fresh_default (c := P1.m.cls) tyX
    rw [htX] at this; exact this
  obtain ⟨tyB, dB, hdB, hdnB⟩ := Cond.laysAt hfound hk hffB (a' (.lays Bundle.nN Bundle.tN "backtrace" Bundle.objD) (by simp [Bundle.npeArmAtoms]))
  have bC := Cond.laysApart hdB hdC hdnB hdnC (by rw [hnB, Y.causeName]; decide)
  have bS := Cond.laysApart hdB hdS hdnB hdnS (by rw [hnB, Y.stackName]; decide)
  have bP := Cond.laysApart hdB hdP hdnB hdnP (by rw [hnB, Y.suppName]; decide)
  have bX := Cond.laysApart hdB hdX hdnB hdnX (by rw [hnB, hnX]; decide)
  have hbk : ((npeCell N.toNpeT (preparedCellV T.toThrowableT (freshCell P1.m.cls N.kN) W.heap.size u0 sen) W.cur).withEntry W.cur).slots[fB.slot]? = some .null := by
    have := fresh_default (c := P1.m.cls) tyB
    rw [htB] at this
    simpa [npeCell, preparedCellV, Cell.setSlot, Cell.withEntry, Array.getElem?_setIfInBounds, bC, bS, bP, bX, bC.symm, bS.symm, bP.symm, bX.symm, defaultValue] using this
  have tkC := Takes.of_laid (v := .ref W.heap.size) hk hordN tyC (by rw [Y.causeType]; rfl)
  have tkS := Takes.of_laid (v := u0.v) hk hordN tyS (by rw [Y.stackType]; exact fits_refV_array _ u0)
  have tkP := Takes.of_laid (v := sen.v) hk hordN tyP (by rw [Y.suppType]; exact fits_refV_object _ sen)
  have tkX := Takes.of_laid (v := .int 1) hk hordN tyX (by rw [htX]; rfl)
  have hskip : SkipFacts T e.platform s (fun u => u) u0 ((npeCell N.toNpeT (preparedCellV T.toThrowableT (freshCell P1.m.cls N.kN) W.heap.size u0 sen) W.cur).withEntry W.cur) := ⟨{ ci198 := ci198, i198 := i198, fBack := fB }, ⟨hk198, hg198, ha198, hsB⟩, hbk, fun _ _ => rfl⟩
  obtain ⟨vm', X3, st, -⟩ := X.throwsNpeColdBareVAt hexec hg hsize T L Z LZ N LN P1 L1 [PR, PE] hLs hlink1 ⟨hlinkR, hlinkE, trivial⟩ hfound hk hinit hordN hctor hsel0 hselF hcellS hknownS hvU hvSen
    hv0 xC xS xP tkC tkS tkP tkX Y.objLocals hskip (fun _ _ hA hW _ hroom _ hrest => L.nativeOff p htr hA hW hroom hrest) (by simpa using hRframes) hRlocals (by simp) hRcells (by rw [hn]; exact hRslots)
  have hlt : W.heap.size < ((W.pushCell (freshCell P1.m.cls N.kN)).setVm vm').heap.size := by
    show W.heap.size < (W.pushCell (freshCell P1.m.cls N.kN)).heap.size
    rw [State.heap_size_pushCell]; omega
  rw [hfsz] at X3
  obtain ⟨g₁, hfrM⟩ := X3.frames_eq
  have hU : ((((W.pushCell (freshCell P1.m.cls N.kN)).setVm vm').setCell W.heap.size (npeBareV T.toThrowableT N.toNpeT (freshCell P1.m.cls N.kN) W.heap.size u0 sen)).setTop g).pushFrame (.throwing W.heap.size) = (((W.pushCell (freshCell P1.m.cls N.kN)).setVm vm').setCell W.heap.size (npeBareV T.toThrowableT N.toNpeT (freshCell P1.m.cls N.kN) W.heap.size u0 sen)).setFrames (.throwing W.heap.size :: .java g :: below) := by
    rw [State.pushFrame, State.frames_setTop _ hfrM, State.setTop_of_frames _ hfrM, State.setFrames_setFrames]
  refine ⟨_, W.heap.size, _, fun target ht => st.trans (by rw [← hU]; exact ht), X3.forget (fun y hy => ?_), heapAt_setCell_self _ hlt, hfound, rfl⟩
  simp only [List.mem_cons, List.not_mem_nil, or_false] at hy
  have hge : s.heap.size ≤ W.heap.size := X.same.2.1
  rcases hy with rfl | rfl | rfl | rfl | rfl <;> exact hge
/-- the words of a machine's NullPointerException, but the four that speak of the heap -/
def vx_atN (n : Nat) : List Cond := (Bundle.npeArmAtoms n).filter vx_no
/-- the words of a machine's throw with a message, but the four that speak of the heap -/
def vx_atM (X : String) (names : List String) : List Cond := (Bundle.messageArmAtoms X names).filter vx_no
section
variable {p : Program} {l : Launch} {e : Env} {R : Room} {s : State} {m : MethodId} {args : Array Value} {below : List Frame} {meth : Method} {c : Code} {H : Heap} {locs : List Loc} {cells slots : Nat}
/-- a frame seen from a rebased start, seen from the first start again -/
theorem vx_back9 {T S : State} {R' : Room} {k n : Nat} (X : Stand p l e R s m args below meth c T locs cells slots) (Y : Stand p l e R' ((T.setVm s.vm).setFrames (.invoking m args :: below)) m args below meth c T [] 0 0) (Z : Stand p l e R' ((T.setVm s.vm).setFrames (.invoking m args :: below)) m args below meth c S [] k n) :
    Stand p l e R s m args below meth c S locs (cells + k) (slots + n) := by
  have hW0 : s.WarmedH ((T.setVm s.vm).setFrames (.invoking m args :: below)).vm := State.WarmedH.refl s
  refine { admits := X.admits, cas := X.cas, clock := X.clock, frames := X.frames, room := X.room, hears := X.hears, method := X.method, code := X.code, here := Z.here, tail := Z.tail, warmed := State.WarmedH.trans hW0 Z.warmed, limits := Z.limits.trans (Y.limits.symm.trans X.limits), bytes := Z.bytes.trans (Y.bytes.symm.trans X.bytes), same := ?_ }
  obtain ⟨e1, e2⟩ := Z.same
  rw [State.setFrames_setFrames] at e1
  have h2 : (T.setVm s.vm).sameButNew (S.setVm s.vm) [] k n := ⟨e1, e2⟩
  have h3 := X.same.trans h2
  rw [List.append_nil] at h3
  exact h3
/-- from the machine's note that E is thrown here with this text -/
def vx_Note (p : Program) (l : Launch) (e : Env) (R : Room) (s : State) (m : MethodId) (args : Array Value) (below : List Frame) (meth : Method) (c : Code) (H : Heap) (locs : List Loc) (cells slots : Nat) (Q : State → Prop) (g : JFrame) (E text : String) : Prop :=
  ∀ T : State, T.heap = H → Stand p l e R s m args below meth c T locs cells slots → ∃ t, Steps p.tables e below ((T.setTop g).pushFrame (.throwNew E (some text) none)) t ∧ Q t
theorem vx_vm {pc : Nat} {ls : Array Slot} {rest : List Value} {Q : State → Prop} (hexec : p.tables.exec = Jvm.exec) (hl : l.stackTraces = false) {cls text : String} {names : List String} {nb : Nat} {A : Nat → Prop}
    (hcls : Bundle.fit cls = true) (hnames : ∀ n ∈ names, Bundle.fit n = true) (hsoe : (cls == "java/lang/StackOverflowError") = false) (hoom : (cls == "java/lang/OutOfMemoryError") = false)
    (hat : ∀ w ∈ vx_atM cls names, w.before args s = true) (hgood : ∀ w ∈ vx_atM cls names, vx_ot w = true)
    (hU : vx_Zq Bundle.tN "UNASSIGNED_STACK" Bundle.steD A s s.heap) (hN : vx_Zq Bundle.tN "SUPPRESSED_SENTINEL" Bundle.listD A s s.heap) (hS : va_S A s.heap H locs) (hsize : ls.size = c.maxLocals)
    (htext : (text == notModelled) = false) (hnb : (stringBytes (stringToUtf16 text)).size ≤ nb) (hnb1 : nb ≤ 1000)
    (hRframes : names.length + 4 < R.frames) (hRlocals : (rest.map fun v => v.category).sum + 10240 ≤ R.locals) (hshort : 13 * names.length + 55 ≤ 10240) (hRcells : cells + 3 ≤ R.cells) (hRslots : slots + (nb + 10) ≤ R.slots) (hlocks : meth.locks = false)
    (k : ∀ (H1 : Heap) (q9 : Addr) (ce : Cell), H.size ≤ H1.size → (∀ q : Nat, q < H.size → H1[q]? = H[q]?) → va_S A s.heap H1 locs → H1[q9]? = some ce → ce.vm = .none → s.vm.findClass cls = some ce.cls → vx_W p l e R s m args below meth c H1 locs (cells + 3) (slots + (nb + 10)) Q (F0 m pc ls rest) q9) :
    vx_Note p l e R s m args below meth c H locs cells slots Q (F0 m pc ls rest) cls text := by
  intro T hT X
  have htr : e.platform.stackTraces = false := (show e.platform.stackTraces = l.stackTraces by rw [X.admits.platform]).trans hl
  have Y := vx_rebase X (R' := { frames := R.frames, locals := R.locals, cells := 3, slots := nb + 10 }) (Nat.le_refl _) (Nat.le_refl _) hRcells hRslots
  have hhp : ((T.setVm s.vm).setFrames (.invoking m args :: below)).heap = H := hT
  have hW0 : s.WarmedH ((T.setVm s.vm).setFrames (.invoking m args :: below)).vm := State.WarmedH.refl s
  have hat' : ∀ w ∈ vx_atM cls names, w.before args ((T.setVm s.vm).setFrames (.invoking m args :: below)) = true := fun w hw => vx_ot_at hW0 rfl (hgood w hw) (hat w hw)
  have hU' : vx_Zq Bundle.tN "UNASSIGNED_STACK" Bundle.steD A ((T.setVm s.vm).setFrames (.invoking m args :: below)) ((T.setVm s.vm).setFrames (.invoking m args :: below)).heap := by rw [hhp]; exact vx_Zq.moved hW0.alike (hU.kept hS.2.1)
  have hN' : vx_Zq Bundle.tN "SUPPRESSED_SENTINEL" Bundle.listD A ((T.setVm s.vm).setFrames (.invoking m args :: below)) ((T.setVm s.vm).setFrames (.invoking m args :: below)).heap := by rw [hhp]; exact vx_Zq.moved hW0.alike (hN.kept hS.2.1)
  obtain ⟨S, q, ce, st, Z, hce, hcl', hv⟩ := vx_vmAt Y hexec htr (cls := cls) (names := names) (text := text) hcls hnames hsoe hoom (vx_own hat' (vx_isRefq hU'.1) (vx_isRefq hN'.1) hU'.2.word hN'.2.word) (fun x hx => nomatch hx) htext
    (by rw [Launch.admits_arrayLengthLimit X.admits]; omega) (by rw [Launch.admits_maxHeapBytes X.admits]; simp only [componentBytes]; omega)
    (g := F0 m pc ls rest) rfl hsize hRframes (by show 2 * 0 + (rest.map fun v => v.category).sum + 10240 ≤ R.locals; omega) hshort (by show 0 + 3 ≤ 3; omega) (by show 0 + (_ + 4 + 6) ≤ nb + 10; omega) hlocks
  obtain ⟨f1, f2⟩ := vx_frame Z.same
  have f1' : H.size ≤ S.heap.size := by rw [← hT]; exact f1
  have f2' : ∀ q : Nat, q < H.size → S.heap[q]? = H[q]? := fun q hq => by
    rw [← hT]
    exact f2 q (by rw [← hT] at hq; exact hq) (fun z hz => nomatch hz)
  have X5 := vx_back9 X Y Z
  have X6 : Stand p l e R s m args below meth c S locs (cells + 3) (slots + (nb + 10)) := { X5 with same := X5.same.mono (by omega) (by omega) }
  obtain ⟨t, a1, b1⟩ := k S.heap q ce f1' f2' ⟨Nat.le_trans hS.1 f1', fun q h1 h2 => (f2' q (Nat.lt_of_lt_of_le h1 hS.1)).trans (hS.2.1 q h1 h2), hS.2.2⟩ hce hv hcl' S rfl X6
  exact ⟨t, st t a1, b1⟩
/-- from the machine's note that NullPointerException is thrown here -/
def vx_NoteN (p : Program) (l : Launch) (e : Env) (R : Room) (s : State) (m : MethodId) (args : Array Value) (below : List Frame) (meth : Method) (c : Code) (H : Heap) (locs : List Loc) (cells slots : Nat) (Q : State → Prop) (g : JFrame) : Prop :=
  ∀ T : State, T.heap = H → Stand p l e R s m args below meth c T locs cells slots → ∃ t, Steps p.tables e below ((T.setTop g).pushFrame (.throwNew "java/lang/NullPointerException" none none)) t ∧ Q t
theorem vx_npe {pc : Nat} {ls : Array Slot} {rest : List Value} {Q : State → Prop} (hexec : p.tables.exec = Jvm.exec) (hl : l.stackTraces = false) {nb : Nat} {A : Nat → Prop}
    (hat : ∀ w ∈ vx_atN nb, w.before args s = true) (hgood : ∀ w ∈ vx_atN nb, vx_ot w = true)
    (hU : vx_Zq Bundle.tN "UNASSIGNED_STACK" Bundle.steD A s s.heap) (hN : vx_Zq Bundle.tN "SUPPRESSED_SENTINEL" Bundle.listD A s s.heap) (hS : va_S A s.heap H locs) (hsize : ls.size = c.maxLocals)
    (hRframes : 7 < R.frames) (hRlocals : (rest.map fun v => v.category).sum + 10240 ≤ R.locals) (hRcells : cells + 1 ≤ R.cells) (hRslots : slots + nb ≤ R.slots) (hlocks : meth.locks = false)
    (k : ∀ (H1 : Heap) (q9 : Addr) (ce : Cell), H.size ≤ H1.size → (∀ q : Nat, q < H.size → H1[q]? = H[q]?) → va_S A s.heap H1 locs → H1[q9]? = some ce → ce.vm = .none → s.vm.findClass "java/lang/NullPointerException" = some ce.cls → vx_W p l e R s m args below meth c H1 locs (cells + 1) (slots + nb) Q (F0 m pc ls rest) q9) :
    vx_NoteN p l e R s m args below meth c H locs cells slots Q (F0 m pc ls rest) := by
  intro T hT X
  have htr : e.platform.stackTraces = false := (show e.platform.stackTraces = l.stackTraces by rw [X.admits.platform]).trans hl
  have Y := vx_rebase X (R' := { frames := R.frames, locals := R.locals, cells := 1, slots := nb }) (Nat.le_refl _) (Nat.le_refl _) hRcells hRslots
  have hhp : ((T.setVm s.vm).setFrames (.invoking m args :: below)).heap = H := hT
  have hW0 : s.WarmedH ((T.setVm s.vm).setFrames (.invoking m args :: below)).vm := State.WarmedH.refl s
  have hat' : ∀ w ∈ vx_atN nb, w.before args ((T.setVm s.vm).setFrames (.invoking m args :: below)) = true := fun w hw => vx_ot_at hW0 rfl (hgood w hw) (hat w hw)
  have hU' : vx_Zq Bundle.tN "UNASSIGNED_STACK" Bundle.steD A ((T.setVm s.vm).setFrames (.invoking m args :: below)) ((T.setVm s.vm).setFrames (.invoking m args :: below)).heap := by rw [hhp]; exact vx_Zq.moved hW0.alike (hU.kept hS.2.1)
  have hN' : vx_Zq Bundle.tN "SUPPRESSED_SENTINEL" Bundle.listD A ((T.setVm s.vm).setFrames (.invoking m args :: below)) ((T.setVm s.vm).setFrames (.invoking m args :: below)).heap := by rw [hhp]; exact vx_Zq.moved hW0.alike (hN.kept hS.2.1)
  obtain ⟨S, q, ce, st, Z, hce, hcl', hv⟩ := vx_npeAt Y hexec htr (n := nb) (vx_own hat' (vx_isRefq hU'.1) (vx_isRefq hN'.1) hU'.2.word hN'.2.word) (fun x hx => nomatch hx)
    (g := F0 m pc ls rest) rfl hsize hRframes (by show 2 * 0 + (rest.map fun v => v.category).sum + 10240 ≤ R.locals; omega) (by show 0 + 1 ≤ 1; omega) (by show 0 + nb ≤ nb; omega) hlocks
  obtain ⟨f1, f2⟩ := vx_frame Z.same
  have f1' : H.size ≤ S.heap.size := by rw [← hT]; exact f1
  have f2' : ∀ q : Nat, q < H.size → S.heap[q]? = H[q]? := fun q hq => by
    rw [← hT]
    exact f2 q (by rw [← hT] at hq; exact hq) (fun z hz => nomatch hz)
  have X5 := vx_back9 X Y Z
  have X6 : Stand p l e R s m args below meth c S locs (cells + 1) (slots + nb) := { X5 with same := X5.same.mono (by omega) (by omega) }
  obtain ⟨t, a1, b1⟩ := k S.heap q ce f1' f2' ⟨Nat.le_trans hS.1 f1', fun q h1 h2 => (f2' q (Nat.lt_of_lt_of_le h1 hS.1)).trans (hS.2.1 q h1 h2), hS.2.2⟩ hce hv hcl' S rfl X6
  exact ⟨t, st t a1, b1⟩
variable {Q : State → Prop} {cc : ByteArray} {pc : Nat} {ls : Array Slot} {rest : List Value}
theorem vx_idivZ (hexec : p.tables.exec = Jvm.exec) (hb : c.code = cc) {a b : Int32} (h0 : b = 0) (d : decode cc pc = .ok (.idiv, 1)) (k : vx_Note p l e R s m args below meth c H locs cells slots Q (F0 m pc ls rest) "java/lang/ArithmeticException" "/ by zero") :
    W p l e R s m args below meth c H locs cells slots Q (F0 m pc ls (.int b :: .int a :: rest)) := by
  intro T hT X
  obtain ⟨t, st, q⟩ := k T hT X
  exact ⟨t, X.idivZero hexec (g := F0 m pc ls (.int b :: .int a :: rest)) rfl (a := a) (rest := rest) (by rw [h0]) (by rw [hb]; exact d) t st, q⟩
theorem vx_iremZ (hexec : p.tables.exec = Jvm.exec) (hb : c.code = cc) {a b : Int32} (h0 : b = 0) (d : decode cc pc = .ok (.irem, 1)) (k : vx_Note p l e R s m args below meth c H locs cells slots Q (F0 m pc ls rest) "java/lang/ArithmeticException" "/ by zero") :
    W p l e R s m args below meth c H locs cells slots Q (F0 m pc ls (.int b :: .int a :: rest)) := by
  intro T hT X
  obtain ⟨t, st, q⟩ := k T hT X
  exact ⟨t, X.iremZero hexec (g := F0 m pc ls (.int b :: .int a :: rest)) rfl (a := a) (rest := rest) (by rw [h0]) (by rw [hb]; exact d) t st, q⟩
theorem vx_ldivZ (hexec : p.tables.exec = Jvm.exec) (hb : c.code = cc) {a b : Int64} (h0 : b = 0) (d : decode cc pc = .ok (.ldiv, 1)) (k : vx_Note p l e R s m args below meth c H locs cells slots Q (F0 m pc ls rest) "java/lang/ArithmeticException" "/ by zero") :
    W p l e R s m args below meth c H locs cells slots Q (F0 m pc ls (.long b :: .long a :: rest)) := by
  intro T hT X
  obtain ⟨t, st, q⟩ := k T hT X
  exact ⟨t, X.ldivZero hexec (g := F0 m pc ls (.long b :: .long a :: rest)) rfl (a := a) (rest := rest) (by rw [h0]) (by rw [hb]; exact d) t st, q⟩
theorem vx_lremZ (hexec : p.tables.exec = Jvm.exec) (hb : c.code = cc) {a b : Int64} (h0 : b = 0) (d : decode cc pc = .ok (.lrem, 1)) (k : vx_Note p l e R s m args below meth c H locs cells slots Q (F0 m pc ls rest) "java/lang/ArithmeticException" "/ by zero") :
    W p l e R s m args below meth c H locs cells slots Q (F0 m pc ls (.long b :: .long a :: rest)) := by
  intro T hT X
  obtain ⟨t, st, q⟩ := k T hT X
  exact ⟨t, X.lremZero hexec (g := F0 m pc ls (.long b :: .long a :: rest)) rfl (a := a) (rest := rest) (by rw [h0]) (by rw [hb]; exact d) t st, q⟩
theorem vx_ialdZ {D : va_G} {cl : List vw_C} {ws : va_W} {tys : List (ClassId × FieldType)} {a : Nat} (hexec : p.tables.exec = Jvm.exec) (hb : c.code = cc) (hK : va_K D cl tys s) (hP : va_P D cl ws H) (q0 t0 : Nat) {cA : ClassId} {n : Nat} {f : Nat → Int32} (ha : ws[q0]? = some (a, .inl (cA, n, .inl f))) (ht : tys[t0]? = some (cA, .int)) {i : Int32} (hout : ¬ vp_in i n) (hdg : decode cc pc = .ok (.iaload, 1))
    (k : ∀ tx : String, tx = (toString "Index " ++ toString i ++ toString " out of bounds for length " ++ toString n : String) → vx_Note p l e R s m args below meth c H locs cells slots Q (F0 m pc ls rest) "java/lang/ArrayIndexOutOfBoundsException" tx) : W p l e R s m args below meth c H locs cells slots Q (F0 m pc ls (.int i :: .ref a :: rest)) := by
  intro T hT X
  obtain ⟨t, st, q⟩ := k _ rfl T hT X
  refine ⟨t, ?_, q⟩
  have h1 := X.ialoadOut hexec (by rw [hT]; exact hP q0 _ ha) ((hK.2 t0 _ ht).1 n (fun j => .int (f j))) (j := i) (by show (i < 0 ∨ (arrV _ _ _).slots.size ≤ _); rw [arrV_size]; exact Classical.byContradiction hout) (g := F0 m pc ls (.int i :: .ref a :: rest)) rfl (rest := rest) rfl (by rw [hb]; exact hdg) t
  simp only [arrV_size] at h1
  exact h1 st
theorem vx_iastZ {D : va_G} {cl : List vw_C} {ws : va_W} {tys : List (ClassId × FieldType)} {a : Nat} (hexec : p.tables.exec = Jvm.exec) (hb : c.code = cc) (hK : va_K D cl tys s) (hP : va_P D cl ws H) (q0 t0 : Nat) {cA : ClassId} {n : Nat} {f : Nat → Int32} (ha : ws[q0]? = some (a, .inl (cA, n, .inl f))) (ht : tys[t0]? = some (cA, .int)) {i : Int32} {x : Int32} (hout : ¬ vp_in i n) (hdg : decode cc pc = .ok (.iastore, 1))
    (k : ∀ tx : String, tx = (toString "Index " ++ toString i ++ toString " out of bounds for length " ++ toString n : String) → vx_Note p l e R s m args below meth c H locs cells slots Q (F0 m pc ls rest) "java/lang/ArrayIndexOutOfBoundsException" tx) : W p l e R s m args below meth c H locs cells slots Q (F0 m pc ls (.int x :: .int i :: .ref a :: rest)) := by
  intro T hT X
  obtain ⟨t, st, q⟩ := k _ rfl T hT X
  refine ⟨t, ?_, q⟩
  have h1 := X.iastoreOut hexec (by rw [hT]; exact hP q0 _ ha) ((hK.2 t0 _ ht).1 n (fun j => .int (f j))) (j := i) (by show (i < 0 ∨ (arrV _ _ _).slots.size ≤ _); rw [arrV_size]; exact Classical.byContradiction hout) (g := F0 m pc ls (.int x :: .int i :: .ref a :: rest)) rfl (rest := rest) rfl (by rw [hb]; exact hdg) t
  simp only [arrV_size] at h1
  exact h1 st
theorem vx_baldZ {D : va_G} {cl : List vw_C} {ws : va_W} {tys : List (ClassId × FieldType)} {a : Nat} (hexec : p.tables.exec = Jvm.exec) (hb : c.code = cc) (hK : va_K D cl tys s) (hP : va_P D cl ws H) (q0 t0 : Nat) {cA : ClassId} {n : Nat} {f : Nat → Int32} (ha : ws[q0]? = some (a, .inl (cA, n, .inl f))) (ht : tys[t0]? = some (cA, .byte)) {i : Int32} (hout : ¬ vp_in i n) (hdg : decode cc pc = .ok (.baload, 1))
    (k : ∀ tx : String, tx = (toString "Index " ++ toString i ++ toString " out of bounds for length " ++ toString n : String) → vx_Note p l e R s m args below meth c H locs cells slots Q (F0 m pc ls rest) "java/lang/ArrayIndexOutOfBoundsException" tx) : W p l e R s m args below meth c H locs cells slots Q (F0 m pc ls (.int i :: .ref a :: rest)) := by
  intro T hT X
  obtain ⟨t, st, q⟩ := k _ rfl T hT X
  refine ⟨t, ?_, q⟩
  have h1 := X.baloadOut hexec (by rw [hT]; exact hP q0 _ ha) ((hK.2 t0 _ ht).1 n (fun j => .int (f j))) (j := i) (by show (i < 0 ∨ (arrV _ _ _).slots.size ≤ _); rw [arrV_size]; exact Classical.byContradiction hout) (g := F0 m pc ls (.int i :: .ref a :: rest)) rfl (rest := rest) rfl (by rw [hb]; exact hdg) t
  simp only [arrV_size] at h1
  exact h1 st
theorem vx_bastZ {D : va_G} {cl : List vw_C} {ws : va_W} {tys : List (ClassId × FieldType)} {a : Nat} (hexec : p.tables.exec = Jvm.exec) (hb : c.code = cc) (hK : va_K D cl tys s) (hP : va_P D cl ws H) (q0 t0 : Nat) {cA : ClassId} {n : Nat} {f : Nat → Int32} (ha : ws[q0]? = some (a, .inl (cA, n, .inl f))) (ht : tys[t0]? = some (cA, .byte)) {i : Int32} {x : Int32} (hout : ¬ vp_in i n) (hdg : decode cc pc = .ok (.bastore, 1))
    (k : ∀ tx : String, tx = (toString "Index " ++ toString i ++ toString " out of bounds for length " ++ toString n : String) → vx_Note p l e R s m args below meth c H locs cells slots Q (F0 m pc ls rest) "java/lang/ArrayIndexOutOfBoundsException" tx) : W p l e R s m args below meth c H locs cells slots Q (F0 m pc ls (.int x :: .int i :: .ref a :: rest)) := by
  intro T hT X
  obtain ⟨t, st, q⟩ := k _ rfl T hT X
  refine ⟨t, ?_, q⟩
  have h1 := X.bastoreOut hexec (by rw [hT]; exact hP q0 _ ha) ((hK.2 t0 _ ht).1 n (fun j => .int (f j))) (j := i) (by show (i < 0 ∨ (arrV _ _ _).slots.size ≤ _); rw [arrV_size]; exact Classical.byContradiction hout) (g := F0 m pc ls (.int x :: .int i :: .ref a :: rest)) rfl (rest := rest) rfl (by rw [hb]; exact hdg) t
  simp only [arrV_size] at h1
  exact h1 st
theorem vx_zaldZ {D : va_G} {cl : List vw_C} {ws : va_W} {tys : List (ClassId × FieldType)} {a : Nat} (hexec : p.tables.exec = Jvm.exec) (hb : c.code = cc) (hK : va_K D cl tys s) (hP : va_P D cl ws H) (q0 t0 : Nat) {cA : ClassId} {n : Nat} {f : Nat → Int32} (ha : ws[q0]? = some (a, .inl (cA, n, .inl f))) (ht : tys[t0]? = some (cA, .boolean)) {i : Int32} (hout : ¬ vp_in i n) (hdg : decode cc pc = .ok (.baload, 1))
    (k : ∀ tx : String, tx = (toString "Index " ++ toString i ++ toString " out of bounds for length " ++ toString n : String) → vx_Note p l e R s m args below meth c H locs cells slots Q (F0 m pc ls rest) "java/lang/ArrayIndexOutOfBoundsException" tx) : W p l e R s m args below meth c H locs cells slots Q (F0 m pc ls (.int i :: .ref a :: rest)) := by
  intro T hT X
  obtain ⟨t, st, q⟩ := k _ rfl T hT X
  refine ⟨t, ?_, q⟩
  have h1 := X.baloadOut hexec (by rw [hT]; exact hP q0 _ ha) ((hK.2 t0 _ ht).1 n (fun j => .int (f j))) (j := i) (by show (i < 0 ∨ (arrV _ _ _).slots.size ≤ _); rw [arrV_size]; exact Classical.byContradiction hout) (g := F0 m pc ls (.int i :: .ref a :: rest)) rfl (rest := rest) rfl (by rw [hb]; exact hdg) t
  simp only [arrV_size] at h1
  exact h1 st
theorem vx_zastZ {D : va_G} {cl : List vw_C} {ws : va_W} {tys : List (ClassId × FieldType)} {a : Nat} (hexec : p.tables.exec = Jvm.exec) (hb : c.code = cc) (hK : va_K D cl tys s) (hP : va_P D cl ws H) (q0 t0 : Nat) {cA : ClassId} {n : Nat} {f : Nat → Int32} (ha : ws[q0]? = some (a, .inl (cA, n, .inl f))) (ht : tys[t0]? = some (cA, .boolean)) {i : Int32} {x : Int32} (hout : ¬ vp_in i n) (hdg : decode cc pc = .ok (.bastore, 1))
    (k : ∀ tx : String, tx = (toString "Index " ++ toString i ++ toString " out of bounds for length " ++ toString n : String) → vx_Note p l e R s m args below meth c H locs cells slots Q (F0 m pc ls rest) "java/lang/ArrayIndexOutOfBoundsException" tx) : W p l e R s m args below meth c H locs cells slots Q (F0 m pc ls (.int x :: .int i :: .ref a :: rest)) := by
  intro T hT X
  obtain ⟨t, st, q⟩ := k _ rfl T hT X
  refine ⟨t, ?_, q⟩
  have h1 := X.bastoreOut hexec (by rw [hT]; exact hP q0 _ ha) ((hK.2 t0 _ ht).1 n (fun j => .int (f j))) (j := i) (by show (i < 0 ∨ (arrV _ _ _).slots.size ≤ _); rw [arrV_size]; exact Classical.byContradiction hout) (g := F0 m pc ls (.int x :: .int i :: .ref a :: rest)) rfl (rest := rest) rfl (by rw [hb]; exact hdg) t
  simp only [arrV_size] at h1
  exact h1 st
theorem vx_caldZ {D : va_G} {cl : List vw_C} {ws : va_W} {tys : List (ClassId × FieldType)} {a : Nat} (hexec : p.tables.exec = Jvm.exec) (hb : c.code = cc) (hK : va_K D cl tys s) (hP : va_P D cl ws H) (q0 t0 : Nat) {cA : ClassId} {n : Nat} {f : Nat → Int32} (ha : ws[q0]? = some (a, .inl (cA, n, .inl f))) (ht : tys[t0]? = some (cA, .char)) {i : Int32} (hout : ¬ vp_in i n) (hdg : decode cc pc = .ok (.caload, 1))
    (k : ∀ tx : String, tx = (toString "Index " ++ toString i ++ toString " out of bounds for length " ++ toString n : String) → vx_Note p l e R s m args below meth c H locs cells slots Q (F0 m pc ls rest) "java/lang/ArrayIndexOutOfBoundsException" tx) : W p l e R s m args below meth c H locs cells slots Q (F0 m pc ls (.int i :: .ref a :: rest)) := by
  intro T hT X
  obtain ⟨t, st, q⟩ := k _ rfl T hT X
  refine ⟨t, ?_, q⟩
  have h1 := X.caloadOut hexec (by rw [hT]; exact hP q0 _ ha) ((hK.2 t0 _ ht).1 n (fun j => .int (f j))) (j := i) (by show (i < 0 ∨ (arrV _ _ _).slots.size ≤ _); rw [arrV_size]; exact Classical.byContradiction hout) (g := F0 m pc ls (.int i :: .ref a :: rest)) rfl (rest := rest) rfl (by rw [hb]; exact hdg) t
  simp only [arrV_size] at h1
  exact h1 st
theorem vx_castZ {D : va_G} {cl : List vw_C} {ws : va_W} {tys : List (ClassId × FieldType)} {a : Nat} (hexec : p.tables.exec = Jvm.exec) (hb : c.code = cc) (hK : va_K D cl tys s) (hP : va_P D cl ws H) (q0 t0 : Nat) {cA : ClassId} {n : Nat} {f : Nat → Int32} (ha : ws[q0]? = some (a, .inl (cA, n, .inl f))) (ht : tys[t0]? = some (cA, .char)) {i : Int32} {x : Int32} (hout : ¬ vp_in i n) (hdg : decode cc pc = .ok (.castore, 1))
    (k : ∀ tx : String, tx = (toString "Index " ++ toString i ++ toString " out of bounds for length " ++ toString n : String) → vx_Note p l e R s m args below meth c H locs cells slots Q (F0 m pc ls rest) "java/lang/ArrayIndexOutOfBoundsException" tx) : W p l e R s m args below meth c H locs cells slots Q (F0 m pc ls (.int x :: .int i :: .ref a :: rest)) := by
  intro T hT X
  obtain ⟨t, st, q⟩ := k _ rfl T hT X
  refine ⟨t, ?_, q⟩
  have h1 := X.castoreOut hexec (by rw [hT]; exact hP q0 _ ha) ((hK.2 t0 _ ht).1 n (fun j => .int (f j))) (j := i) (by show (i < 0 ∨ (arrV _ _ _).slots.size ≤ _); rw [arrV_size]; exact Classical.byContradiction hout) (g := F0 m pc ls (.int x :: .int i :: .ref a :: rest)) rfl (rest := rest) rfl (by rw [hb]; exact hdg) t
  simp only [arrV_size] at h1
  exact h1 st
theorem vx_saldZ {D : va_G} {cl : List vw_C} {ws : va_W} {tys : List (ClassId × FieldType)} {a : Nat} (hexec : p.tables.exec = Jvm.exec) (hb : c.code = cc) (hK : va_K D cl tys s) (hP : va_P D cl ws H) (q0 t0 : Nat) {cA : ClassId} {n : Nat} {f : Nat → Int32} (ha : ws[q0]? = some (a, .inl (cA, n, .inl f))) (ht : tys[t0]? = some (cA, .short)) {i : Int32} (hout : ¬ vp_in i n) (hdg : decode cc pc = .ok (.saload, 1))
    (k : ∀ tx : String, tx = (toString "Index " ++ toString i ++ toString " out of bounds for length " ++ toString n : String) → vx_Note p l e R s m args below meth c H locs cells slots Q (F0 m pc ls rest) "java/lang/ArrayIndexOutOfBoundsException" tx) : W p l e R s m args below meth c H locs cells slots Q (F0 m pc ls (.int i :: .ref a :: rest)) := by
  intro T hT X
  obtain ⟨t, st, q⟩ := k _ rfl T hT X
  refine ⟨t, ?_, q⟩
  have h1 := X.saloadOut hexec (by rw [hT]; exact hP q0 _ ha) ((hK.2 t0 _ ht).1 n (fun j => .int (f j))) (j := i) (by show (i < 0 ∨ (arrV _ _ _).slots.size ≤ _); rw [arrV_size]; exact Classical.byContradiction hout) (g := F0 m pc ls (.int i :: .ref a :: rest)) rfl (rest := rest) rfl (by rw [hb]; exact hdg) t
  simp only [arrV_size] at h1
  exact h1 st
theorem vx_sastZ {D : va_G} {cl : List vw_C} {ws : va_W} {tys : List (ClassId × FieldType)} {a : Nat} (hexec : p.tables.exec = Jvm.exec) (hb : c.code = cc) (hK : va_K D cl tys s) (hP : va_P D cl ws H) (q0 t0 : Nat) {cA : ClassId} {n : Nat} {f : Nat → Int32} (ha : ws[q0]? = some (a, .inl (cA, n, .inl f))) (ht : tys[t0]? = some (cA, .short)) {i : Int32} {x : Int32} (hout : ¬ vp_in i n) (hdg : decode cc pc = .ok (.sastore, 1))
    (k : ∀ tx : String, tx = (toString "Index " ++ toString i ++ toString " out of bounds for length " ++ toString n : String) → vx_Note p l e R s m args below meth c H locs cells slots Q (F0 m pc ls rest) "java/lang/ArrayIndexOutOfBoundsException" tx) : W p l e R s m args below meth c H locs cells slots Q (F0 m pc ls (.int x :: .int i :: .ref a :: rest)) := by
  intro T hT X
  obtain ⟨t, st, q⟩ := k _ rfl T hT X
  refine ⟨t, ?_, q⟩
  have h1 := X.sastoreOut hexec (by rw [hT]; exact hP q0 _ ha) ((hK.2 t0 _ ht).1 n (fun j => .int (f j))) (j := i) (by show (i < 0 ∨ (arrV _ _ _).slots.size ≤ _); rw [arrV_size]; exact Classical.byContradiction hout) (g := F0 m pc ls (.int x :: .int i :: .ref a :: rest)) rfl (rest := rest) rfl (by rw [hb]; exact hdg) t
  simp only [arrV_size] at h1
  exact h1 st
theorem vx_laldZ {D : va_G} {cl : List vw_C} {ws : va_W} {tys : List (ClassId × FieldType)} {a : Nat} (hexec : p.tables.exec = Jvm.exec) (hb : c.code = cc) (hK : va_K D cl tys s) (hP : va_P D cl ws H) (q0 t0 : Nat) {cA : ClassId} {n : Nat} {f : Nat → Int64} (ha : ws[q0]? = some (a, .inl (cA, n, .inr (.inl f)))) (ht : tys[t0]? = some (cA, .long)) {i : Int32} (hout : ¬ vp_in i n) (hdg : decode cc pc = .ok (.laload, 1))
    (k : ∀ tx : String, tx = (toString "Index " ++ toString i ++ toString " out of bounds for length " ++ toString n : String) → vx_Note p l e R s m args below meth c H locs cells slots Q (F0 m pc ls rest) "java/lang/ArrayIndexOutOfBoundsException" tx) : W p l e R s m args below meth c H locs cells slots Q (F0 m pc ls (.int i :: .ref a :: rest)) := by
  intro T hT X
  obtain ⟨t, st, q⟩ := k _ rfl T hT X
  refine ⟨t, ?_, q⟩
  have h1 := X.laloadOut hexec (by rw [hT]; exact hP q0 _ ha) ((hK.2 t0 _ ht).1 n (fun j => .long (f j))) (j := i) (by show (i < 0 ∨ (arrV _ _ _).slots.size ≤ _); rw [arrV_size]; exact Classical.byContradiction hout) (g := F0 m pc ls (.int i :: .ref a :: rest)) rfl (rest := rest) rfl (by rw [hb]; exact hdg) t
  simp only [arrV_size] at h1
  exact h1 st
theorem vx_lastZ {D : va_G} {cl : List vw_C} {ws : va_W} {tys : List (ClassId × FieldType)} {a : Nat} (hexec : p.tables.exec = Jvm.exec) (hb : c.code = cc) (hK : va_K D cl tys s) (hP : va_P D cl ws H) (q0 t0 : Nat) {cA : ClassId} {n : Nat} {f : Nat → Int64} (ha : ws[q0]? = some (a, .inl (cA, n, .inr (.inl f)))) (ht : tys[t0]? = some (cA, .long)) {i : Int32} {x : Int64} (hout : ¬ vp_in i n) (hdg : decode cc pc = .ok (.lastore, 1))
    (k : ∀ tx : String, tx = (toString "Index " ++ toString i ++ toString " out of bounds for length " ++ toString n : String) → vx_Note p l e R s m args below meth c H locs cells slots Q (F0 m pc ls rest) "java/lang/ArrayIndexOutOfBoundsException" tx) : W p l e R s m args below meth c H locs cells slots Q (F0 m pc ls (.long x :: .int i :: .ref a :: rest)) := by
  intro T hT X
  obtain ⟨t, st, q⟩ := k _ rfl T hT X
  refine ⟨t, ?_, q⟩
  have h1 := X.lastoreOut hexec (by rw [hT]; exact hP q0 _ ha) ((hK.2 t0 _ ht).1 n (fun j => .long (f j))) (j := i) (by show (i < 0 ∨ (arrV _ _ _).slots.size ≤ _); rw [arrV_size]; exact Classical.byContradiction hout) (g := F0 m pc ls (.long x :: .int i :: .ref a :: rest)) rfl (rest := rest) rfl (by rw [hb]; exact hdg) t
  simp only [arrV_size] at h1
  exact h1 st
theorem vx_faldZ {D : va_G} {cl : List vw_C} {ws : va_W} {tys : List (ClassId × FieldType)} {a : Nat} (hexec : p.tables.exec = Jvm.exec) (hb : c.code = cc) (hK : va_K D cl tys s) (hP : va_P D cl ws H) (q0 t0 : Nat) {cA : ClassId} {n : Nat} {f : Nat → UInt32} (ha : ws[q0]? = some (a, .inl (cA, n, .inr (.inr (.inl f))))) (ht : tys[t0]? = some (cA, .float)) {i : Int32} (hout : ¬ vp_in i n) (hdg : decode cc pc = .ok (.faload, 1))
    (k : ∀ tx : String, tx = (toString "Index " ++ toString i ++ toString " out of bounds for length " ++ toString n : String) → vx_Note p l e R s m args below meth c H locs cells slots Q (F0 m pc ls rest) "java/lang/ArrayIndexOutOfBoundsException" tx) : W p l e R s m args below meth c H locs cells slots Q (F0 m pc ls (.int i :: .ref a :: rest)) := by
  intro T hT X
  obtain ⟨t, st, q⟩ := k _ rfl T hT X
  refine ⟨t, ?_, q⟩
  have h1 := X.faloadOut hexec (by rw [hT]; exact hP q0 _ ha) ((hK.2 t0 _ ht).1 n (fun j => .float (f j))) (j := i) (by show (i < 0 ∨ (arrV _ _ _).slots.size ≤ _); rw [arrV_size]; exact Classical.byContradiction hout) (g := F0 m pc ls (.int i :: .ref a :: rest)) rfl (rest := rest) rfl (by rw [hb]; exact hdg) t
  simp only [arrV_size] at h1
  exact h1 st
theorem vx_fastZ {D : va_G} {cl : List vw_C} {ws : va_W} {tys : List (ClassId × FieldType)} {a : Nat} (hexec : p.tables.exec = Jvm.exec) (hb : c.code = cc) (hK : va_K D cl tys s) (hP : va_P D cl ws H) (q0 t0 : Nat) {cA : ClassId} {n : Nat} {f : Nat → UInt32} (ha : ws[q0]? = some (a, .inl (cA, n, .inr (.inr (.inl f))))) (ht : tys[t0]? = some (cA, .float)) {i : Int32} {x : UInt32} (hout : ¬ vp_in i n) (hdg : decode cc pc = .ok (.fastore, 1))
    (k : ∀ tx : String, tx = (toString "Index " ++ toString i ++ toString " out of bounds for length " ++ toString n : String) → vx_Note p l e R s m args below meth c H locs cells slots Q (F0 m pc ls rest) "java/lang/ArrayIndexOutOfBoundsException" tx) : W p l e R s m args below meth c H locs cells slots Q (F0 m pc ls (.float x :: .int i :: .ref a :: rest)) := by
  intro T hT X
  obtain ⟨t, st, q⟩ := k _ rfl T hT X
  refine ⟨t, ?_, q⟩
  have h1 := X.fastoreOut hexec (by rw [hT]; exact hP q0 _ ha) ((hK.2 t0 _ ht).1 n (fun j => .float (f j))) (j := i) (by show (i < 0 ∨ (arrV _ _ _).slots.size ≤ _); rw [arrV_size]; exact Classical.byContradiction hout) (g := F0 m pc ls (.float x :: .int i :: .ref a :: rest)) rfl (rest := rest) rfl (by rw [hb]; exact hdg) t
  simp only [arrV_size] at h1
  exact h1 st
theorem vx_daldZ {D : va_G} {cl : List vw_C} {ws : va_W} {tys : List (ClassId × FieldType)} {a : Nat} (hexec : p.tables.exec = Jvm.exec) (hb : c.code = cc) (hK : va_K D cl tys s) (hP : va_P D cl ws H) (q0 t0 : Nat) {cA : ClassId} {n : Nat} {f : Nat → UInt64} (ha : ws[q0]? = some (a, .inl (cA, n, .inr (.inr (.inr (.inl f)))))) (ht : tys[t0]? = some (cA, .double)) {i : Int32} (hout : ¬ vp_in i n) (hdg : decode cc pc = .ok (.daload, 1))
    (k : ∀ tx : String, tx = (toString "Index " ++ toString i ++ toString " out of bounds for length " ++ toString n : String) → vx_Note p l e R s m args below meth c H locs cells slots Q (F0 m pc ls rest) "java/lang/ArrayIndexOutOfBoundsException" tx) : W p l e R s m args below meth c H locs cells slots Q (F0 m pc ls (.int i :: .ref a :: rest)) := by
  intro T hT X
  obtain ⟨t, st, q⟩ := k _ rfl T hT X
  refine ⟨t, ?_, q⟩
  have h1 := X.daloadOut hexec (by rw [hT]; exact hP q0 _ ha) ((hK.2 t0 _ ht).1 n (fun j => .double (f j))) (j := i) (by show (i < 0 ∨ (arrV _ _ _).slots.size ≤ _); rw [arrV_size]; exact Classical.byContradiction hout) (g := F0 m pc ls (.int i :: .ref a :: rest)) rfl (rest := rest) rfl (by rw [hb]; exact hdg) t
  simp only [arrV_size] at h1
  exact h1 st
theorem vx_dastZ {D : va_G} {cl : List vw_C} {ws : va_W} {tys : List (ClassId × FieldType)} {a : Nat} (hexec : p.tables.exec = Jvm.exec) (hb : c.code = cc) (hK : va_K D cl tys s) (hP : va_P D cl ws H) (q0 t0 : Nat) {cA : ClassId} {n : Nat} {f : Nat → UInt64} (ha : ws[q0]? = some (a, .inl (cA, n, .inr (.inr (.inr (.inl f)))))) (ht : tys[t0]? = some (cA, .double)) {i : Int32} {x : UInt64} (hout : ¬ vp_in i n) (hdg : decode cc pc = .ok (.dastore, 1))
    (k : ∀ tx : String, tx = (toString "Index " ++ toString i ++ toString " out of bounds for length " ++ toString n : String) → vx_Note p l e R s m args below meth c H locs cells slots Q (F0 m pc ls rest) "java/lang/ArrayIndexOutOfBoundsException" tx) : W p l e R s m args below meth c H locs cells slots Q (F0 m pc ls (.double x :: .int i :: .ref a :: rest)) := by
  intro T hT X
  obtain ⟨t, st, q⟩ := k _ rfl T hT X
  refine ⟨t, ?_, q⟩
  have h1 := X.dastoreOut hexec (by rw [hT]; exact hP q0 _ ha) ((hK.2 t0 _ ht).1 n (fun j => .double (f j))) (j := i) (by show (i < 0 ∨ (arrV _ _ _).slots.size ≤ _); rw [arrV_size]; exact Classical.byContradiction hout) (g := F0 m pc ls (.double x :: .int i :: .ref a :: rest)) rfl (rest := rest) rfl (by rw [hb]; exact hdg) t
  simp only [arrV_size] at h1
  exact h1 st
theorem vx_arraylengthN (hexec : p.tables.exec = Jvm.exec) (hb : c.code = cc) (hdg : decode cc pc = .ok (.arraylength, 1)) (k : vx_NoteN p l e R s m args below meth c H locs cells slots Q (F0 m pc ls rest)) : W p l e R s m args below meth c H locs cells slots Q (F0 m pc ls (.null :: rest)) := by
  intro T hT X
  obtain ⟨t, st, q⟩ := k T hT X
  exact ⟨t, X.arraylengthNull hexec (g := F0 m pc ls (.null :: rest)) rfl (rest := rest) rfl (by rw [hb]; exact hdg) t st, q⟩
theorem vx_ialoadN (hexec : p.tables.exec = Jvm.exec) (hb : c.code = cc) {i : Int32} (hdg : decode cc pc = .ok (.iaload, 1)) (k : vx_NoteN p l e R s m args below meth c H locs cells slots Q (F0 m pc ls rest)) : W p l e R s m args below meth c H locs cells slots Q (F0 m pc ls (.int i :: .null :: rest)) := by
  intro T hT X
  obtain ⟨t, st, q⟩ := k T hT X
  exact ⟨t, X.ialoadNull hexec (g := F0 m pc ls (.int i :: .null :: rest)) rfl (rest := rest) rfl (by rw [hb]; exact hdg) t st, q⟩
theorem vx_laloadN (hexec : p.tables.exec = Jvm.exec) (hb : c.code = cc) {i : Int32} (hdg : decode cc pc = .ok (.laload, 1)) (k : vx_NoteN p l e R s m args below meth c H locs cells slots Q (F0 m pc ls rest)) : W p l e R s m args below meth c H locs cells slots Q (F0 m pc ls (.int i :: .null :: rest)) := by
  intro T hT X
  obtain ⟨t, st, q⟩ := k T hT X
  exact ⟨t, X.laloadNull hexec (g := F0 m pc ls (.int i :: .null :: rest)) rfl (rest := rest) rfl (by rw [hb]; exact hdg) t st, q⟩
theorem vx_faloadN (hexec : p.tables.exec = Jvm.exec) (hb : c.code = cc) {i : Int32} (hdg : decode cc pc = .ok (.faload, 1)) (k : vx_NoteN p l e R s m args below meth c H locs cells slots Q (F0 m pc ls rest)) : W p l e R s m args below meth c H locs cells slots Q (F0 m pc ls (.int i :: .null :: rest)) := by
  intro T hT X
  obtain ⟨t, st, q⟩ := k T hT X
  exact ⟨t, X.faloadNull hexec (g := F0 m pc ls (.int i :: .null :: rest)) rfl (rest := rest) rfl (by rw [hb]; exact hdg) t st, q⟩
theorem vx_daloadN (hexec : p.tables.exec = Jvm.exec) (hb : c.code = cc) {i : Int32} (hdg : decode cc pc = .ok (.daload, 1)) (k : vx_NoteN p l e R s m args below meth c H locs cells slots Q (F0 m pc ls rest)) : W p l e R s m args below meth c H locs cells slots Q (F0 m pc ls (.int i :: .null :: rest)) := by
  intro T hT X
  obtain ⟨t, st, q⟩ := k T hT X
  exact ⟨t, X.daloadNull hexec (g := F0 m pc ls (.int i :: .null :: rest)) rfl (rest := rest) rfl (by rw [hb]; exact hdg) t st, q⟩
theorem vx_aaloadN (hexec : p.tables.exec = Jvm.exec) (hb : c.code = cc) {i : Int32} (hdg : decode cc pc = .ok (.aaload, 1)) (k : vx_NoteN p l e R s m args below meth c H locs cells slots Q (F0 m pc ls rest)) : W p l e R s m args below meth c H locs cells slots Q (F0 m pc ls (.int i :: .null :: rest)) := by
  intro T hT X
  obtain ⟨t, st, q⟩ := k T hT X
  exact ⟨t, X.aaloadNull hexec (g := F0 m pc ls (.int i :: .null :: rest)) rfl (rest := rest) rfl (by rw [hb]; exact hdg) t st, q⟩
theorem vx_baloadN (hexec : p.tables.exec = Jvm.exec) (hb : c.code = cc) {i : Int32} (hdg : decode cc pc = .ok (.baload, 1)) (k : vx_NoteN p l e R s m args below meth c H locs cells slots Q (F0 m pc ls rest)) : W p l e R s m args below meth c H locs cells slots Q (F0 m pc ls (.int i :: .null :: rest)) := by
  intro T hT X
  obtain ⟨t, st, q⟩ := k T hT X
  exact ⟨t, X.baloadNull hexec (g := F0 m pc ls (.int i :: .null :: rest)) rfl (rest := rest) rfl (by rw [hb]; exact hdg) t st, q⟩
theorem vx_caloadN (hexec : p.tables.exec = Jvm.exec) (hb : c.code = cc) {i : Int32} (hdg : decode cc pc = .ok (.caload, 1)) (k : vx_NoteN p l e R s m args below meth c H locs cells slots Q (F0 m pc ls rest)) : W p l e R s m args below meth c H locs cells slots Q (F0 m pc ls (.int i :: .null :: rest)) := by
  intro T hT X
  obtain ⟨t, st, q⟩ := k T hT X
  exact ⟨t, X.caloadNull hexec (g := F0 m pc ls (.int i :: .null :: rest)) rfl (rest := rest) rfl (by rw [hb]; exact hdg) t st, q⟩
theorem vx_saloadN (hexec : p.tables.exec = Jvm.exec) (hb : c.code = cc) {i : Int32} (hdg : decode cc pc = .ok (.saload, 1)) (k : vx_NoteN p l e R s m args below meth c H locs cells slots Q (F0 m pc ls rest)) : W p l e R s m args below meth c H locs cells slots Q (F0 m pc ls (.int i :: .null :: rest)) := by
  intro T hT X
  obtain ⟨t, st, q⟩ := k T hT X
  exact ⟨t, X.saloadNull hexec (g := F0 m pc ls (.int i :: .null :: rest)) rfl (rest := rest) rfl (by rw [hb]; exact hdg) t st, q⟩
theorem vx_iastoreN (hexec : p.tables.exec = Jvm.exec) (hb : c.code = cc) {x : Int32} {i : Int32} (hdg : decode cc pc = .ok (.iastore, 1)) (k : vx_NoteN p l e R s m args below meth c H locs cells slots Q (F0 m pc ls rest)) : W p l e R s m args below meth c H locs cells slots Q (F0 m pc ls (.int x :: .int i :: .null :: rest)) := by
  intro T hT X
  obtain ⟨t, st, q⟩ := k T hT X
  exact ⟨t, X.iastoreNull hexec (g := F0 m pc ls (.int x :: .int i :: .null :: rest)) rfl (rest := rest) rfl (by rw [hb]; exact hdg) t st, q⟩
theorem vx_lastoreN (hexec : p.tables.exec = Jvm.exec) (hb : c.code = cc) {x : Int64} {i : Int32} (hdg : decode cc pc = .ok (.lastore, 1)) (k : vx_NoteN p l e R s m args below meth c H locs cells slots Q (F0 m pc ls rest)) : W p l e R s m args below meth c H locs cells slots Q (F0 m pc ls (.long x :: .int i :: .null :: rest)) := by
  intro T hT X
  obtain ⟨t, st, q⟩ := k T hT X
  exact ⟨t, X.lastoreNull hexec (g := F0 m pc ls (.long x :: .int i :: .null :: rest)) rfl (rest := rest) rfl (by rw [hb]; exact hdg) t st, q⟩
theorem vx_fastoreN (hexec : p.tables.exec = Jvm.exec) (hb : c.code = cc) {x : UInt32} {i : Int32} (hdg : decode cc pc = .ok (.fastore, 1)) (k : vx_NoteN p l e R s m args below meth c H locs cells slots Q (F0 m pc ls rest)) : W p l e R s m args below meth c H locs cells slots Q (F0 m pc ls (.float x :: .int i :: .null :: rest)) := by
  intro T hT X
  obtain ⟨t, st, q⟩ := k T hT X
  exact ⟨t, X.fastoreNull hexec (g := F0 m pc ls (.float x :: .int i :: .null :: rest)) rfl (rest := rest) rfl (by rw [hb]; exact hdg) t st, q⟩
theorem vx_dastoreN (hexec : p.tables.exec = Jvm.exec) (hb : c.code = cc) {x : UInt64} {i : Int32} (hdg : decode cc pc = .ok (.dastore, 1)) (k : vx_NoteN p l e R s m args below meth c H locs cells slots Q (F0 m pc ls rest)) : W p l e R s m args below meth c H locs cells slots Q (F0 m pc ls (.double x :: .int i :: .null :: rest)) := by
  intro T hT X
  obtain ⟨t, st, q⟩ := k T hT X
  exact ⟨t, X.dastoreNull hexec (g := F0 m pc ls (.double x :: .int i :: .null :: rest)) rfl (rest := rest) rfl (by rw [hb]; exact hdg) t st, q⟩
theorem vx_bastoreN (hexec : p.tables.exec = Jvm.exec) (hb : c.code = cc) {x : Int32} {i : Int32} (hdg : decode cc pc = .ok (.bastore, 1)) (k : vx_NoteN p l e R s m args below meth c H locs cells slots Q (F0 m pc ls rest)) : W p l e R s m args below meth c H locs cells slots Q (F0 m pc ls (.int x :: .int i :: .null :: rest)) := by
  intro T hT X
  obtain ⟨t, st, q⟩ := k T hT X
  exact ⟨t, X.bastoreNull hexec (g := F0 m pc ls (.int x :: .int i :: .null :: rest)) rfl (rest := rest) rfl (by rw [hb]; exact hdg) t st, q⟩
theorem vx_castoreN (hexec : p.tables.exec = Jvm.exec) (hb : c.code = cc) {x : Int32} {i : Int32} (hdg : decode cc pc = .ok (.castore, 1)) (k : vx_NoteN p l e R s m args below meth c H locs cells slots Q (F0 m pc ls rest)) : W p l e R s m args below meth c H locs cells slots Q (F0 m pc ls (.int x :: .int i :: .null :: rest)) := by
  intro T hT X
  obtain ⟨t, st, q⟩ := k T hT X
  exact ⟨t, X.castoreNull hexec (g := F0 m pc ls (.int x :: .int i :: .null :: rest)) rfl (rest := rest) rfl (by rw [hb]; exact hdg) t st, q⟩
theorem vx_sastoreN (hexec : p.tables.exec = Jvm.exec) (hb : c.code = cc) {x : Int32} {i : Int32} (hdg : decode cc pc = .ok (.sastore, 1)) (k : vx_NoteN p l e R s m args below meth c H locs cells slots Q (F0 m pc ls rest)) : W p l e R s m args below meth c H locs cells slots Q (F0 m pc ls (.int x :: .int i :: .null :: rest)) := by
  intro T hT X
  obtain ⟨t, st, q⟩ := k T hT X
  exact ⟨t, X.sastoreNull hexec (g := F0 m pc ls (.int x :: .int i :: .null :: rest)) rfl (rest := rest) rfl (by rw [hb]; exact hdg) t st, q⟩
theorem vx_invokeN {own C : String} {index maxL : Nat} {y : MethodName} {bytes : ByteArray} {ret : Option FieldType} (hexec : p.tables.exec = Jvm.exec) (hb : c.code = cc) (hown : s.vm.findClass own = some m.cls) (hlink : (Cond.methodLink own index y).before args s = true) (hinst : (Cond.instanceMethod y).before args s = true) (hcode : (Cond.code y bytes maxL ret).before args s = true) (hsel : (Cond.selects C y y).before args s = true)
    (hx : y.cls ≠ "java/lang/invoke/MethodHandle" ∧ y.cls ≠ "java/lang/invoke/VarHandle") {As : List Value} (hlen : (parseMethodDescriptor y.desc).map (fun d => d.parameters.length) = some As.length) (hdg : decode cc pc = .ok (.invokevirtual index, 3))
    (k : vx_NoteN p l e R s m args below meth c H locs cells slots Q (F0 m pc ls rest)) {st0 : List Value} (hst : st0 = As.reverse ++ .null :: rest) : W p l e R s m args below meth c H locs cells slots Q (F0 m pc ls st0) := by
  intro T hT X
  obtain ⟨r0, r, hn, hrm, hstR, hsigR⟩ := va_Decl.of hinst hcode
  obtain ⟨c2, r2, m2, q1, q2, q3, q4, kP, hkP, hkPi⟩ := Cond.selects_spec hsel
  cases hn.symm.trans q3
  have hl9 : As.length = r.sig.parameters.length := by
    rw [hsigR] at hlen
    exact (Option.some.inj hlen).symm
  obtain ⟨vm', X1, st1⟩ := X.invokevirtualNull hexec hown hlink hn hrm hstR hkP hkPi hx (g := F0 m pc ls st0) rfl (argsL := As) (rest := rest) hl9 hst (by rw [hb]; exact hdg)
  obtain ⟨t, st, q⟩ := k (T.setVm vm') hT X1
  exact ⟨t, st1 t st, q⟩
theorem vx_newarrayZ {atype : ArrayType} (hexec : p.tables.exec = Jvm.exec) (hb : c.code = cc) {n : Int32} (h0 : n < 0) (hdg : decode cc pc = .ok (.newarray atype, 2)) (k : ∀ tx : String, tx = toString n → vx_Note p l e R s m args below meth c H locs cells slots Q (F0 m pc ls rest) "java/lang/NegativeArraySizeException" tx) : W p l e R s m args below meth c H locs cells slots Q (F0 m pc ls (.int n :: rest)) := by
  intro T hT X
  obtain ⟨t, st, q⟩ := k _ rfl T hT X
  exact ⟨t, X.newarrayNegative hexec (g := F0 m pc ls (.int n :: rest)) rfl h0 (rest := rest) rfl (by rw [hb]; exact hdg) t st, q⟩
end
end VXM
/-! ===== END ===== -/
end
section
/-! ===== BEGIN printed: names, fields, word lists, decode rows ===== -/
def RX0 : String := "Gridprobe$Formula"
def TX0 : u_T := fun k => match k with
  | 0 => ("Gridprobe$Formula", "kinds", "[I", true)
  | 1 => ("Gridprobe$Formula", "numbers", "[I", true)
  | 2 => ("Gridprobe$Formula", "stack", "[I", true)
  | 3 => ("Gridprobe$Formula", "parts", "I", false)
  | _ => ("Gridprobe$Formula", "formulas", "I", false)
def tyX0 : Nat → FieldType := fun k => match k with
  | 0 => .array .int
  | 1 => .array .int
  | 2 => .array .int
  | 3 => .int
  | _ => .int
abbrev wsX00 : List Cond := u_ws RX0 TX0 5
theorem nmX0 : ∀ a, a < 5 → ∀ b, b < 5 → a ≠ b → (TX0 a).2.1 ≠ (TX0 b).2.1 := by decide +kernel
theorem tyX0_ok : ∀ k, k < 5 → parseFieldDescriptor (TX0 k).2.2.1 = some (tyX0 k) := by decide +kernel
abbrev cX0_init : ByteArray := prog_2_method_1_code
def yX0_init : MethodName := ⟨RX0, "<init>", "()V"⟩
abbrev cX0_put : ByteArray := prog_2_method_2_code
def yX0_put : MethodName := ⟨RX0, "put", "(II)Z"⟩
abbrev cX0_clear : ByteArray := prog_2_method_3_code
def yX0_clear : MethodName := ⟨RX0, "clear", "()V"⟩
abbrev cX0_copyFrom : ByteArray := prog_2_method_4_code
def yX0_copyFrom : MethodName := ⟨RX0, "copyFrom", "(LGridprobe$Formula;)V"⟩
abbrev cX0_readSet : ByteArray := prog_2_method_5_code
def yX0_readSet : MethodName := ⟨RX0, "readSet", "()I"⟩
abbrev cX0_reckon : ByteArray := prog_2_method_6_code
def yX0_reckon : MethodName := ⟨RX0, "reckon", "([J)J"⟩
abbrev cX0_leaf : ByteArray := prog_2_method_7_code
def yX0_leaf : MethodName := ⟨RX0, "leaf", "(II[J)J"⟩
abbrev cX0_operate : ByteArray := prog_2_method_8_code
def yX0_operate : MethodName := ⟨RX0, "operate", "(III)J"⟩
abbrev cX0_divide : ByteArray := prog_2_method_9_code
def yX0_divide : MethodName := ⟨RX0, "divide", "(II)I"⟩
def RX1 : String := "Gridprobe$LockDesk"
def TX1 : u_T := fun k => match k with
  | 0 => ("Gridprobe$LockDesk", "owners", "[I", true)
  | 1 => ("Gridprobe$LockDesk", "lastDays", "[I", true)
  | 2 => ("Gridprobe$LockDesk", "row", "[I", true)
  | 3 => ("Gridprobe$LockDesk", "day", "I", false)
  | _ => ("Gridprobe$LockDesk", "unlockedCount", "I", false)
def tyX1 : Nat → FieldType := fun k => match k with
  | 0 => .array .int
  | 1 => .array .int
  | 2 => .array .int
  | 3 => .int
  | _ => .int
abbrev wsX10 : List Cond := u_ws RX1 TX1 5
theorem nmX1 : ∀ a, a < 5 → ∀ b, b < 5 → a ≠ b → (TX1 a).2.1 ≠ (TX1 b).2.1 := by decide +kernel
theorem tyX1_ok : ∀ k, k < 5 → parseFieldDescriptor (TX1 k).2.2.1 = some (tyX1 k) := by decide +kernel
abbrev cX1_init : ByteArray := prog_3_method_1_code
def yX1_init : MethodName := ⟨RX1, "<init>", "()V"⟩
abbrev cX1_waivedCells : ByteArray := prog_3_method_2_code
def yX1_waivedCells : MethodName := ⟨RX1, "waivedCells", "()I"⟩
abbrev cX1_keepUnlocked : ByteArray := prog_3_method_3_code
def yX1_keepUnlocked : MethodName := ⟨RX1, "keepUnlocked", "(LGridprobe$Sheet;II)V"⟩
def RX2 : String := "Gridprobe$PropertyList"
def TX2 : u_T := fun k => match k with
  | 0 => ("Gridprobe$PropertyList", "kinds", "[I", true)
  | 1 => ("Gridprobe$PropertyList", "numbers", "[I", true)
  | _ => ("Gridprobe$PropertyList", "count", "I", false)
def tyX2 : Nat → FieldType := fun k => match k with
  | 0 => .array .int
  | 1 => .array .int
  | _ => .int
abbrev wsX20 : List Cond := u_ws RX2 TX2 3
theorem nmX2 : ∀ a, a < 3 → ∀ b, b < 3 → a ≠ b → (TX2 a).2.1 ≠ (TX2 b).2.1 := by decide +kernel
theorem tyX2_ok : ∀ k, k < 3 → parseFieldDescriptor (TX2 k).2.2.1 = some (tyX2 k) := by decide +kernel
abbrev cX2_init : ByteArray := prog_4_method_1_code
def yX2_init : MethodName := ⟨RX2, "<init>", "()V"⟩
abbrev cX2_add : ByteArray := prog_4_method_2_code
def yX2_add : MethodName := ⟨RX2, "add", "(II)Z"⟩
abbrev cX2_firstBroken : ByteArray := prog_4_method_3_code
def yX2_firstBroken : MethodName := ⟨RX2, "firstBroken", "(LGridprobe$Sheet;I[I)I"⟩
abbrev cX2_holds : ByteArray := prog_4_method_4_code
def yX2_holds : MethodName := ⟨RX2, "holds", "(ILGridprobe$Sheet;I[I)Z"⟩
abbrev cX2_rises : ByteArray := prog_4_method_5_code
def yX2_rises : MethodName := ⟨RX2, "rises", "(JILGridprobe$Sheet;I[I)Z"⟩
def RX3 : String := "Gridprobe$Sheet"
def TX3 : u_T := fun k => match k with
  | 0 => ("Gridprobe$Sheet", "formulas", "[LGridprobe$Formula;", true)
  | 1 => ("Gridprobe$Sheet", "lows", "[I", true)
  | 2 => ("Gridprobe$Sheet", "highs", "[I", true)
  | 3 => ("Gridprobe$Sheet", "values", "[I", true)
  | 4 => ("Gridprobe$Sheet", "readCells", "[I", true)
  | 5 => ("Gridprobe$Sheet", "restedOn", "[I", true)
  | 6 => ("Gridprobe$Sheet", "order", "[I", true)
  | 7 => ("Gridprobe$Sheet", "reckoned", "[J", true)
  | _ => ("Gridprobe$Sheet", "inputs", "I", false)
def tyX3 : Nat → FieldType := fun k => match k with
  | 0 => .array (.object "Gridprobe$Formula")
  | 1 => .array .int
  | 2 => .array .int
  | 3 => .array .int
  | 4 => .array .int
  | 5 => .array .int
  | 6 => .array .int
  | 7 => .array .long
  | _ => .int
abbrev wsX30 : List Cond := u_ws RX3 TX3 9
theorem nmX3 : ∀ a, a < 9 → ∀ b, b < 9 → a ≠ b → (TX3 a).2.1 ≠ (TX3 b).2.1 := by decide +kernel
theorem tyX3_ok : ∀ k, k < 9 → parseFieldDescriptor (TX3 k).2.2.1 = some (tyX3 k) := by decide +kernel
abbrev cX3_init : ByteArray := prog_5_method_1_code
def yX3_init : MethodName := ⟨RX3, "<init>", "()V"⟩
abbrev cX3_isInput : ByteArray := prog_5_method_2_code
def yX3_isInput : MethodName := ⟨RX3, "isInput", "(I)Z"⟩
abbrev cX3_makeInput : ByteArray := prog_5_method_3_code
def yX3_makeInput : MethodName := ⟨RX3, "makeInput", "(III)V"⟩
abbrev cX3_makeFormula : ByteArray := prog_5_method_4_code
def yX3_makeFormula : MethodName := ⟨RX3, "makeFormula", "(ILGridprobe$Formula;)V"⟩
abbrev cX3_wouldRestOnItself : ByteArray := prog_5_method_5_code
def yX3_wouldRestOnItself : MethodName := ⟨RX3, "wouldRestOnItself", "(ILGridprobe$Formula;)Z"⟩
abbrev cX3_restedOnThrough : ByteArray := prog_5_method_6_code
def yX3_restedOnThrough : MethodName := ⟨RX3, "restedOnThrough", "(I)I"⟩
abbrev cX3_arrange : ByteArray := prog_5_method_7_code
def yX3_arrange : MethodName := ⟨RX3, "arrange", "()V"⟩
abbrev cX3_cellsRestingOn : ByteArray := prog_5_method_8_code
def yX3_cellsRestingOn : MethodName := ⟨RX3, "cellsRestingOn", "(I)I"⟩
abbrev cX3_reckon : ByteArray := prog_5_method_9_code
def yX3_reckon : MethodName := ⟨RX3, "reckon", "(I[I)J"⟩
abbrev cX3_lockedCells : ByteArray := prog_5_method_10_code
def yX3_lockedCells : MethodName := ⟨RX3, "lockedCells", "(II)I"⟩
abbrev cX3_reachedFrom : ByteArray := prog_5_method_11_code
def yX3_reachedFrom : MethodName := ⟨RX3, "reachedFrom", "(II)I"⟩
abbrev cX3_lineUpReaders : ByteArray := prog_5_method_12_code
def yX3_lineUpReaders : MethodName := ⟨RX3, "lineUpReaders", "(I[I)I"⟩
def RX4 : String := "Gridprobe$Trials"
def TX4 : u_T := fun k => match k with
  | 0 => ("Gridprobe$Trials", "row", "[I", true)
  | 1 => ("Gridprobe$Trials", "failedBy", "[I", true)
  | 2 => ("Gridprobe$Trials", "timesSmaller", "[I", true)
  | 3 => ("Gridprobe$Trials", "exampleInputs", "[I", true)
  | 4 => ("Gridprobe$Trials", "examples", "[[I", true)
  | 5 => ("Gridprobe$Trials", "passed", "I", false)
  | 6 => ("Gridprobe$Trials", "failed", "I", false)
  | _ => ("Gridprobe$Trials", "drawn", "I", false)
def tyX4 : Nat → FieldType := fun k => match k with
  | 0 => .array .int
  | 1 => .array .int
  | 2 => .array .int
  | 3 => .array .int
  | 4 => .array (.array .int)
  | 5 => .int
  | 6 => .int
  | _ => .int
abbrev wsX40 : List Cond := u_ws RX4 TX4 8
theorem nmX4 : ∀ a, a < 8 → ∀ b, b < 8 → a ≠ b → (TX4 a).2.1 ≠ (TX4 b).2.1 := by decide +kernel
theorem tyX4_ok : ∀ k, k < 8 → parseFieldDescriptor (TX4 k).2.2.1 = some (tyX4 k) := by decide +kernel
abbrev cX4_init : ByteArray := prog_6_method_1_code
def yX4_init : MethodName := ⟨RX4, "<init>", "()V"⟩
abbrev cX4_untry : ByteArray := prog_6_method_2_code
def yX4_untry : MethodName := ⟨RX4, "untry", "(I)I"⟩
abbrev cX4_run : ByteArray := prog_6_method_3_code
def yX4_run : MethodName := ⟨RX4, "run", "(LGridprobe$Sheet;LGridprobe$PropertyList;III)I"⟩
abbrev cX4_keepFailed : ByteArray := prog_6_method_4_code
def yX4_keepFailed : MethodName := ⟨RX4, "keepFailed", "(IIII)V"⟩
abbrev cX4_fillRow : ByteArray := prog_6_method_5_code
def yX4_fillRow : MethodName := ⟨RX4, "fillRow", "(ILGridprobe$Sheet;)V"⟩
abbrev cX4_rowValue : ByteArray := prog_6_method_6_code
def yX4_rowValue : MethodName := ⟨RX4, "rowValue", "(III)I"⟩
abbrev cX4_makeSmaller : ByteArray := prog_6_method_7_code
def yX4_makeSmaller : MethodName := ⟨RX4, "makeSmaller", "(ILGridprobe$PropertyList;LGridprobe$Sheet;I)I"⟩
abbrev cX4_stepSmaller : ByteArray := prog_6_method_8_code
def yX4_stepSmaller : MethodName := ⟨RX4, "stepSmaller", "(ILGridprobe$PropertyList;LGridprobe$Sheet;I)Z"⟩
def RX5 : String := "Gridprobe"
def TX5 : u_T := fun k => match k with
  | 0 => ("Gridprobe", "draft", "LGridprobe$Formula;", true)
  | 1 => ("Gridprobe", "sheet", "LGridprobe$Sheet;", true)
  | 2 => ("Gridprobe", "told", "[LGridprobe$PropertyList;", true)
  | 3 => ("Gridprobe", "trials", "LGridprobe$Trials;", true)
  | _ => ("Gridprobe", "desk", "LGridprobe$LockDesk;", true)
def tyX5 : Nat → FieldType := fun k => match k with
  | 0 => .object "Gridprobe$Formula"
  | 1 => .object "Gridprobe$Sheet"
  | 2 => .array (.object "Gridprobe$PropertyList")
  | 3 => .object "Gridprobe$Trials"
  | _ => .object "Gridprobe$LockDesk"
abbrev wsX50 : List Cond := u_ws RX5 TX5 5
theorem nmX5 : ∀ a, a < 5 → ∀ b, b < 5 → a ≠ b → (TX5 a).2.1 ≠ (TX5 b).2.1 := by decide +kernel
theorem tyX5_ok : ∀ k, k < 5 → parseFieldDescriptor (TX5 k).2.2.1 = some (tyX5 k) := by decide +kernel
abbrev cX5_init : ByteArray := prog_1_method_1_code
def yX5_init : MethodName := ⟨RX5, "<init>", "()V"⟩
abbrev cX5_number : ByteArray := prog_1_method_2_code
def yX5_number : MethodName := ⟨RX5, "number", "(I)I"⟩
abbrev cX5_cell : ByteArray := prog_1_method_3_code
def yX5_cell : MethodName := ⟨RX5, "cell", "(I)I"⟩
abbrev cX5_apply : ByteArray := prog_1_method_4_code
def yX5_apply : MethodName := ⟨RX5, "apply", "(I)I"⟩
abbrev cX5_wipe : ByteArray := prog_1_method_5_code
def yX5_wipe : MethodName := ⟨RX5, "wipe", "()I"⟩
abbrev cX5_enter : ByteArray := prog_1_method_6_code
def yX5_enter : MethodName := ⟨RX5, "enter", "(I)I"⟩
abbrev cX5_input : ByteArray := prog_1_method_7_code
def yX5_input : MethodName := ⟨RX5, "input", "(III)I"⟩
abbrev cX5_set : ByteArray := prog_1_method_8_code
def yX5_set : MethodName := ⟨RX5, "set", "(II)I"⟩
abbrev cX5_tell : ByteArray := prog_1_method_9_code
def yX5_tell : MethodName := ⟨RX5, "tell", "(III)I"⟩
abbrev cX5_drop : ByteArray := prog_1_method_10_code
def yX5_drop : MethodName := ⟨RX5, "drop", "(I)I"⟩
abbrev cX5_own : ByteArray := prog_1_method_11_code
def yX5_own : MethodName := ⟨RX5, "own", "(II)I"⟩
abbrev cX5_attempt : ByteArray := prog_1_method_12_code
def yX5_attempt : MethodName := ⟨RX5, "attempt", "(III)I"⟩
abbrev cX5_waive : ByteArray := prog_1_method_13_code
def yX5_waive : MethodName := ⟨RX5, "waive", "(III)I"⟩
abbrev cX5_pass : ByteArray := prog_1_method_14_code
def yX5_pass : MethodName := ⟨RX5, "pass", "(I)I"⟩
abbrev cX5_drafted : ByteArray := prog_1_method_15_code
def yX5_drafted : MethodName := ⟨RX5, "drafted", "()I"⟩
abbrev cX5_today : ByteArray := prog_1_method_16_code
def yX5_today : MethodName := ⟨RX5, "today", "()I"⟩
abbrev cX5_reads : ByteArray := prog_1_method_17_code
def yX5_reads : MethodName := ⟨RX5, "reads", "(I)I"⟩
abbrev cX5_rests : ByteArray := prog_1_method_18_code
def yX5_rests : MethodName := ⟨RX5, "rests", "(I)I"⟩
abbrev cX5_show : ByteArray := prog_1_method_19_code
def yX5_show : MethodName := ⟨RX5, "show", "(I)I"⟩
abbrev cX5_verdict : ByteArray := prog_1_method_20_code
def yX5_verdict : MethodName := ⟨RX5, "verdict", "(I)I"⟩
abbrev cX5_failing : ByteArray := prog_1_method_21_code
def yX5_failing : MethodName := ⟨RX5, "failing", "(I)I"⟩
abbrev cX5_example : ByteArray := prog_1_method_22_code
def yX5_example : MethodName := ⟨RX5, "example", "(II)I"⟩
abbrev cX5_smaller : ByteArray := prog_1_method_23_code
def yX5_smaller : MethodName := ⟨RX5, "smaller", "(I)I"⟩
abbrev cX5_isLocked : ByteArray := prog_1_method_24_code
def yX5_isLocked : MethodName := ⟨RX5, "isLocked", "(I)Z"⟩
abbrev cX5_isLockedByWays : ByteArray := prog_1_method_25_code
def yX5_isLockedByWays : MethodName := ⟨RX5, "isLockedByWays", "(I)Z"⟩
abbrev cX5_isMarked : ByteArray := prog_1_method_26_code
def yX5_isMarked : MethodName := ⟨RX5, "isMarked", "(I)Z"⟩
abbrev cX5_locked : ByteArray := prog_1_method_27_code
def yX5_locked : MethodName := ⟨RX5, "locked", "()I"⟩
abbrev cX5_unlocked : ByteArray := prog_1_method_28_code
def yX5_unlocked : MethodName := ⟨RX5, "unlocked", "()I"⟩
abbrev cX5_unlockedAt : ByteArray := prog_1_method_29_code
def yX5_unlockedAt : MethodName := ⟨RX5, "unlockedAt", "(I)I"⟩
abbrev cX5_needCell : ByteArray := prog_1_method_30_code
def yX5_needCell : MethodName := ⟨RX5, "needCell", "(I)V"⟩
abbrev cX5_has : ByteArray := prog_1_method_31_code
def yX5_has : MethodName := ⟨RX5, "has", "(II)Z"⟩
abbrev cX5_lockedCells : ByteArray := prog_1_method_32_code
def yX5_lockedCells : MethodName := ⟨RX5, "lockedCells", "()I"⟩
abbrev cX5_followChange : ByteArray := prog_1_method_33_code
def yX5_followChange : MethodName := ⟨RX5, "followChange", "(I)I"⟩
def RX6 : String := "GridprobeModel"
def TX6 : u_T := fun k => match k with
  | 0 => ("GridprobeModel", "thrown", "I", false)
  | 1 => ("GridprobeModel", "today", "I", false)
  | 2 => ("GridprobeModel", "draftMany", "I", false)
  | 3 => ("GridprobeModel", "formulas", "I", false)
  | 4 => ("GridprobeModel", "draftSorts", "[I", true)
  | 5 => ("GridprobeModel", "drafts", "[I", true)
  | 6 => ("GridprobeModel", "partMany", "[I", true)
  | 7 => ("GridprobeModel", "sorts", "[I", true)
  | 8 => ("GridprobeModel", "parts", "[I", true)
  | 9 => ("GridprobeModel", "lows", "[I", true)
  | 10 => ("GridprobeModel", "highs", "[I", true)
  | 11 => ("GridprobeModel", "sets", "[I", true)
  | 12 => ("GridprobeModel", "owners", "[I", true)
  | 13 => ("GridprobeModel", "propertyMany", "[I", true)
  | 14 => ("GridprobeModel", "kinds", "[I", true)
  | 15 => ("GridprobeModel", "ns", "[I", true)
  | 16 => ("GridprobeModel", "verdicts", "[I", true)
  | 17 => ("GridprobeModel", "failings", "[I", true)
  | 18 => ("GridprobeModel", "examples", "[I", true)
  | 19 => ("GridprobeModel", "examined", "[I", true)
  | 20 => ("GridprobeModel", "smallers", "[I", true)
  | 21 => ("GridprobeModel", "waivers", "[I", true)
  | 22 => ("GridprobeModel", "unlockedMany", "I", false)
  | 23 => ("GridprobeModel", "unlocked", "[I", true)
  | 24 => ("GridprobeModel", "order", "[I", true)
  | 25 => ("GridprobeModel", "values", "[I", true)
  | 26 => ("GridprobeModel", "areFaults", "[Z", true)
  | 27 => ("GridprobeModel", "row", "[I", true)
  | 28 => ("GridprobeModel", "stack", "[I", true)
  | _ => ("GridprobeModel", "stackOf", "[I", true)
def tyX6 : Nat → FieldType := fun k => match k with
  | 0 => .int
  | 1 => .int
  | 2 => .int
  | 3 => .int
  | 4 => .array .int
  | 5 => .array .int
  | 6 => .array .int
  | 7 => .array .int
  | 8 => .array .int
  | 9 => .array .int
  | 10 => .array .int
  | 11 => .array .int
  | 12 => .array .int
  | 13 => .array .int
  | 14 => .array .int
  | 15 => .array .int
  | 16 => .array .int
  | 17 => .array .int
  | 18 => .array .int
  | 19 => .array .int
  | 20 => .array .int
  | 21 => .array .int
  | 22 => .int
  | 23 => .array .int
  | 24 => .array .int
  | 25 => .array .int
  | 26 => .array .boolean
  | 27 => .array .int
  | 28 => .array .int
  | _ => .array .int
abbrev wsX60 : List Cond := u_ws RX6 TX6 30
theorem nmX6 : ∀ a, a < 30 → ∀ b, b < 30 → a ≠ b → (TX6 a).2.1 ≠ (TX6 b).2.1 := by decide +kernel
theorem tyX6_ok : ∀ k, k < 30 → parseFieldDescriptor (TX6 k).2.2.1 = some (tyX6 k) := by decide +kernel
abbrev cX6_init : ByteArray := prog_8_method_1_code
def yX6_init : MethodName := ⟨RX6, "<init>", "()V"⟩
abbrev cX6_thrown : ByteArray := prog_8_method_2_code
def yX6_thrown : MethodName := ⟨RX6, "thrown", "()I"⟩
abbrev cX6_fails : ByteArray := prog_8_method_3_code
def yX6_fails : MethodName := ⟨RX6, "fails", "(I)I"⟩
abbrev cX6_in : ByteArray := prog_8_method_4_code
def yX6_in : MethodName := ⟨RX6, "in", "(III)Z"⟩
abbrev cX6_isCell : ByteArray := prog_8_method_5_code
def yX6_isCell : MethodName := ⟨RX6, "isCell", "(I)Z"⟩
abbrev cX6_adds : ByteArray := prog_8_method_6_code
def yX6_adds : MethodName := ⟨RX6, "adds", "(III)I"⟩
abbrev cX6_number : ByteArray := prog_8_method_7_code
def yX6_number : MethodName := ⟨RX6, "number", "(I)I"⟩
abbrev cX6_cell : ByteArray := prog_8_method_8_code
def yX6_cell : MethodName := ⟨RX6, "cell", "(I)I"⟩
abbrev cX6_apply : ByteArray := prog_8_method_9_code
def yX6_apply : MethodName := ⟨RX6, "apply", "(I)I"⟩
abbrev cX6_wipe : ByteArray := prog_8_method_10_code
def yX6_wipe : MethodName := ⟨RX6, "wipe", "()I"⟩
abbrev cX6_readBy : ByteArray := prog_8_method_11_code
def yX6_readBy : MethodName := ⟨RX6, "readBy", "(I)I"⟩
abbrev cX6_under : ByteArray := prog_8_method_12_code
def yX6_under : MethodName := ⟨RX6, "under", "(I)I"⟩
abbrev cX6_orders : ByteArray := prog_8_method_13_code
def yX6_orders : MethodName := ⟨RX6, "orders", "()V"⟩
abbrev cX6_changes : ByteArray := prog_8_method_14_code
def yX6_changes : MethodName := ⟨RX6, "changes", "(I)I"⟩
abbrev cX6_enter : ByteArray := prog_8_method_15_code
def yX6_enter : MethodName := ⟨RX6, "enter", "(I)I"⟩
abbrev cX6_input : ByteArray := prog_8_method_16_code
def yX6_input : MethodName := ⟨RX6, "input", "(III)I"⟩
abbrev cX6_set : ByteArray := prog_8_method_17_code
def yX6_set : MethodName := ⟨RX6, "set", "(II)I"⟩
abbrev cX6_tell : ByteArray := prog_8_method_18_code
def yX6_tell : MethodName := ⟨RX6, "tell", "(III)I"⟩
abbrev cX6_drop : ByteArray := prog_8_method_19_code
def yX6_drop : MethodName := ⟨RX6, "drop", "(I)I"⟩
abbrev cX6_own : ByteArray := prog_8_method_20_code
def yX6_own : MethodName := ⟨RX6, "own", "(II)I"⟩
abbrev cX6_of : ByteArray := prog_8_method_21_code
def yX6_of : MethodName := ⟨RX6, "of", "(III)I"⟩
abbrev cX6_reckons : ByteArray := prog_8_method_22_code
def yX6_reckons : MethodName := ⟨RX6, "reckons", "(I)V"⟩
abbrev cX6_reckonsAll : ByteArray := prog_8_method_23_code
def yX6_reckonsAll : MethodName := ⟨RX6, "reckonsAll", "([I)V"⟩
abbrev cX6_holds : ByteArray := prog_8_method_24_code
def yX6_holds : MethodName := ⟨RX6, "holds", "(II)Z"⟩
abbrev cX6_isWaived : ByteArray := prog_8_method_25_code
def yX6_isWaived : MethodName := ⟨RX6, "isWaived", "(I)Z"⟩
abbrev cX6_locks : ByteArray := prog_8_method_26_code
def yX6_locks : MethodName := ⟨RX6, "locks", "()I"⟩
abbrev cX6_bits : ByteArray := prog_8_method_27_code
def yX6_bits : MethodName := ⟨RX6, "bits", "(I)I"⟩
abbrev cX6_shrinks : ByteArray := prog_8_method_28_code
def yX6_shrinks : MethodName := ⟨RX6, "shrinks", "(II)Z"⟩
abbrev cX6_exemplifies : ByteArray := prog_8_method_29_code
def yX6_exemplifies : MethodName := ⟨RX6, "exemplifies", "(II)V"⟩
abbrev cX6_unlocks : ByteArray := prog_8_method_30_code
def yX6_unlocks : MethodName := ⟨RX6, "unlocks", "(II)V"⟩
abbrev cX6_attempt : ByteArray := prog_8_method_31_code
def yX6_attempt : MethodName := ⟨RX6, "attempt", "(III)I"⟩
abbrev cX6_waive : ByteArray := prog_8_method_32_code
def yX6_waive : MethodName := ⟨RX6, "waive", "(III)I"⟩
abbrev cX6_pass : ByteArray := prog_8_method_33_code
def yX6_pass : MethodName := ⟨RX6, "pass", "(I)I"⟩
abbrev cX6_drafted : ByteArray := prog_8_method_34_code
def yX6_drafted : MethodName := ⟨RX6, "drafted", "()I"⟩
abbrev cX6_today : ByteArray := prog_8_method_35_code
def yX6_today : MethodName := ⟨RX6, "today", "()I"⟩
abbrev cX6_reads : ByteArray := prog_8_method_36_code
def yX6_reads : MethodName := ⟨RX6, "reads", "(I)I"⟩
abbrev cX6_rests : ByteArray := prog_8_method_37_code
def yX6_rests : MethodName := ⟨RX6, "rests", "(I)I"⟩
abbrev cX6_show : ByteArray := prog_8_method_38_code
def yX6_show : MethodName := ⟨RX6, "show", "(I)I"⟩
abbrev cX6_verdict : ByteArray := prog_8_method_39_code
def yX6_verdict : MethodName := ⟨RX6, "verdict", "(I)I"⟩
abbrev cX6_failing : ByteArray := prog_8_method_40_code
def yX6_failing : MethodName := ⟨RX6, "failing", "(I)I"⟩
abbrev cX6_example : ByteArray := prog_8_method_41_code
def yX6_example : MethodName := ⟨RX6, "example", "(II)I"⟩
abbrev cX6_smaller : ByteArray := prog_8_method_42_code
def yX6_smaller : MethodName := ⟨RX6, "smaller", "(I)I"⟩
abbrev cX6_isLocked : ByteArray := prog_8_method_43_code
def yX6_isLocked : MethodName := ⟨RX6, "isLocked", "(I)Z"⟩
abbrev cX6_isLockedByWays : ByteArray := prog_8_method_44_code
def yX6_isLockedByWays : MethodName := ⟨RX6, "isLockedByWays", "(I)Z"⟩
abbrev cX6_isMarked : ByteArray := prog_8_method_45_code
def yX6_isMarked : MethodName := ⟨RX6, "isMarked", "(I)Z"⟩
abbrev cX6_locked : ByteArray := prog_8_method_46_code
def yX6_locked : MethodName := ⟨RX6, "locked", "()I"⟩
abbrev cX6_unlocked : ByteArray := prog_8_method_47_code
def yX6_unlocked : MethodName := ⟨RX6, "unlocked", "()I"⟩
abbrev cX6_unlockedAt : ByteArray := prog_8_method_48_code
def yX6_unlockedAt : MethodName := ⟨RX6, "unlockedAt", "(I)I"⟩
def RJx145de : String := "java/io/Serializable"
def TJx145de : u_T := fun k => match k with
  | _ => ("", "", "", false)
def tyJx145de : Nat → FieldType := fun k => match k with
  | _ => .int
abbrev wsJx145de0 : List Cond := u_ws RJx145de TJx145de 0
theorem nmJx145de : ∀ a, a < 0 → ∀ b, b < 0 → a ≠ b → (TJx145de a).2.1 ≠ (TJx145de b).2.1 := by decide +kernel
theorem tyJx145de_ok : ∀ k, k < 0 → parseFieldDescriptor (TJx145de k).2.2.1 = some (tyJx145de k) := by decide +kernel
def RJx00060 : String := "java/lang/ArrayIndexOutOfBoundsException"
def TJx00060 : u_T := fun k => match k with
  | 0 => ("java/lang/Throwable", "backtrace", "Ljava/lang/Object;", false)
  | 1 => ("java/lang/Throwable", "detailMessage", "Ljava/lang/String;", false)
  | 2 => ("java/lang/Throwable", "cause", "Ljava/lang/Throwable;", false)
  | 3 => ("java/lang/Throwable", "stackTrace", "[Ljava/lang/StackTraceElement;", false)
  | 4 => ("java/lang/Throwable", "depth", "I", false)
  | _ => ("java/lang/Throwable", "suppressedExceptions", "Ljava/util/List;", false)
def tyJx00060 : Nat → FieldType := fun k => match k with
  | 0 => .object "java/lang/Object"
  | 1 => .object "java/lang/String"
  | 2 => .object "java/lang/Throwable"
  | 3 => .array (.object "java/lang/StackTraceElement")
  | 4 => .int
  | _ => .object "java/util/List"
abbrev wsJx000600 : List Cond := u_ws RJx00060 TJx00060 6
theorem nmJx00060 : ∀ a, a < 6 → ∀ b, b < 6 → a ≠ b → (TJx00060 a).2.1 ≠ (TJx00060 b).2.1 := by decide +kernel
theorem tyJx00060_ok : ∀ k, k < 6 → parseFieldDescriptor (TJx00060 k).2.2.1 = some (tyJx00060 k) := by decide +kernel
abbrev cJx00060_init_a7421 : ByteArray := prog_11_method_2_code
def yJx00060_init_a7421 : MethodName := ⟨RJx00060, "<init>", "(Ljava/lang/String;)V"⟩
def RJ6 : String := "java/lang/Integer"
def TJ6 : u_T := fun k => match k with
  | _ => ("", "", "", false)
def tyJ6 : Nat → FieldType := fun k => match k with
  | _ => .int
abbrev wsJ60 : List Cond := u_ws RJ6 TJ6 0
theorem nmJ6 : ∀ a, a < 0 → ∀ b, b < 0 → a ≠ b → (TJ6 a).2.1 ≠ (TJ6 b).2.1 := by decide +kernel
theorem tyJ6_ok : ∀ k, k < 0 → parseFieldDescriptor (TJ6 k).2.2.1 = some (tyJ6 k) := by decide +kernel
abbrev cJ6_bitCount_0f7a4 : ByteArray := prog_16_method_49_code
def yJ6_bitCount_0f7a4 : MethodName := ⟨RJ6, "bitCount", "(I)I"⟩
def RJ9 : String := "java/lang/Math"
def TJ9 : u_T := fun k => match k with
  | _ => ("", "", "", false)
def tyJ9 : Nat → FieldType := fun k => match k with
  | _ => .int
abbrev wsJ90 : List Cond := u_ws RJ9 TJ9 0
theorem nmJ9 : ∀ a, a < 0 → ∀ b, b < 0 → a ≠ b → (TJ9 a).2.1 ≠ (TJ9 b).2.1 := by decide +kernel
theorem tyJ9_ok : ∀ k, k < 0 → parseFieldDescriptor (TJ9 k).2.2.1 = some (tyJ9 k) := by decide +kernel
abbrev cJ9_floorMod_7cf53 : ByteArray := prog_17_method_50_code
def yJ9_floorMod_7cf53 : MethodName := ⟨RJ9, "floorMod", "(II)I"⟩
abbrev cJ9_max_7cf53 : ByteArray := prog_17_method_65_code
def yJ9_max_7cf53 : MethodName := ⟨RJ9, "max", "(II)I"⟩
abbrev cJ9_min_7cf53 : ByteArray := prog_17_method_69_code
def yJ9_min_7cf53 : MethodName := ⟨RJ9, "min", "(II)I"⟩
def RJ0 : String := "java/lang/String"
def TJ0 : u_T := fun k => match k with
  | 0 => ("java/lang/String", "value", "[B", true)
  | _ => ("java/lang/String", "coder", "B", true)
def tyJ0 : Nat → FieldType := fun k => match k with
  | 0 => .array .byte
  | _ => .byte
abbrev wsJ00 : List Cond := u_ws RJ0 TJ0 2
theorem nmJ0 : ∀ a, a < 2 → ∀ b, b < 2 → a ≠ b → (TJ0 a).2.1 ≠ (TJ0 b).2.1 := by decide +kernel
theorem tyJ0_ok : ∀ k, k < 2 → parseFieldDescriptor (TJ0 k).2.2.1 = some (tyJ0 k) := by decide +kernel
def RJ10 : String := "java/lang/System"
def TJ10 : u_T := fun k => match k with
  | _ => ("", "", "", false)
def tyJ10 : Nat → FieldType := fun k => match k with
  | _ => .int
abbrev wsJ100 : List Cond := u_ws RJ10 TJ10 0
theorem nmJ10 : ∀ a, a < 0 → ∀ b, b < 0 → a ≠ b → (TJ10 a).2.1 ≠ (TJ10 b).2.1 := by decide +kernel
theorem tyJ10_ok : ∀ k, k < 0 → parseFieldDescriptor (TJ10 k).2.2.1 = some (tyJ10 k) := by decide +kernel
def RL : String := "GridprobeLaw"
abbrev cL_number : ByteArray := method_3_code
def yL_number : MethodName := ⟨RL, "number", "(LGridprobe;I[J)I"⟩
abbrev cL_cell : ByteArray := method_4_code
def yL_cell : MethodName := ⟨RL, "cell", "(LGridprobe;I[J)I"⟩
abbrev cL_apply : ByteArray := method_5_code
def yL_apply : MethodName := ⟨RL, "apply", "(LGridprobe;I[J)I"⟩
abbrev cL_enter : ByteArray := method_6_code
def yL_enter : MethodName := ⟨RL, "enter", "(LGridprobe;I[J)I"⟩
abbrev cL_input : ByteArray := method_7_code
def yL_input : MethodName := ⟨RL, "input", "(LGridprobe;III[J)I"⟩
abbrev cL_set : ByteArray := method_8_code
def yL_set : MethodName := ⟨RL, "set", "(LGridprobe;II[J)I"⟩
abbrev cL_tell : ByteArray := method_9_code
def yL_tell : MethodName := ⟨RL, "tell", "(LGridprobe;III[J)I"⟩
abbrev cL_drop : ByteArray := method_10_code
def yL_drop : MethodName := ⟨RL, "drop", "(LGridprobe;I[J)I"⟩
abbrev cL_own : ByteArray := method_11_code
def yL_own : MethodName := ⟨RL, "own", "(LGridprobe;II[J)I"⟩
abbrev cL_attempt : ByteArray := method_12_code
def yL_attempt : MethodName := ⟨RL, "attempt", "(LGridprobe;III[J)I"⟩
abbrev cL_waive : ByteArray := method_13_code
def yL_waive : MethodName := ⟨RL, "waive", "(LGridprobe;III[J)I"⟩
abbrev cL_pass : ByteArray := method_14_code
def yL_pass : MethodName := ⟨RL, "pass", "(LGridprobe;I[J)I"⟩
abbrev cL_reads : ByteArray := method_15_code
def yL_reads : MethodName := ⟨RL, "reads", "(LGridprobe;I[J)I"⟩
abbrev cL_rests : ByteArray := method_16_code
def yL_rests : MethodName := ⟨RL, "rests", "(LGridprobe;I[J)I"⟩
abbrev cL_show : ByteArray := method_17_code
def yL_show : MethodName := ⟨RL, "show", "(LGridprobe;I[J)I"⟩
abbrev cL_verdict : ByteArray := method_18_code
def yL_verdict : MethodName := ⟨RL, "verdict", "(LGridprobe;I[J)I"⟩
abbrev cL_failing : ByteArray := method_19_code
def yL_failing : MethodName := ⟨RL, "failing", "(LGridprobe;I[J)I"⟩
abbrev cL_example : ByteArray := method_20_code
def yL_example : MethodName := ⟨RL, "example", "(LGridprobe;II[J)I"⟩
abbrev cL_smaller : ByteArray := method_21_code
def yL_smaller : MethodName := ⟨RL, "smaller", "(LGridprobe;I[J)I"⟩
abbrev cL_isLocked : ByteArray := method_22_code
def yL_isLocked : MethodName := ⟨RL, "isLocked", "(LGridprobe;I[J)I"⟩
abbrev cL_isLockedByWays : ByteArray := method_23_code
def yL_isLockedByWays : MethodName := ⟨RL, "isLockedByWays", "(LGridprobe;I[J)I"⟩
abbrev cL_isMarked : ByteArray := method_24_code
def yL_isMarked : MethodName := ⟨RL, "isMarked", "(LGridprobe;I[J)I"⟩
abbrev cL_unlockedAt : ByteArray := method_25_code
def yL_unlockedAt : MethodName := ⟨RL, "unlockedAt", "(LGridprobe;I[J)I"⟩
abbrev cL_law : ByteArray := code
def yL_law : MethodName := ⟨RL, "law", "([I)Z"⟩
theorem dX0_init_0 : decode cX0_init 0 = .ok (.aload_n 0, 1) := by decide +kernel
theorem dX0_init_1 : decode cX0_init 1 = .ok (.invokespecial 3, 3) := by decide +kernel
theorem dX0_init_4 : decode cX0_init 4 = .ok (.aload_n 0, 1) := by decide +kernel
theorem dX0_init_5 : decode cX0_init 5 = .ok (.bipush 12, 2) := by decide +kernel
theorem dX0_init_7 : decode cX0_init 7 = .ok (.newarray .int, 2) := by decide +kernel
theorem dX0_init_9 : decode cX0_init 9 = .ok (.putfield 9, 3) := by decide +kernel
theorem dX0_init_12 : decode cX0_init 12 = .ok (.aload_n 0, 1) := by decide +kernel
theorem dX0_init_13 : decode cX0_init 13 = .ok (.bipush 12, 2) := by decide +kernel
theorem dX0_init_15 : decode cX0_init 15 = .ok (.newarray .int, 2) := by decide +kernel
theorem dX0_init_17 : decode cX0_init 17 = .ok (.putfield 15, 3) := by decide +kernel
theorem dX0_init_20 : decode cX0_init 20 = .ok (.aload_n 0, 1) := by decide +kernel
theorem dX0_init_21 : decode cX0_init 21 = .ok (.bipush 12, 2) := by decide +kernel
theorem dX0_init_23 : decode cX0_init 23 = .ok (.newarray .int, 2) := by decide +kernel
theorem dX0_init_25 : decode cX0_init 25 = .ok (.putfield 18, 3) := by decide +kernel
theorem dX0_init_28 : decode cX0_init 28 = .ok (.return_, 1) := by decide +kernel
theorem dX0_put_0 : decode cX0_put 0 = .ok (.iload_n 1, 1) := by decide +kernel
theorem dX0_put_1 : decode cX0_put 1 = .ok (.bipush 12, 2) := by decide +kernel
theorem dX0_put_3 : decode cX0_put 3 = .ok (.if_icmp .ge 7, 3) := by decide +kernel
theorem dX0_put_6 : decode cX0_put 6 = .ok (.iconst 1, 1) := by decide +kernel
theorem dX0_put_7 : decode cX0_put 7 = .ok (.goto 4, 3) := by decide +kernel
theorem dX0_put_10 : decode cX0_put 10 = .ok (.iconst 0, 1) := by decide +kernel
theorem dX0_put_11 : decode cX0_put 11 = .ok (.istore_n 3, 1) := by decide +kernel
theorem dX0_put_12 : decode cX0_put 12 = .ok (.aload_n 0, 1) := by decide +kernel
theorem dX0_put_13 : decode cX0_put 13 = .ok (.getfield 21, 3) := by decide +kernel
theorem dX0_put_16 : decode cX0_put 16 = .ok (.bipush 12, 2) := by decide +kernel
theorem dX0_put_18 : decode cX0_put 18 = .ok (.if_icmp .ge 15, 3) := by decide +kernel
theorem dX0_put_21 : decode cX0_put 21 = .ok (.iload_n 3, 1) := by decide +kernel
theorem dX0_put_22 : decode cX0_put 22 = .ok (.ifCond .eq 13, 3) := by decide +kernel
theorem dX0_put_25 : decode cX0_put 25 = .ok (.aload_n 0, 1) := by decide +kernel
theorem dX0_put_26 : decode cX0_put 26 = .ok (.getfield 25, 3) := by decide +kernel
theorem dX0_put_29 : decode cX0_put 29 = .ok (.iconst 2, 1) := by decide +kernel
theorem dX0_put_30 : decode cX0_put 30 = .ok (.if_icmp .ge 5, 3) := by decide +kernel
theorem dX0_put_33 : decode cX0_put 33 = .ok (.iconst 0, 1) := by decide +kernel
theorem dX0_put_34 : decode cX0_put 34 = .ok (.ireturn, 1) := by decide +kernel
theorem dX0_put_35 : decode cX0_put 35 = .ok (.aload_n 0, 1) := by decide +kernel
theorem dX0_put_36 : decode cX0_put 36 = .ok (.getfield 9, 3) := by decide +kernel
theorem dX0_put_39 : decode cX0_put 39 = .ok (.aload_n 0, 1) := by decide +kernel
theorem dX0_put_40 : decode cX0_put 40 = .ok (.getfield 21, 3) := by decide +kernel
theorem dX0_put_43 : decode cX0_put 43 = .ok (.iload_n 1, 1) := by decide +kernel
theorem dX0_put_44 : decode cX0_put 44 = .ok (.iastore, 1) := by decide +kernel
theorem dX0_put_45 : decode cX0_put 45 = .ok (.aload_n 0, 1) := by decide +kernel
theorem dX0_put_46 : decode cX0_put 46 = .ok (.getfield 15, 3) := by decide +kernel
theorem dX0_put_49 : decode cX0_put 49 = .ok (.aload_n 0, 1) := by decide +kernel
theorem dX0_put_50 : decode cX0_put 50 = .ok (.getfield 21, 3) := by decide +kernel
theorem dX0_put_53 : decode cX0_put 53 = .ok (.iload_n 2, 1) := by decide +kernel
theorem dX0_put_54 : decode cX0_put 54 = .ok (.iastore, 1) := by decide +kernel
theorem dX0_put_55 : decode cX0_put 55 = .ok (.aload_n 0, 1) := by decide +kernel
theorem dX0_put_56 : decode cX0_put 56 = .ok (.dup, 1) := by decide +kernel
theorem dX0_put_57 : decode cX0_put 57 = .ok (.getfield 21, 3) := by decide +kernel
theorem dX0_put_60 : decode cX0_put 60 = .ok (.iconst 1, 1) := by decide +kernel
theorem dX0_put_61 : decode cX0_put 61 = .ok (.iadd, 1) := by decide +kernel
theorem dX0_put_62 : decode cX0_put 62 = .ok (.putfield 21, 3) := by decide +kernel
theorem dX0_put_65 : decode cX0_put 65 = .ok (.aload_n 0, 1) := by decide +kernel
theorem dX0_put_66 : decode cX0_put 66 = .ok (.dup, 1) := by decide +kernel
theorem dX0_put_67 : decode cX0_put 67 = .ok (.getfield 25, 3) := by decide +kernel
theorem dX0_put_70 : decode cX0_put 70 = .ok (.iload_n 3, 1) := by decide +kernel
theorem dX0_put_71 : decode cX0_put 71 = .ok (.ifCond .eq 7, 3) := by decide +kernel
theorem dX0_put_74 : decode cX0_put 74 = .ok (.iconst (-1), 1) := by decide +kernel
theorem dX0_put_75 : decode cX0_put 75 = .ok (.goto 4, 3) := by decide +kernel
theorem dX0_put_78 : decode cX0_put 78 = .ok (.iconst 1, 1) := by decide +kernel
theorem dX0_put_79 : decode cX0_put 79 = .ok (.iadd, 1) := by decide +kernel
theorem dX0_put_80 : decode cX0_put 80 = .ok (.putfield 25, 3) := by decide +kernel
theorem dX0_put_83 : decode cX0_put 83 = .ok (.iconst 1, 1) := by decide +kernel
theorem dX0_put_84 : decode cX0_put 84 = .ok (.ireturn, 1) := by decide +kernel
theorem dX0_clear_0 : decode cX0_clear 0 = .ok (.aload_n 0, 1) := by decide +kernel
theorem dX0_clear_1 : decode cX0_clear 1 = .ok (.iconst 0, 1) := by decide +kernel
theorem dX0_clear_2 : decode cX0_clear 2 = .ok (.putfield 21, 3) := by decide +kernel
theorem dX0_clear_5 : decode cX0_clear 5 = .ok (.aload_n 0, 1) := by decide +kernel
theorem dX0_clear_6 : decode cX0_clear 6 = .ok (.iconst 0, 1) := by decide +kernel
theorem dX0_clear_7 : decode cX0_clear 7 = .ok (.putfield 25, 3) := by decide +kernel
theorem dX0_clear_10 : decode cX0_clear 10 = .ok (.return_, 1) := by decide +kernel
theorem dX0_copyFrom_0 : decode cX0_copyFrom 0 = .ok (.aload_n 1, 1) := by decide +kernel
theorem dX0_copyFrom_1 : decode cX0_copyFrom 1 = .ok (.getfield 9, 3) := by decide +kernel
theorem dX0_copyFrom_4 : decode cX0_copyFrom 4 = .ok (.iconst 0, 1) := by decide +kernel
theorem dX0_copyFrom_5 : decode cX0_copyFrom 5 = .ok (.aload_n 0, 1) := by decide +kernel
theorem dX0_copyFrom_6 : decode cX0_copyFrom 6 = .ok (.getfield 9, 3) := by decide +kernel
theorem dX0_copyFrom_9 : decode cX0_copyFrom 9 = .ok (.iconst 0, 1) := by decide +kernel
theorem dX0_copyFrom_10 : decode cX0_copyFrom 10 = .ok (.bipush 12, 2) := by decide +kernel
theorem dX0_copyFrom_12 : decode cX0_copyFrom 12 = .ok (.invokestatic 28, 3) := by decide +kernel
theorem dX0_copyFrom_15 : decode cX0_copyFrom 15 = .ok (.aload_n 1, 1) := by decide +kernel
theorem dX0_copyFrom_16 : decode cX0_copyFrom 16 = .ok (.getfield 15, 3) := by decide +kernel
theorem dX0_copyFrom_19 : decode cX0_copyFrom 19 = .ok (.iconst 0, 1) := by decide +kernel
theorem dX0_copyFrom_20 : decode cX0_copyFrom 20 = .ok (.aload_n 0, 1) := by decide +kernel
theorem dX0_copyFrom_21 : decode cX0_copyFrom 21 = .ok (.getfield 15, 3) := by decide +kernel
theorem dX0_copyFrom_24 : decode cX0_copyFrom 24 = .ok (.iconst 0, 1) := by decide +kernel
theorem dX0_copyFrom_25 : decode cX0_copyFrom 25 = .ok (.bipush 12, 2) := by decide +kernel
theorem dX0_copyFrom_27 : decode cX0_copyFrom 27 = .ok (.invokestatic 28, 3) := by decide +kernel
theorem dX0_copyFrom_30 : decode cX0_copyFrom 30 = .ok (.aload_n 0, 1) := by decide +kernel
theorem dX0_copyFrom_31 : decode cX0_copyFrom 31 = .ok (.aload_n 1, 1) := by decide +kernel
theorem dX0_copyFrom_32 : decode cX0_copyFrom 32 = .ok (.getfield 21, 3) := by decide +kernel
theorem dX0_copyFrom_35 : decode cX0_copyFrom 35 = .ok (.putfield 21, 3) := by decide +kernel
theorem dX0_copyFrom_38 : decode cX0_copyFrom 38 = .ok (.aload_n 0, 1) := by decide +kernel
theorem dX0_copyFrom_39 : decode cX0_copyFrom 39 = .ok (.aload_n 1, 1) := by decide +kernel
theorem dX0_copyFrom_40 : decode cX0_copyFrom 40 = .ok (.getfield 25, 3) := by decide +kernel
theorem dX0_copyFrom_43 : decode cX0_copyFrom 43 = .ok (.putfield 25, 3) := by decide +kernel
theorem dX0_copyFrom_46 : decode cX0_copyFrom 46 = .ok (.return_, 1) := by decide +kernel
theorem dX0_readSet_0 : decode cX0_readSet 0 = .ok (.iconst 0, 1) := by decide +kernel
theorem dX0_readSet_1 : decode cX0_readSet 1 = .ok (.istore_n 1, 1) := by decide +kernel
theorem dX0_readSet_2 : decode cX0_readSet 2 = .ok (.iconst 0, 1) := by decide +kernel
theorem dX0_readSet_3 : decode cX0_readSet 3 = .ok (.istore_n 2, 1) := by decide +kernel
theorem dX0_readSet_4 : decode cX0_readSet 4 = .ok (.iload_n 2, 1) := by decide +kernel
theorem dX0_readSet_5 : decode cX0_readSet 5 = .ok (.aload_n 0, 1) := by decide +kernel
theorem dX0_readSet_6 : decode cX0_readSet 6 = .ok (.getfield 21, 3) := by decide +kernel
theorem dX0_readSet_9 : decode cX0_readSet 9 = .ok (.if_icmp .ge 31, 3) := by decide +kernel
theorem dX0_readSet_12 : decode cX0_readSet 12 = .ok (.aload_n 0, 1) := by decide +kernel
theorem dX0_readSet_13 : decode cX0_readSet 13 = .ok (.getfield 9, 3) := by decide +kernel
theorem dX0_readSet_16 : decode cX0_readSet 16 = .ok (.iload_n 2, 1) := by decide +kernel
theorem dX0_readSet_17 : decode cX0_readSet 17 = .ok (.iaload, 1) := by decide +kernel
theorem dX0_readSet_18 : decode cX0_readSet 18 = .ok (.bipush 13, 2) := by decide +kernel
theorem dX0_readSet_20 : decode cX0_readSet 20 = .ok (.if_icmp .ne 14, 3) := by decide +kernel
theorem dX0_readSet_23 : decode cX0_readSet 23 = .ok (.iload_n 1, 1) := by decide +kernel
theorem dX0_readSet_24 : decode cX0_readSet 24 = .ok (.iconst 1, 1) := by decide +kernel
theorem dX0_readSet_25 : decode cX0_readSet 25 = .ok (.aload_n 0, 1) := by decide +kernel
theorem dX0_readSet_26 : decode cX0_readSet 26 = .ok (.getfield 15, 3) := by decide +kernel
theorem dX0_readSet_29 : decode cX0_readSet 29 = .ok (.iload_n 2, 1) := by decide +kernel
theorem dX0_readSet_30 : decode cX0_readSet 30 = .ok (.iaload, 1) := by decide +kernel
theorem dX0_readSet_31 : decode cX0_readSet 31 = .ok (.ishl, 1) := by decide +kernel
theorem dX0_readSet_32 : decode cX0_readSet 32 = .ok (.ior, 1) := by decide +kernel
theorem dX0_readSet_33 : decode cX0_readSet 33 = .ok (.istore_n 1, 1) := by decide +kernel
theorem dX0_readSet_34 : decode cX0_readSet 34 = .ok (.iinc 2 1, 3) := by decide +kernel
theorem dX0_readSet_37 : decode cX0_readSet 37 = .ok (.goto (-33), 3) := by decide +kernel
theorem dX0_readSet_40 : decode cX0_readSet 40 = .ok (.iload_n 1, 1) := by decide +kernel
theorem dX0_readSet_41 : decode cX0_readSet 41 = .ok (.ireturn, 1) := by decide +kernel
theorem dX0_reckon_0 : decode cX0_reckon 0 = .ok (.iconst 0, 1) := by decide +kernel
theorem dX0_reckon_1 : decode cX0_reckon 1 = .ok (.istore_n 2, 1) := by decide +kernel
theorem dX0_reckon_2 : decode cX0_reckon 2 = .ok (.iconst 0, 1) := by decide +kernel
theorem dX0_reckon_3 : decode cX0_reckon 3 = .ok (.istore_n 3, 1) := by decide +kernel
theorem dX0_reckon_4 : decode cX0_reckon 4 = .ok (.iload_n 3, 1) := by decide +kernel
theorem dX0_reckon_5 : decode cX0_reckon 5 = .ok (.aload_n 0, 1) := by decide +kernel
theorem dX0_reckon_6 : decode cX0_reckon 6 = .ok (.getfield 21, 3) := by decide +kernel
theorem dX0_reckon_9 : decode cX0_reckon 9 = .ok (.if_icmp .ge 118, 3) := by decide +kernel
theorem dX0_reckon_12 : decode cX0_reckon 12 = .ok (.aload_n 0, 1) := by decide +kernel
theorem dX0_reckon_13 : decode cX0_reckon 13 = .ok (.getfield 9, 3) := by decide +kernel
theorem dX0_reckon_16 : decode cX0_reckon 16 = .ok (.iload_n 3, 1) := by decide +kernel
theorem dX0_reckon_17 : decode cX0_reckon 17 = .ok (.iaload, 1) := by decide +kernel
theorem dX0_reckon_18 : decode cX0_reckon 18 = .ok (.bipush 12, 2) := by decide +kernel
theorem dX0_reckon_20 : decode cX0_reckon 20 = .ok (.if_icmp .lt 24, 3) := by decide +kernel
theorem dX0_reckon_23 : decode cX0_reckon 23 = .ok (.aload_n 0, 1) := by decide +kernel
theorem dX0_reckon_24 : decode cX0_reckon 24 = .ok (.getfield 9, 3) := by decide +kernel
theorem dX0_reckon_27 : decode cX0_reckon 27 = .ok (.iload_n 3, 1) := by decide +kernel
theorem dX0_reckon_28 : decode cX0_reckon 28 = .ok (.iaload, 1) := by decide +kernel
theorem dX0_reckon_29 : decode cX0_reckon 29 = .ok (.aload_n 0, 1) := by decide +kernel
theorem dX0_reckon_30 : decode cX0_reckon 30 = .ok (.getfield 15, 3) := by decide +kernel
theorem dX0_reckon_33 : decode cX0_reckon 33 = .ok (.iload_n 3, 1) := by decide +kernel
theorem dX0_reckon_34 : decode cX0_reckon 34 = .ok (.iaload, 1) := by decide +kernel
theorem dX0_reckon_35 : decode cX0_reckon 35 = .ok (.aload_n 1, 1) := by decide +kernel
theorem dX0_reckon_36 : decode cX0_reckon 36 = .ok (.invokestatic 34, 3) := by decide +kernel
theorem dX0_reckon_39 : decode cX0_reckon 39 = .ok (.lstore 4, 2) := by decide +kernel
theorem dX0_reckon_41 : decode cX0_reckon 41 = .ok (.goto 49, 3) := by decide +kernel
theorem dX0_reckon_44 : decode cX0_reckon 44 = .ok (.iload_n 2, 1) := by decide +kernel
theorem dX0_reckon_45 : decode cX0_reckon 45 = .ok (.iconst 2, 1) := by decide +kernel
theorem dX0_reckon_46 : decode cX0_reckon 46 = .ok (.if_icmp .lt 40, 3) := by decide +kernel
theorem dX0_reckon_49 : decode cX0_reckon 49 = .ok (.iload_n 2, 1) := by decide +kernel
theorem dX0_reckon_50 : decode cX0_reckon 50 = .ok (.bipush 12, 2) := by decide +kernel
theorem dX0_reckon_52 : decode cX0_reckon 52 = .ok (.if_icmp .gt 34, 3) := by decide +kernel
theorem dX0_reckon_55 : decode cX0_reckon 55 = .ok (.iinc 2 (-2), 3) := by decide +kernel
theorem dX0_reckon_58 : decode cX0_reckon 58 = .ok (.aload_n 0, 1) := by decide +kernel
theorem dX0_reckon_59 : decode cX0_reckon 59 = .ok (.getfield 9, 3) := by decide +kernel
theorem dX0_reckon_62 : decode cX0_reckon 62 = .ok (.iload_n 3, 1) := by decide +kernel
theorem dX0_reckon_63 : decode cX0_reckon 63 = .ok (.iaload, 1) := by decide +kernel
theorem dX0_reckon_64 : decode cX0_reckon 64 = .ok (.aload_n 0, 1) := by decide +kernel
theorem dX0_reckon_65 : decode cX0_reckon 65 = .ok (.getfield 18, 3) := by decide +kernel
theorem dX0_reckon_68 : decode cX0_reckon 68 = .ok (.iload_n 2, 1) := by decide +kernel
theorem dX0_reckon_69 : decode cX0_reckon 69 = .ok (.iaload, 1) := by decide +kernel
theorem dX0_reckon_70 : decode cX0_reckon 70 = .ok (.aload_n 0, 1) := by decide +kernel
theorem dX0_reckon_71 : decode cX0_reckon 71 = .ok (.getfield 18, 3) := by decide +kernel
theorem dX0_reckon_74 : decode cX0_reckon 74 = .ok (.iload_n 2, 1) := by decide +kernel
theorem dX0_reckon_75 : decode cX0_reckon 75 = .ok (.iconst 1, 1) := by decide +kernel
theorem dX0_reckon_76 : decode cX0_reckon 76 = .ok (.iadd, 1) := by decide +kernel
theorem dX0_reckon_77 : decode cX0_reckon 77 = .ok (.iaload, 1) := by decide +kernel
theorem dX0_reckon_78 : decode cX0_reckon 78 = .ok (.invokestatic 38, 3) := by decide +kernel
theorem dX0_reckon_81 : decode cX0_reckon 81 = .ok (.lstore 4, 2) := by decide +kernel
theorem dX0_reckon_83 : decode cX0_reckon 83 = .ok (.goto 7, 3) := by decide +kernel
theorem dX0_reckon_86 : decode cX0_reckon 86 = .ok (.ldc2_w 42, 3) := by decide +kernel
theorem dX0_reckon_89 : decode cX0_reckon 89 = .ok (.lreturn, 1) := by decide +kernel
theorem dX0_reckon_90 : decode cX0_reckon 90 = .ok (.lload 4, 2) := by decide +kernel
theorem dX0_reckon_92 : decode cX0_reckon 92 = .ok (.ldc2_w 42, 3) := by decide +kernel
theorem dX0_reckon_95 : decode cX0_reckon 95 = .ok (.lcmp, 1) := by decide +kernel
theorem dX0_reckon_96 : decode cX0_reckon 96 = .ok (.ifCond .eq 9, 3) := by decide +kernel
theorem dX0_reckon_99 : decode cX0_reckon 99 = .ok (.iload_n 2, 1) := by decide +kernel
theorem dX0_reckon_100 : decode cX0_reckon 100 = .ok (.bipush 12, 2) := by decide +kernel
theorem dX0_reckon_102 : decode cX0_reckon 102 = .ok (.if_icmp .lt 7, 3) := by decide +kernel
theorem dX0_reckon_105 : decode cX0_reckon 105 = .ok (.ldc2_w 42, 3) := by decide +kernel
theorem dX0_reckon_108 : decode cX0_reckon 108 = .ok (.lreturn, 1) := by decide +kernel
theorem dX0_reckon_109 : decode cX0_reckon 109 = .ok (.aload_n 0, 1) := by decide +kernel
theorem dX0_reckon_110 : decode cX0_reckon 110 = .ok (.getfield 18, 3) := by decide +kernel
theorem dX0_reckon_113 : decode cX0_reckon 113 = .ok (.iload_n 2, 1) := by decide +kernel
theorem dX0_reckon_114 : decode cX0_reckon 114 = .ok (.lload 4, 2) := by decide +kernel
theorem dX0_reckon_116 : decode cX0_reckon 116 = .ok (.l2i, 1) := by decide +kernel
theorem dX0_reckon_117 : decode cX0_reckon 117 = .ok (.iastore, 1) := by decide +kernel
theorem dX0_reckon_118 : decode cX0_reckon 118 = .ok (.iinc 2 1, 3) := by decide +kernel
theorem dX0_reckon_121 : decode cX0_reckon 121 = .ok (.iinc 3 1, 3) := by decide +kernel
theorem dX0_reckon_124 : decode cX0_reckon 124 = .ok (.goto (-120), 3) := by decide +kernel
theorem dX0_reckon_127 : decode cX0_reckon 127 = .ok (.aload_n 0, 1) := by decide +kernel
theorem dX0_reckon_128 : decode cX0_reckon 128 = .ok (.getfield 18, 3) := by decide +kernel
theorem dX0_reckon_131 : decode cX0_reckon 131 = .ok (.iconst 0, 1) := by decide +kernel
theorem dX0_reckon_132 : decode cX0_reckon 132 = .ok (.iaload, 1) := by decide +kernel
theorem dX0_reckon_133 : decode cX0_reckon 133 = .ok (.i2l, 1) := by decide +kernel
theorem dX0_reckon_134 : decode cX0_reckon 134 = .ok (.lreturn, 1) := by decide +kernel
theorem dX0_leaf_0 : decode cX0_leaf 0 = .ok (.iload_n 0, 1) := by decide +kernel
theorem dX0_leaf_1 : decode cX0_leaf 1 = .ok (.bipush 12, 2) := by decide +kernel
theorem dX0_leaf_3 : decode cX0_leaf 3 = .ok (.if_icmp .ne 6, 3) := by decide +kernel
theorem dX0_leaf_6 : decode cX0_leaf 6 = .ok (.iload_n 1, 1) := by decide +kernel
theorem dX0_leaf_7 : decode cX0_leaf 7 = .ok (.i2l, 1) := by decide +kernel
theorem dX0_leaf_8 : decode cX0_leaf 8 = .ok (.lreturn, 1) := by decide +kernel
theorem dX0_leaf_9 : decode cX0_leaf 9 = .ok (.iload_n 1, 1) := by decide +kernel
theorem dX0_leaf_10 : decode cX0_leaf 10 = .ok (.ifCond .lt 15, 3) := by decide +kernel
theorem dX0_leaf_13 : decode cX0_leaf 13 = .ok (.iload_n 1, 1) := by decide +kernel
theorem dX0_leaf_14 : decode cX0_leaf 14 = .ok (.aload_n 2, 1) := by decide +kernel
theorem dX0_leaf_15 : decode cX0_leaf 15 = .ok (.arraylength, 1) := by decide +kernel
theorem dX0_leaf_16 : decode cX0_leaf 16 = .ok (.if_icmp .ge 9, 3) := by decide +kernel
theorem dX0_leaf_19 : decode cX0_leaf 19 = .ok (.aload_n 2, 1) := by decide +kernel
theorem dX0_leaf_20 : decode cX0_leaf 20 = .ok (.iload_n 1, 1) := by decide +kernel
theorem dX0_leaf_21 : decode cX0_leaf 21 = .ok (.laload, 1) := by decide +kernel
theorem dX0_leaf_22 : decode cX0_leaf 22 = .ok (.goto 6, 3) := by decide +kernel
theorem dX0_leaf_25 : decode cX0_leaf 25 = .ok (.ldc2_w 42, 3) := by decide +kernel
theorem dX0_leaf_28 : decode cX0_leaf 28 = .ok (.lreturn, 1) := by decide +kernel
theorem dX0_operate_0 : decode cX0_operate 0 = .ok (.iload_n 0, 1) := by decide +kernel
theorem dX0_operate_1 : decode cX0_operate 1 = .ok (.tableswitch 147 0 10 #[59, 64, 69, 74, 91, 98, 105, 116, 127, 132, 137], 59) := by decide +kernel
theorem dX0_operate_60 : decode cX0_operate 60 = .ok (.iload_n 1, 1) := by decide +kernel
theorem dX0_operate_61 : decode cX0_operate 61 = .ok (.iload_n 2, 1) := by decide +kernel
theorem dX0_operate_62 : decode cX0_operate 62 = .ok (.iadd, 1) := by decide +kernel
theorem dX0_operate_63 : decode cX0_operate 63 = .ok (.i2l, 1) := by decide +kernel
theorem dX0_operate_64 : decode cX0_operate 64 = .ok (.lreturn, 1) := by decide +kernel
theorem dX0_operate_65 : decode cX0_operate 65 = .ok (.iload_n 1, 1) := by decide +kernel
theorem dX0_operate_66 : decode cX0_operate 66 = .ok (.iload_n 2, 1) := by decide +kernel
theorem dX0_operate_67 : decode cX0_operate 67 = .ok (.isub, 1) := by decide +kernel
theorem dX0_operate_68 : decode cX0_operate 68 = .ok (.i2l, 1) := by decide +kernel
theorem dX0_operate_69 : decode cX0_operate 69 = .ok (.lreturn, 1) := by decide +kernel
theorem dX0_operate_70 : decode cX0_operate 70 = .ok (.iload_n 1, 1) := by decide +kernel
theorem dX0_operate_71 : decode cX0_operate 71 = .ok (.iload_n 2, 1) := by decide +kernel
theorem dX0_operate_72 : decode cX0_operate 72 = .ok (.imul, 1) := by decide +kernel
theorem dX0_operate_73 : decode cX0_operate 73 = .ok (.i2l, 1) := by decide +kernel
theorem dX0_operate_74 : decode cX0_operate 74 = .ok (.lreturn, 1) := by decide +kernel
theorem dX0_operate_75 : decode cX0_operate 75 = .ok (.iload_n 2, 1) := by decide +kernel
theorem dX0_operate_76 : decode cX0_operate 76 = .ok (.ifCond .ne 9, 3) := by decide +kernel
theorem dX0_operate_79 : decode cX0_operate 79 = .ok (.ldc2_w 42, 3) := by decide +kernel
theorem dX0_operate_82 : decode cX0_operate 82 = .ok (.goto 9, 3) := by decide +kernel
theorem dX0_operate_85 : decode cX0_operate 85 = .ok (.iload_n 1, 1) := by decide +kernel
theorem dX0_operate_86 : decode cX0_operate 86 = .ok (.iload_n 2, 1) := by decide +kernel
theorem dX0_operate_87 : decode cX0_operate 87 = .ok (.invokestatic 44, 3) := by decide +kernel
theorem dX0_operate_90 : decode cX0_operate 90 = .ok (.i2l, 1) := by decide +kernel
theorem dX0_operate_91 : decode cX0_operate 91 = .ok (.lreturn, 1) := by decide +kernel
theorem dX0_operate_92 : decode cX0_operate 92 = .ok (.iload_n 1, 1) := by decide +kernel
theorem dX0_operate_93 : decode cX0_operate 93 = .ok (.iload_n 2, 1) := by decide +kernel
theorem dX0_operate_94 : decode cX0_operate 94 = .ok (.invokestatic 48, 3) := by decide +kernel
theorem dX0_operate_97 : decode cX0_operate 97 = .ok (.i2l, 1) := by decide +kernel
theorem dX0_operate_98 : decode cX0_operate 98 = .ok (.lreturn, 1) := by decide +kernel
theorem dX0_operate_99 : decode cX0_operate 99 = .ok (.iload_n 1, 1) := by decide +kernel
theorem dX0_operate_100 : decode cX0_operate 100 = .ok (.iload_n 2, 1) := by decide +kernel
theorem dX0_operate_101 : decode cX0_operate 101 = .ok (.invokestatic 53, 3) := by decide +kernel
theorem dX0_operate_104 : decode cX0_operate 104 = .ok (.i2l, 1) := by decide +kernel
theorem dX0_operate_105 : decode cX0_operate 105 = .ok (.lreturn, 1) := by decide +kernel
theorem dX0_operate_106 : decode cX0_operate 106 = .ok (.iload_n 1, 1) := by decide +kernel
theorem dX0_operate_107 : decode cX0_operate 107 = .ok (.iload_n 2, 1) := by decide +kernel
theorem dX0_operate_108 : decode cX0_operate 108 = .ok (.if_icmp .ge 7, 3) := by decide +kernel
theorem dX0_operate_111 : decode cX0_operate 111 = .ok (.lconst 1, 1) := by decide +kernel
theorem dX0_operate_112 : decode cX0_operate 112 = .ok (.goto 4, 3) := by decide +kernel
theorem dX0_operate_115 : decode cX0_operate 115 = .ok (.lconst 0, 1) := by decide +kernel
theorem dX0_operate_116 : decode cX0_operate 116 = .ok (.lreturn, 1) := by decide +kernel
theorem dX0_operate_117 : decode cX0_operate 117 = .ok (.iload_n 1, 1) := by decide +kernel
theorem dX0_operate_118 : decode cX0_operate 118 = .ok (.iload_n 2, 1) := by decide +kernel
theorem dX0_operate_119 : decode cX0_operate 119 = .ok (.if_icmp .ne 7, 3) := by decide +kernel
theorem dX0_operate_122 : decode cX0_operate 122 = .ok (.lconst 1, 1) := by decide +kernel
theorem dX0_operate_123 : decode cX0_operate 123 = .ok (.goto 4, 3) := by decide +kernel
theorem dX0_operate_126 : decode cX0_operate 126 = .ok (.lconst 0, 1) := by decide +kernel
theorem dX0_operate_127 : decode cX0_operate 127 = .ok (.lreturn, 1) := by decide +kernel
theorem dX0_operate_128 : decode cX0_operate 128 = .ok (.iload_n 1, 1) := by decide +kernel
theorem dX0_operate_129 : decode cX0_operate 129 = .ok (.iload_n 2, 1) := by decide +kernel
theorem dX0_operate_130 : decode cX0_operate 130 = .ok (.iand, 1) := by decide +kernel
theorem dX0_operate_131 : decode cX0_operate 131 = .ok (.i2l, 1) := by decide +kernel
theorem dX0_operate_132 : decode cX0_operate 132 = .ok (.lreturn, 1) := by decide +kernel
theorem dX0_operate_133 : decode cX0_operate 133 = .ok (.iload_n 1, 1) := by decide +kernel
theorem dX0_operate_134 : decode cX0_operate 134 = .ok (.iload_n 2, 1) := by decide +kernel
theorem dX0_operate_135 : decode cX0_operate 135 = .ok (.ior, 1) := by decide +kernel
theorem dX0_operate_136 : decode cX0_operate 136 = .ok (.i2l, 1) := by decide +kernel
theorem dX0_operate_137 : decode cX0_operate 137 = .ok (.lreturn, 1) := by decide +kernel
theorem dX0_operate_138 : decode cX0_operate 138 = .ok (.iload_n 1, 1) := by decide +kernel
theorem dX0_operate_139 : decode cX0_operate 139 = .ok (.iload_n 2, 1) := by decide +kernel
theorem dX0_operate_140 : decode cX0_operate 140 = .ok (.bipush 32, 2) := by decide +kernel
theorem dX0_operate_142 : decode cX0_operate 142 = .ok (.invokestatic 56, 3) := by decide +kernel
theorem dX0_operate_145 : decode cX0_operate 145 = .ok (.ishl, 1) := by decide +kernel
theorem dX0_operate_146 : decode cX0_operate 146 = .ok (.i2l, 1) := by decide +kernel
theorem dX0_operate_147 : decode cX0_operate 147 = .ok (.lreturn, 1) := by decide +kernel
theorem dX0_operate_148 : decode cX0_operate 148 = .ok (.iload_n 1, 1) := by decide +kernel
theorem dX0_operate_149 : decode cX0_operate 149 = .ok (.iload_n 2, 1) := by decide +kernel
theorem dX0_operate_150 : decode cX0_operate 150 = .ok (.bipush 32, 2) := by decide +kernel
theorem dX0_operate_152 : decode cX0_operate 152 = .ok (.invokestatic 56, 3) := by decide +kernel
theorem dX0_operate_155 : decode cX0_operate 155 = .ok (.ishr, 1) := by decide +kernel
theorem dX0_operate_156 : decode cX0_operate 156 = .ok (.i2l, 1) := by decide +kernel
theorem dX0_operate_157 : decode cX0_operate 157 = .ok (.lreturn, 1) := by decide +kernel
theorem dX0_divide_0 : decode cX0_divide 0 = .ok (.iload_n 1, 1) := by decide +kernel
theorem dX0_divide_1 : decode cX0_divide 1 = .ok (.ifCond .ne 7, 3) := by decide +kernel
theorem dX0_divide_4 : decode cX0_divide 4 = .ok (.iconst 0, 1) := by decide +kernel
theorem dX0_divide_5 : decode cX0_divide 5 = .ok (.goto 6, 3) := by decide +kernel
theorem dX0_divide_8 : decode cX0_divide 8 = .ok (.iload_n 0, 1) := by decide +kernel
theorem dX0_divide_9 : decode cX0_divide 9 = .ok (.iload_n 1, 1) := by decide +kernel
theorem dX0_divide_10 : decode cX0_divide 10 = .ok (.idiv, 1) := by decide +kernel
theorem dX0_divide_11 : decode cX0_divide 11 = .ok (.ireturn, 1) := by decide +kernel
theorem dX1_init_0 : decode cX1_init 0 = .ok (.aload_n 0, 1) := by decide +kernel
theorem dX1_init_1 : decode cX1_init 1 = .ok (.invokespecial 3, 3) := by decide +kernel
theorem dX1_init_4 : decode cX1_init 4 = .ok (.aload_n 0, 1) := by decide +kernel
theorem dX1_init_5 : decode cX1_init 5 = .ok (.bipush 16, 2) := by decide +kernel
theorem dX1_init_7 : decode cX1_init 7 = .ok (.newarray .int, 2) := by decide +kernel
theorem dX1_init_9 : decode cX1_init 9 = .ok (.putfield 9, 3) := by decide +kernel
theorem dX1_init_12 : decode cX1_init 12 = .ok (.aload_n 0, 1) := by decide +kernel
theorem dX1_init_13 : decode cX1_init 13 = .ok (.bipush 16, 2) := by decide +kernel
theorem dX1_init_15 : decode cX1_init 15 = .ok (.newarray .int, 2) := by decide +kernel
theorem dX1_init_17 : decode cX1_init 17 = .ok (.putfield 15, 3) := by decide +kernel
theorem dX1_init_20 : decode cX1_init 20 = .ok (.aload_n 0, 1) := by decide +kernel
theorem dX1_init_21 : decode cX1_init 21 = .ok (.bipush 16, 2) := by decide +kernel
theorem dX1_init_23 : decode cX1_init 23 = .ok (.newarray .int, 2) := by decide +kernel
theorem dX1_init_25 : decode cX1_init 25 = .ok (.putfield 18, 3) := by decide +kernel
theorem dX1_init_28 : decode cX1_init 28 = .ok (.iconst 0, 1) := by decide +kernel
theorem dX1_init_29 : decode cX1_init 29 = .ok (.istore_n 1, 1) := by decide +kernel
theorem dX1_init_30 : decode cX1_init 30 = .ok (.iload_n 1, 1) := by decide +kernel
theorem dX1_init_31 : decode cX1_init 31 = .ok (.bipush 16, 2) := by decide +kernel
theorem dX1_init_33 : decode cX1_init 33 = .ok (.if_icmp .ge 16, 3) := by decide +kernel
theorem dX1_init_36 : decode cX1_init 36 = .ok (.aload_n 0, 1) := by decide +kernel
theorem dX1_init_37 : decode cX1_init 37 = .ok (.getfield 15, 3) := by decide +kernel
theorem dX1_init_40 : decode cX1_init 40 = .ok (.iload_n 1, 1) := by decide +kernel
theorem dX1_init_41 : decode cX1_init 41 = .ok (.iconst (-1), 1) := by decide +kernel
theorem dX1_init_42 : decode cX1_init 42 = .ok (.iastore, 1) := by decide +kernel
theorem dX1_init_43 : decode cX1_init 43 = .ok (.iinc 1 1, 3) := by decide +kernel
theorem dX1_init_46 : decode cX1_init 46 = .ok (.goto (-16), 3) := by decide +kernel
theorem dX1_init_49 : decode cX1_init 49 = .ok (.return_, 1) := by decide +kernel
theorem dX1_waivedCells_0 : decode cX1_waivedCells 0 = .ok (.iconst 0, 1) := by decide +kernel
theorem dX1_waivedCells_1 : decode cX1_waivedCells 1 = .ok (.istore_n 1, 1) := by decide +kernel
theorem dX1_waivedCells_2 : decode cX1_waivedCells 2 = .ok (.iconst 0, 1) := by decide +kernel
theorem dX1_waivedCells_3 : decode cX1_waivedCells 3 = .ok (.istore_n 2, 1) := by decide +kernel
theorem dX1_waivedCells_4 : decode cX1_waivedCells 4 = .ok (.iload_n 2, 1) := by decide +kernel
theorem dX1_waivedCells_5 : decode cX1_waivedCells 5 = .ok (.bipush 16, 2) := by decide +kernel
theorem dX1_waivedCells_7 : decode cX1_waivedCells 7 = .ok (.if_icmp .ge 28, 3) := by decide +kernel
theorem dX1_waivedCells_10 : decode cX1_waivedCells 10 = .ok (.aload_n 0, 1) := by decide +kernel
theorem dX1_waivedCells_11 : decode cX1_waivedCells 11 = .ok (.getfield 15, 3) := by decide +kernel
theorem dX1_waivedCells_14 : decode cX1_waivedCells 14 = .ok (.iload_n 2, 1) := by decide +kernel
theorem dX1_waivedCells_15 : decode cX1_waivedCells 15 = .ok (.iaload, 1) := by decide +kernel
theorem dX1_waivedCells_16 : decode cX1_waivedCells 16 = .ok (.aload_n 0, 1) := by decide +kernel
theorem dX1_waivedCells_17 : decode cX1_waivedCells 17 = .ok (.getfield 21, 3) := by decide +kernel
theorem dX1_waivedCells_20 : decode cX1_waivedCells 20 = .ok (.if_icmp .lt 9, 3) := by decide +kernel
theorem dX1_waivedCells_23 : decode cX1_waivedCells 23 = .ok (.iload_n 1, 1) := by decide +kernel
theorem dX1_waivedCells_24 : decode cX1_waivedCells 24 = .ok (.iconst 1, 1) := by decide +kernel
theorem dX1_waivedCells_25 : decode cX1_waivedCells 25 = .ok (.iload_n 2, 1) := by decide +kernel
theorem dX1_waivedCells_26 : decode cX1_waivedCells 26 = .ok (.ishl, 1) := by decide +kernel
theorem dX1_waivedCells_27 : decode cX1_waivedCells 27 = .ok (.ior, 1) := by decide +kernel
theorem dX1_waivedCells_28 : decode cX1_waivedCells 28 = .ok (.istore_n 1, 1) := by decide +kernel
theorem dX1_waivedCells_29 : decode cX1_waivedCells 29 = .ok (.iinc 2 1, 3) := by decide +kernel
theorem dX1_waivedCells_32 : decode cX1_waivedCells 32 = .ok (.goto (-28), 3) := by decide +kernel
theorem dX1_waivedCells_35 : decode cX1_waivedCells 35 = .ok (.iload_n 1, 1) := by decide +kernel
theorem dX1_waivedCells_36 : decode cX1_waivedCells 36 = .ok (.ireturn, 1) := by decide +kernel
theorem dX1_keepUnlocked_0 : decode cX1_keepUnlocked 0 = .ok (.aload_n 1, 1) := by decide +kernel
theorem dX1_keepUnlocked_1 : decode cX1_keepUnlocked 1 = .ok (.iload_n 2, 1) := by decide +kernel
theorem dX1_keepUnlocked_2 : decode cX1_keepUnlocked 2 = .ok (.aload_n 0, 1) := by decide +kernel
theorem dX1_keepUnlocked_3 : decode cX1_keepUnlocked 3 = .ok (.getfield 18, 3) := by decide +kernel
theorem dX1_keepUnlocked_6 : decode cX1_keepUnlocked 6 = .ok (.invokevirtual 25, 3) := by decide +kernel
theorem dX1_keepUnlocked_9 : decode cX1_keepUnlocked 9 = .ok (.istore 4, 2) := by decide +kernel
theorem dX1_keepUnlocked_11 : decode cX1_keepUnlocked 11 = .ok (.aload_n 0, 1) := by decide +kernel
theorem dX1_keepUnlocked_12 : decode cX1_keepUnlocked 12 = .ok (.iconst 0, 1) := by decide +kernel
theorem dX1_keepUnlocked_13 : decode cX1_keepUnlocked 13 = .ok (.putfield 31, 3) := by decide +kernel
theorem dX1_keepUnlocked_16 : decode cX1_keepUnlocked 16 = .ok (.iconst 0, 1) := by decide +kernel
theorem dX1_keepUnlocked_17 : decode cX1_keepUnlocked 17 = .ok (.istore 5, 2) := by decide +kernel
theorem dX1_keepUnlocked_19 : decode cX1_keepUnlocked 19 = .ok (.iload 5, 2) := by decide +kernel
theorem dX1_keepUnlocked_21 : decode cX1_keepUnlocked 21 = .ok (.iload 4, 2) := by decide +kernel
theorem dX1_keepUnlocked_23 : decode cX1_keepUnlocked 23 = .ok (.if_icmp .ge 55, 3) := by decide +kernel
theorem dX1_keepUnlocked_26 : decode cX1_keepUnlocked 26 = .ok (.iload 5, 2) := by decide +kernel
theorem dX1_keepUnlocked_28 : decode cX1_keepUnlocked 28 = .ok (.bipush 16, 2) := by decide +kernel
theorem dX1_keepUnlocked_30 : decode cX1_keepUnlocked 30 = .ok (.if_icmp .ge 48, 3) := by decide +kernel
theorem dX1_keepUnlocked_33 : decode cX1_keepUnlocked 33 = .ok (.aload_n 0, 1) := by decide +kernel
theorem dX1_keepUnlocked_34 : decode cX1_keepUnlocked 34 = .ok (.getfield 18, 3) := by decide +kernel
theorem dX1_keepUnlocked_37 : decode cX1_keepUnlocked 37 = .ok (.iload 5, 2) := by decide +kernel
theorem dX1_keepUnlocked_39 : decode cX1_keepUnlocked 39 = .ok (.iaload, 1) := by decide +kernel
theorem dX1_keepUnlocked_40 : decode cX1_keepUnlocked 40 = .ok (.istore 6, 2) := by decide +kernel
theorem dX1_keepUnlocked_42 : decode cX1_keepUnlocked 42 = .ok (.iload_n 3, 1) := by decide +kernel
theorem dX1_keepUnlocked_43 : decode cX1_keepUnlocked 43 = .ok (.iload 6, 2) := by decide +kernel
theorem dX1_keepUnlocked_45 : decode cX1_keepUnlocked 45 = .ok (.invokestatic 34, 3) := by decide +kernel
theorem dX1_keepUnlocked_48 : decode cX1_keepUnlocked 48 = .ok (.ifCond .eq 24, 3) := by decide +kernel
theorem dX1_keepUnlocked_51 : decode cX1_keepUnlocked 51 = .ok (.aload_n 0, 1) := by decide +kernel
theorem dX1_keepUnlocked_52 : decode cX1_keepUnlocked 52 = .ok (.getfield 18, 3) := by decide +kernel
theorem dX1_keepUnlocked_55 : decode cX1_keepUnlocked 55 = .ok (.aload_n 0, 1) := by decide +kernel
theorem dX1_keepUnlocked_56 : decode cX1_keepUnlocked 56 = .ok (.getfield 31, 3) := by decide +kernel
theorem dX1_keepUnlocked_59 : decode cX1_keepUnlocked 59 = .ok (.iload 6, 2) := by decide +kernel
theorem dX1_keepUnlocked_61 : decode cX1_keepUnlocked 61 = .ok (.iastore, 1) := by decide +kernel
theorem dX1_keepUnlocked_62 : decode cX1_keepUnlocked 62 = .ok (.aload_n 0, 1) := by decide +kernel
theorem dX1_keepUnlocked_63 : decode cX1_keepUnlocked 63 = .ok (.dup, 1) := by decide +kernel
theorem dX1_keepUnlocked_64 : decode cX1_keepUnlocked 64 = .ok (.getfield 31, 3) := by decide +kernel
theorem dX1_keepUnlocked_67 : decode cX1_keepUnlocked 67 = .ok (.iconst 1, 1) := by decide +kernel
theorem dX1_keepUnlocked_68 : decode cX1_keepUnlocked 68 = .ok (.iadd, 1) := by decide +kernel
theorem dX1_keepUnlocked_69 : decode cX1_keepUnlocked 69 = .ok (.putfield 31, 3) := by decide +kernel
theorem dX1_keepUnlocked_72 : decode cX1_keepUnlocked 72 = .ok (.iinc 5 1, 3) := by decide +kernel
theorem dX1_keepUnlocked_75 : decode cX1_keepUnlocked 75 = .ok (.goto (-56), 3) := by decide +kernel
theorem dX1_keepUnlocked_78 : decode cX1_keepUnlocked 78 = .ok (.return_, 1) := by decide +kernel
theorem dX2_init_0 : decode cX2_init 0 = .ok (.aload_n 0, 1) := by decide +kernel
theorem dX2_init_1 : decode cX2_init 1 = .ok (.invokespecial 3, 3) := by decide +kernel
theorem dX2_init_4 : decode cX2_init 4 = .ok (.aload_n 0, 1) := by decide +kernel
theorem dX2_init_5 : decode cX2_init 5 = .ok (.iconst 4, 1) := by decide +kernel
theorem dX2_init_6 : decode cX2_init 6 = .ok (.newarray .int, 2) := by decide +kernel
theorem dX2_init_8 : decode cX2_init 8 = .ok (.putfield 9, 3) := by decide +kernel
theorem dX2_init_11 : decode cX2_init 11 = .ok (.aload_n 0, 1) := by decide +kernel
theorem dX2_init_12 : decode cX2_init 12 = .ok (.iconst 4, 1) := by decide +kernel
theorem dX2_init_13 : decode cX2_init 13 = .ok (.newarray .int, 2) := by decide +kernel
theorem dX2_init_15 : decode cX2_init 15 = .ok (.putfield 15, 3) := by decide +kernel
theorem dX2_init_18 : decode cX2_init 18 = .ok (.return_, 1) := by decide +kernel
theorem dX2_add_0 : decode cX2_add 0 = .ok (.aload_n 0, 1) := by decide +kernel
theorem dX2_add_1 : decode cX2_add 1 = .ok (.getfield 18, 3) := by decide +kernel
theorem dX2_add_4 : decode cX2_add 4 = .ok (.iconst 4, 1) := by decide +kernel
theorem dX2_add_5 : decode cX2_add 5 = .ok (.if_icmp .lt 5, 3) := by decide +kernel
theorem dX2_add_8 : decode cX2_add 8 = .ok (.iconst 0, 1) := by decide +kernel
theorem dX2_add_9 : decode cX2_add 9 = .ok (.ireturn, 1) := by decide +kernel
theorem dX2_add_10 : decode cX2_add 10 = .ok (.aload_n 0, 1) := by decide +kernel
theorem dX2_add_11 : decode cX2_add 11 = .ok (.getfield 9, 3) := by decide +kernel
theorem dX2_add_14 : decode cX2_add 14 = .ok (.aload_n 0, 1) := by decide +kernel
theorem dX2_add_15 : decode cX2_add 15 = .ok (.getfield 18, 3) := by decide +kernel
theorem dX2_add_18 : decode cX2_add 18 = .ok (.iload_n 1, 1) := by decide +kernel
theorem dX2_add_19 : decode cX2_add 19 = .ok (.iastore, 1) := by decide +kernel
theorem dX2_add_20 : decode cX2_add 20 = .ok (.aload_n 0, 1) := by decide +kernel
theorem dX2_add_21 : decode cX2_add 21 = .ok (.getfield 15, 3) := by decide +kernel
theorem dX2_add_24 : decode cX2_add 24 = .ok (.aload_n 0, 1) := by decide +kernel
theorem dX2_add_25 : decode cX2_add 25 = .ok (.getfield 18, 3) := by decide +kernel
theorem dX2_add_28 : decode cX2_add 28 = .ok (.iload_n 2, 1) := by decide +kernel
theorem dX2_add_29 : decode cX2_add 29 = .ok (.iastore, 1) := by decide +kernel
theorem dX2_add_30 : decode cX2_add 30 = .ok (.aload_n 0, 1) := by decide +kernel
theorem dX2_add_31 : decode cX2_add 31 = .ok (.dup, 1) := by decide +kernel
theorem dX2_add_32 : decode cX2_add 32 = .ok (.getfield 18, 3) := by decide +kernel
theorem dX2_add_35 : decode cX2_add 35 = .ok (.iconst 1, 1) := by decide +kernel
theorem dX2_add_36 : decode cX2_add 36 = .ok (.iadd, 1) := by decide +kernel
theorem dX2_add_37 : decode cX2_add 37 = .ok (.putfield 18, 3) := by decide +kernel
theorem dX2_add_40 : decode cX2_add 40 = .ok (.iconst 1, 1) := by decide +kernel
theorem dX2_add_41 : decode cX2_add 41 = .ok (.ireturn, 1) := by decide +kernel
theorem dX2_firstBroken_0 : decode cX2_firstBroken 0 = .ok (.iconst 0, 1) := by decide +kernel
theorem dX2_firstBroken_1 : decode cX2_firstBroken 1 = .ok (.istore 4, 2) := by decide +kernel
theorem dX2_firstBroken_3 : decode cX2_firstBroken 3 = .ok (.iload 4, 2) := by decide +kernel
theorem dX2_firstBroken_5 : decode cX2_firstBroken 5 = .ok (.aload_n 0, 1) := by decide +kernel
theorem dX2_firstBroken_6 : decode cX2_firstBroken 6 = .ok (.getfield 18, 3) := by decide +kernel
theorem dX2_firstBroken_9 : decode cX2_firstBroken 9 = .ok (.if_icmp .ge 24, 3) := by decide +kernel
theorem dX2_firstBroken_12 : decode cX2_firstBroken 12 = .ok (.aload_n 0, 1) := by decide +kernel
theorem dX2_firstBroken_13 : decode cX2_firstBroken 13 = .ok (.iload 4, 2) := by decide +kernel
theorem dX2_firstBroken_15 : decode cX2_firstBroken 15 = .ok (.aload_n 1, 1) := by decide +kernel
theorem dX2_firstBroken_16 : decode cX2_firstBroken 16 = .ok (.iload_n 2, 1) := by decide +kernel
theorem dX2_firstBroken_17 : decode cX2_firstBroken 17 = .ok (.aload_n 3, 1) := by decide +kernel
theorem dX2_firstBroken_18 : decode cX2_firstBroken 18 = .ok (.invokevirtual 22, 3) := by decide +kernel
theorem dX2_firstBroken_21 : decode cX2_firstBroken 21 = .ok (.ifCond .ne 6, 3) := by decide +kernel
theorem dX2_firstBroken_24 : decode cX2_firstBroken 24 = .ok (.iload 4, 2) := by decide +kernel
theorem dX2_firstBroken_26 : decode cX2_firstBroken 26 = .ok (.ireturn, 1) := by decide +kernel
theorem dX2_firstBroken_27 : decode cX2_firstBroken 27 = .ok (.iinc 4 1, 3) := by decide +kernel
theorem dX2_firstBroken_30 : decode cX2_firstBroken 30 = .ok (.goto (-27), 3) := by decide +kernel
theorem dX2_firstBroken_33 : decode cX2_firstBroken 33 = .ok (.iconst (-1), 1) := by decide +kernel
theorem dX2_firstBroken_34 : decode cX2_firstBroken 34 = .ok (.ireturn, 1) := by decide +kernel
theorem dX2_holds_0 : decode cX2_holds 0 = .ok (.iload_n 1, 1) := by decide +kernel
theorem dX2_holds_1 : decode cX2_holds 1 = .ok (.ifCond .lt 11, 3) := by decide +kernel
theorem dX2_holds_4 : decode cX2_holds 4 = .ok (.iload_n 1, 1) := by decide +kernel
theorem dX2_holds_5 : decode cX2_holds 5 = .ok (.aload_n 0, 1) := by decide +kernel
theorem dX2_holds_6 : decode cX2_holds 6 = .ok (.getfield 18, 3) := by decide +kernel
theorem dX2_holds_9 : decode cX2_holds 9 = .ok (.if_icmp .lt 5, 3) := by decide +kernel
theorem dX2_holds_12 : decode cX2_holds 12 = .ok (.iconst 1, 1) := by decide +kernel
theorem dX2_holds_13 : decode cX2_holds 13 = .ok (.ireturn, 1) := by decide +kernel
theorem dX2_holds_14 : decode cX2_holds 14 = .ok (.aload_n 2, 1) := by decide +kernel
theorem dX2_holds_15 : decode cX2_holds 15 = .ok (.iload_n 3, 1) := by decide +kernel
theorem dX2_holds_16 : decode cX2_holds 16 = .ok (.aload 4, 2) := by decide +kernel
theorem dX2_holds_18 : decode cX2_holds 18 = .ok (.invokevirtual 26, 3) := by decide +kernel
theorem dX2_holds_21 : decode cX2_holds 21 = .ok (.lstore 5, 2) := by decide +kernel
theorem dX2_holds_23 : decode cX2_holds 23 = .ok (.lload 5, 2) := by decide +kernel
theorem dX2_holds_25 : decode cX2_holds 25 = .ok (.ldc2_w 32, 3) := by decide +kernel
theorem dX2_holds_28 : decode cX2_holds 28 = .ok (.lcmp, 1) := by decide +kernel
theorem dX2_holds_29 : decode cX2_holds 29 = .ok (.ifCond .ne 5, 3) := by decide +kernel
theorem dX2_holds_32 : decode cX2_holds 32 = .ok (.iconst 0, 1) := by decide +kernel
theorem dX2_holds_33 : decode cX2_holds 33 = .ok (.ireturn, 1) := by decide +kernel
theorem dX2_holds_34 : decode cX2_holds 34 = .ok (.aload_n 0, 1) := by decide +kernel
theorem dX2_holds_35 : decode cX2_holds 35 = .ok (.getfield 15, 3) := by decide +kernel
theorem dX2_holds_38 : decode cX2_holds 38 = .ok (.iload_n 1, 1) := by decide +kernel
theorem dX2_holds_39 : decode cX2_holds 39 = .ok (.iaload, 1) := by decide +kernel
theorem dX2_holds_40 : decode cX2_holds 40 = .ok (.istore 7, 2) := by decide +kernel
theorem dX2_holds_42 : decode cX2_holds 42 = .ok (.aload_n 0, 1) := by decide +kernel
theorem dX2_holds_43 : decode cX2_holds 43 = .ok (.getfield 9, 3) := by decide +kernel
theorem dX2_holds_46 : decode cX2_holds 46 = .ok (.iload_n 1, 1) := by decide +kernel
theorem dX2_holds_47 : decode cX2_holds 47 = .ok (.iaload, 1) := by decide +kernel
theorem dX2_holds_48 : decode cX2_holds 48 = .ok (.tableswitch 78 0 2 #[28, 43, 58], 28) := by decide +kernel
theorem dX2_holds_76 : decode cX2_holds 76 = .ok (.lload 5, 2) := by decide +kernel
theorem dX2_holds_78 : decode cX2_holds 78 = .ok (.iload 7, 2) := by decide +kernel
theorem dX2_holds_80 : decode cX2_holds 80 = .ok (.i2l, 1) := by decide +kernel
theorem dX2_holds_81 : decode cX2_holds 81 = .ok (.lcmp, 1) := by decide +kernel
theorem dX2_holds_82 : decode cX2_holds 82 = .ok (.ifCond .lt 7, 3) := by decide +kernel
theorem dX2_holds_85 : decode cX2_holds 85 = .ok (.iconst 1, 1) := by decide +kernel
theorem dX2_holds_86 : decode cX2_holds 86 = .ok (.goto 4, 3) := by decide +kernel
theorem dX2_holds_89 : decode cX2_holds 89 = .ok (.iconst 0, 1) := by decide +kernel
theorem dX2_holds_90 : decode cX2_holds 90 = .ok (.ireturn, 1) := by decide +kernel
theorem dX2_holds_91 : decode cX2_holds 91 = .ok (.lload 5, 2) := by decide +kernel
theorem dX2_holds_93 : decode cX2_holds 93 = .ok (.iload 7, 2) := by decide +kernel
theorem dX2_holds_95 : decode cX2_holds 95 = .ok (.i2l, 1) := by decide +kernel
theorem dX2_holds_96 : decode cX2_holds 96 = .ok (.lcmp, 1) := by decide +kernel
theorem dX2_holds_97 : decode cX2_holds 97 = .ok (.ifCond .gt 7, 3) := by decide +kernel
theorem dX2_holds_100 : decode cX2_holds 100 = .ok (.iconst 1, 1) := by decide +kernel
theorem dX2_holds_101 : decode cX2_holds 101 = .ok (.goto 4, 3) := by decide +kernel
theorem dX2_holds_104 : decode cX2_holds 104 = .ok (.iconst 0, 1) := by decide +kernel
theorem dX2_holds_105 : decode cX2_holds 105 = .ok (.ireturn, 1) := by decide +kernel
theorem dX2_holds_106 : decode cX2_holds 106 = .ok (.lload 5, 2) := by decide +kernel
theorem dX2_holds_108 : decode cX2_holds 108 = .ok (.aload_n 2, 1) := by decide +kernel
theorem dX2_holds_109 : decode cX2_holds 109 = .ok (.iload 7, 2) := by decide +kernel
theorem dX2_holds_111 : decode cX2_holds 111 = .ok (.aload 4, 2) := by decide +kernel
theorem dX2_holds_113 : decode cX2_holds 113 = .ok (.invokevirtual 26, 3) := by decide +kernel
theorem dX2_holds_116 : decode cX2_holds 116 = .ok (.lcmp, 1) := by decide +kernel
theorem dX2_holds_117 : decode cX2_holds 117 = .ok (.ifCond .ne 7, 3) := by decide +kernel
theorem dX2_holds_120 : decode cX2_holds 120 = .ok (.iconst 1, 1) := by decide +kernel
theorem dX2_holds_121 : decode cX2_holds 121 = .ok (.goto 4, 3) := by decide +kernel
theorem dX2_holds_124 : decode cX2_holds 124 = .ok (.iconst 0, 1) := by decide +kernel
theorem dX2_holds_125 : decode cX2_holds 125 = .ok (.ireturn, 1) := by decide +kernel
theorem dX2_holds_126 : decode cX2_holds 126 = .ok (.lload 5, 2) := by decide +kernel
theorem dX2_holds_128 : decode cX2_holds 128 = .ok (.iload 7, 2) := by decide +kernel
theorem dX2_holds_130 : decode cX2_holds 130 = .ok (.aload_n 2, 1) := by decide +kernel
theorem dX2_holds_131 : decode cX2_holds 131 = .ok (.iload_n 3, 1) := by decide +kernel
theorem dX2_holds_132 : decode cX2_holds 132 = .ok (.aload 4, 2) := by decide +kernel
theorem dX2_holds_134 : decode cX2_holds 134 = .ok (.invokestatic 34, 3) := by decide +kernel
theorem dX2_holds_137 : decode cX2_holds 137 = .ok (.ireturn, 1) := by decide +kernel
theorem dX2_rises_0 : decode cX2_rises 0 = .ok (.aload_n 3, 1) := by decide +kernel
theorem dX2_rises_1 : decode cX2_rises 1 = .ok (.iload_n 2, 1) := by decide +kernel
theorem dX2_rises_2 : decode cX2_rises 2 = .ok (.invokevirtual 38, 3) := by decide +kernel
theorem dX2_rises_5 : decode cX2_rises 5 = .ok (.ifCond .eq 16, 3) := by decide +kernel
theorem dX2_rises_8 : decode cX2_rises 8 = .ok (.aload 5, 2) := by decide +kernel
theorem dX2_rises_10 : decode cX2_rises 10 = .ok (.iload_n 2, 1) := by decide +kernel
theorem dX2_rises_11 : decode cX2_rises 11 = .ok (.iaload, 1) := by decide +kernel
theorem dX2_rises_12 : decode cX2_rises 12 = .ok (.aload_n 3, 1) := by decide +kernel
theorem dX2_rises_13 : decode cX2_rises 13 = .ok (.getfield 42, 3) := by decide +kernel
theorem dX2_rises_16 : decode cX2_rises 16 = .ok (.iload_n 2, 1) := by decide +kernel
theorem dX2_rises_17 : decode cX2_rises 17 = .ok (.iaload, 1) := by decide +kernel
theorem dX2_rises_18 : decode cX2_rises 18 = .ok (.if_icmp .lt 5, 3) := by decide +kernel
theorem dX2_rises_21 : decode cX2_rises 21 = .ok (.iconst 1, 1) := by decide +kernel
theorem dX2_rises_22 : decode cX2_rises 22 = .ok (.ireturn, 1) := by decide +kernel
theorem dX2_rises_23 : decode cX2_rises 23 = .ok (.aload 5, 2) := by decide +kernel
theorem dX2_rises_25 : decode cX2_rises 25 = .ok (.iload_n 2, 1) := by decide +kernel
theorem dX2_rises_26 : decode cX2_rises 26 = .ok (.dup2, 1) := by decide +kernel
theorem dX2_rises_27 : decode cX2_rises 27 = .ok (.iaload, 1) := by decide +kernel
theorem dX2_rises_28 : decode cX2_rises 28 = .ok (.iconst 1, 1) := by decide +kernel
theorem dX2_rises_29 : decode cX2_rises 29 = .ok (.iadd, 1) := by decide +kernel
theorem dX2_rises_30 : decode cX2_rises 30 = .ok (.iastore, 1) := by decide +kernel
theorem dX2_rises_31 : decode cX2_rises 31 = .ok (.aload_n 3, 1) := by decide +kernel
theorem dX2_rises_32 : decode cX2_rises 32 = .ok (.iload 4, 2) := by decide +kernel
theorem dX2_rises_34 : decode cX2_rises 34 = .ok (.aload 5, 2) := by decide +kernel
theorem dX2_rises_36 : decode cX2_rises 36 = .ok (.invokevirtual 26, 3) := by decide +kernel
theorem dX2_rises_39 : decode cX2_rises 39 = .ok (.lstore 6, 2) := by decide +kernel
theorem dX2_rises_41 : decode cX2_rises 41 = .ok (.aload 5, 2) := by decide +kernel
theorem dX2_rises_43 : decode cX2_rises 43 = .ok (.iload_n 2, 1) := by decide +kernel
theorem dX2_rises_44 : decode cX2_rises 44 = .ok (.dup2, 1) := by decide +kernel
theorem dX2_rises_45 : decode cX2_rises 45 = .ok (.iaload, 1) := by decide +kernel
theorem dX2_rises_46 : decode cX2_rises 46 = .ok (.iconst 1, 1) := by decide +kernel
theorem dX2_rises_47 : decode cX2_rises 47 = .ok (.isub, 1) := by decide +kernel
theorem dX2_rises_48 : decode cX2_rises 48 = .ok (.iastore, 1) := by decide +kernel
theorem dX2_rises_49 : decode cX2_rises 49 = .ok (.lload 6, 2) := by decide +kernel
theorem dX2_rises_51 : decode cX2_rises 51 = .ok (.ldc2_w 32, 3) := by decide +kernel
theorem dX2_rises_54 : decode cX2_rises 54 = .ok (.lcmp, 1) := by decide +kernel
theorem dX2_rises_55 : decode cX2_rises 55 = .ok (.ifCond .eq 14, 3) := by decide +kernel
theorem dX2_rises_58 : decode cX2_rises 58 = .ok (.lload 6, 2) := by decide +kernel
theorem dX2_rises_60 : decode cX2_rises 60 = .ok (.lload_n 0, 1) := by decide +kernel
theorem dX2_rises_61 : decode cX2_rises 61 = .ok (.lcmp, 1) := by decide +kernel
theorem dX2_rises_62 : decode cX2_rises 62 = .ok (.ifCond .lt 7, 3) := by decide +kernel
theorem dX2_rises_65 : decode cX2_rises 65 = .ok (.iconst 1, 1) := by decide +kernel
theorem dX2_rises_66 : decode cX2_rises 66 = .ok (.goto 4, 3) := by decide +kernel
theorem dX2_rises_69 : decode cX2_rises 69 = .ok (.iconst 0, 1) := by decide +kernel
theorem dX2_rises_70 : decode cX2_rises 70 = .ok (.ireturn, 1) := by decide +kernel
theorem dX3_init_0 : decode cX3_init 0 = .ok (.aload_n 0, 1) := by decide +kernel
theorem dX3_init_1 : decode cX3_init 1 = .ok (.invokespecial 3, 3) := by decide +kernel
theorem dX3_init_4 : decode cX3_init 4 = .ok (.aload_n 0, 1) := by decide +kernel
theorem dX3_init_5 : decode cX3_init 5 = .ok (.bipush 16, 2) := by decide +kernel
theorem dX3_init_7 : decode cX3_init 7 = .ok (.anewarray 9, 3) := by decide +kernel
theorem dX3_init_10 : decode cX3_init 10 = .ok (.putfield 11, 3) := by decide +kernel
theorem dX3_init_13 : decode cX3_init 13 = .ok (.aload_n 0, 1) := by decide +kernel
theorem dX3_init_14 : decode cX3_init 14 = .ok (.bipush 16, 2) := by decide +kernel
theorem dX3_init_16 : decode cX3_init 16 = .ok (.newarray .int, 2) := by decide +kernel
theorem dX3_init_18 : decode cX3_init 18 = .ok (.putfield 17, 3) := by decide +kernel
theorem dX3_init_21 : decode cX3_init 21 = .ok (.aload_n 0, 1) := by decide +kernel
theorem dX3_init_22 : decode cX3_init 22 = .ok (.bipush 16, 2) := by decide +kernel
theorem dX3_init_24 : decode cX3_init 24 = .ok (.newarray .int, 2) := by decide +kernel
theorem dX3_init_26 : decode cX3_init 26 = .ok (.putfield 21, 3) := by decide +kernel
theorem dX3_init_29 : decode cX3_init 29 = .ok (.aload_n 0, 1) := by decide +kernel
theorem dX3_init_30 : decode cX3_init 30 = .ok (.bipush 16, 2) := by decide +kernel
theorem dX3_init_32 : decode cX3_init 32 = .ok (.newarray .int, 2) := by decide +kernel
theorem dX3_init_34 : decode cX3_init 34 = .ok (.putfield 24, 3) := by decide +kernel
theorem dX3_init_37 : decode cX3_init 37 = .ok (.aload_n 0, 1) := by decide +kernel
theorem dX3_init_38 : decode cX3_init 38 = .ok (.bipush 16, 2) := by decide +kernel
theorem dX3_init_40 : decode cX3_init 40 = .ok (.newarray .int, 2) := by decide +kernel
theorem dX3_init_42 : decode cX3_init 42 = .ok (.putfield 27, 3) := by decide +kernel
theorem dX3_init_45 : decode cX3_init 45 = .ok (.aload_n 0, 1) := by decide +kernel
theorem dX3_init_46 : decode cX3_init 46 = .ok (.bipush 16, 2) := by decide +kernel
theorem dX3_init_48 : decode cX3_init 48 = .ok (.newarray .int, 2) := by decide +kernel
theorem dX3_init_50 : decode cX3_init 50 = .ok (.putfield 30, 3) := by decide +kernel
theorem dX3_init_53 : decode cX3_init 53 = .ok (.aload_n 0, 1) := by decide +kernel
theorem dX3_init_54 : decode cX3_init 54 = .ok (.bipush 16, 2) := by decide +kernel
theorem dX3_init_56 : decode cX3_init 56 = .ok (.newarray .int, 2) := by decide +kernel
theorem dX3_init_58 : decode cX3_init 58 = .ok (.putfield 33, 3) := by decide +kernel
theorem dX3_init_61 : decode cX3_init 61 = .ok (.aload_n 0, 1) := by decide +kernel
theorem dX3_init_62 : decode cX3_init 62 = .ok (.bipush 16, 2) := by decide +kernel
theorem dX3_init_64 : decode cX3_init 64 = .ok (.newarray .long, 2) := by decide +kernel
theorem dX3_init_66 : decode cX3_init 66 = .ok (.putfield 36, 3) := by decide +kernel
theorem dX3_init_69 : decode cX3_init 69 = .ok (.aload_n 0, 1) := by decide +kernel
theorem dX3_init_70 : decode cX3_init 70 = .ok (.ldc 40, 2) := by decide +kernel
theorem dX3_init_72 : decode cX3_init 72 = .ok (.putfield 41, 3) := by decide +kernel
theorem dX3_init_75 : decode cX3_init 75 = .ok (.iconst 0, 1) := by decide +kernel
theorem dX3_init_76 : decode cX3_init 76 = .ok (.istore_n 1, 1) := by decide +kernel
theorem dX3_init_77 : decode cX3_init 77 = .ok (.iload_n 1, 1) := by decide +kernel
theorem dX3_init_78 : decode cX3_init 78 = .ok (.bipush 16, 2) := by decide +kernel
theorem dX3_init_80 : decode cX3_init 80 = .ok (.if_icmp .ge 29, 3) := by decide +kernel
theorem dX3_init_83 : decode cX3_init 83 = .ok (.aload_n 0, 1) := by decide +kernel
theorem dX3_init_84 : decode cX3_init 84 = .ok (.getfield 11, 3) := by decide +kernel
theorem dX3_init_87 : decode cX3_init 87 = .ok (.iload_n 1, 1) := by decide +kernel
theorem dX3_init_88 : decode cX3_init 88 = .ok (.new 9, 3) := by decide +kernel
theorem dX3_init_91 : decode cX3_init 91 = .ok (.dup, 1) := by decide +kernel
theorem dX3_init_92 : decode cX3_init 92 = .ok (.invokespecial 45, 3) := by decide +kernel
theorem dX3_init_95 : decode cX3_init 95 = .ok (.aastore, 1) := by decide +kernel
theorem dX3_init_96 : decode cX3_init 96 = .ok (.aload_n 0, 1) := by decide +kernel
theorem dX3_init_97 : decode cX3_init 97 = .ok (.getfield 33, 3) := by decide +kernel
theorem dX3_init_100 : decode cX3_init 100 = .ok (.iload_n 1, 1) := by decide +kernel
theorem dX3_init_101 : decode cX3_init 101 = .ok (.iload_n 1, 1) := by decide +kernel
theorem dX3_init_102 : decode cX3_init 102 = .ok (.iastore, 1) := by decide +kernel
theorem dX3_init_103 : decode cX3_init 103 = .ok (.iinc 1 1, 3) := by decide +kernel
theorem dX3_init_106 : decode cX3_init 106 = .ok (.goto (-29), 3) := by decide +kernel
theorem dX3_init_109 : decode cX3_init 109 = .ok (.return_, 1) := by decide +kernel
theorem dX3_isInput_0 : decode cX3_isInput 0 = .ok (.aload_n 0, 1) := by decide +kernel
theorem dX3_isInput_1 : decode cX3_isInput 1 = .ok (.getfield 41, 3) := by decide +kernel
theorem dX3_isInput_4 : decode cX3_isInput 4 = .ok (.iload_n 1, 1) := by decide +kernel
theorem dX3_isInput_5 : decode cX3_isInput 5 = .ok (.invokestatic 46, 3) := by decide +kernel
theorem dX3_isInput_8 : decode cX3_isInput 8 = .ok (.ireturn, 1) := by decide +kernel
theorem dX3_makeInput_0 : decode cX3_makeInput 0 = .ok (.aload_n 0, 1) := by decide +kernel
theorem dX3_makeInput_1 : decode cX3_makeInput 1 = .ok (.dup, 1) := by decide +kernel
theorem dX3_makeInput_2 : decode cX3_makeInput 2 = .ok (.getfield 41, 3) := by decide +kernel
theorem dX3_makeInput_5 : decode cX3_makeInput 5 = .ok (.iconst 1, 1) := by decide +kernel
theorem dX3_makeInput_6 : decode cX3_makeInput 6 = .ok (.iload_n 1, 1) := by decide +kernel
theorem dX3_makeInput_7 : decode cX3_makeInput 7 = .ok (.ishl, 1) := by decide +kernel
theorem dX3_makeInput_8 : decode cX3_makeInput 8 = .ok (.ior, 1) := by decide +kernel
theorem dX3_makeInput_9 : decode cX3_makeInput 9 = .ok (.putfield 41, 3) := by decide +kernel
theorem dX3_makeInput_12 : decode cX3_makeInput 12 = .ok (.aload_n 0, 1) := by decide +kernel
theorem dX3_makeInput_13 : decode cX3_makeInput 13 = .ok (.getfield 17, 3) := by decide +kernel
theorem dX3_makeInput_16 : decode cX3_makeInput 16 = .ok (.iload_n 1, 1) := by decide +kernel
theorem dX3_makeInput_17 : decode cX3_makeInput 17 = .ok (.iload_n 2, 1) := by decide +kernel
theorem dX3_makeInput_18 : decode cX3_makeInput 18 = .ok (.iastore, 1) := by decide +kernel
theorem dX3_makeInput_19 : decode cX3_makeInput 19 = .ok (.aload_n 0, 1) := by decide +kernel
theorem dX3_makeInput_20 : decode cX3_makeInput 20 = .ok (.getfield 21, 3) := by decide +kernel
theorem dX3_makeInput_23 : decode cX3_makeInput 23 = .ok (.iload_n 1, 1) := by decide +kernel
theorem dX3_makeInput_24 : decode cX3_makeInput 24 = .ok (.iload_n 3, 1) := by decide +kernel
theorem dX3_makeInput_25 : decode cX3_makeInput 25 = .ok (.iastore, 1) := by decide +kernel
theorem dX3_makeInput_26 : decode cX3_makeInput 26 = .ok (.aload_n 0, 1) := by decide +kernel
theorem dX3_makeInput_27 : decode cX3_makeInput 27 = .ok (.getfield 24, 3) := by decide +kernel
theorem dX3_makeInput_30 : decode cX3_makeInput 30 = .ok (.iload_n 1, 1) := by decide +kernel
theorem dX3_makeInput_31 : decode cX3_makeInput 31 = .ok (.iload_n 2, 1) := by decide +kernel
theorem dX3_makeInput_32 : decode cX3_makeInput 32 = .ok (.iastore, 1) := by decide +kernel
theorem dX3_makeInput_33 : decode cX3_makeInput 33 = .ok (.aload_n 0, 1) := by decide +kernel
theorem dX3_makeInput_34 : decode cX3_makeInput 34 = .ok (.getfield 27, 3) := by decide +kernel
theorem dX3_makeInput_37 : decode cX3_makeInput 37 = .ok (.iload_n 1, 1) := by decide +kernel
theorem dX3_makeInput_38 : decode cX3_makeInput 38 = .ok (.iconst 0, 1) := by decide +kernel
theorem dX3_makeInput_39 : decode cX3_makeInput 39 = .ok (.iastore, 1) := by decide +kernel
theorem dX3_makeInput_40 : decode cX3_makeInput 40 = .ok (.aload_n 0, 1) := by decide +kernel
theorem dX3_makeInput_41 : decode cX3_makeInput 41 = .ok (.invokevirtual 50, 3) := by decide +kernel
theorem dX3_makeInput_44 : decode cX3_makeInput 44 = .ok (.return_, 1) := by decide +kernel
theorem dX3_makeFormula_0 : decode cX3_makeFormula 0 = .ok (.aload_n 0, 1) := by decide +kernel
theorem dX3_makeFormula_1 : decode cX3_makeFormula 1 = .ok (.dup, 1) := by decide +kernel
theorem dX3_makeFormula_2 : decode cX3_makeFormula 2 = .ok (.getfield 41, 3) := by decide +kernel
theorem dX3_makeFormula_5 : decode cX3_makeFormula 5 = .ok (.iconst 1, 1) := by decide +kernel
theorem dX3_makeFormula_6 : decode cX3_makeFormula 6 = .ok (.iload_n 1, 1) := by decide +kernel
theorem dX3_makeFormula_7 : decode cX3_makeFormula 7 = .ok (.ishl, 1) := by decide +kernel
theorem dX3_makeFormula_8 : decode cX3_makeFormula 8 = .ok (.iconst (-1), 1) := by decide +kernel
theorem dX3_makeFormula_9 : decode cX3_makeFormula 9 = .ok (.ixor, 1) := by decide +kernel
theorem dX3_makeFormula_10 : decode cX3_makeFormula 10 = .ok (.iand, 1) := by decide +kernel
theorem dX3_makeFormula_11 : decode cX3_makeFormula 11 = .ok (.putfield 41, 3) := by decide +kernel
theorem dX3_makeFormula_14 : decode cX3_makeFormula 14 = .ok (.aload_n 0, 1) := by decide +kernel
theorem dX3_makeFormula_15 : decode cX3_makeFormula 15 = .ok (.getfield 11, 3) := by decide +kernel
theorem dX3_makeFormula_18 : decode cX3_makeFormula 18 = .ok (.iload_n 1, 1) := by decide +kernel
theorem dX3_makeFormula_19 : decode cX3_makeFormula 19 = .ok (.aaload, 1) := by decide +kernel
theorem dX3_makeFormula_20 : decode cX3_makeFormula 20 = .ok (.aload_n 2, 1) := by decide +kernel
theorem dX3_makeFormula_21 : decode cX3_makeFormula 21 = .ok (.invokevirtual 53, 3) := by decide +kernel
theorem dX3_makeFormula_24 : decode cX3_makeFormula 24 = .ok (.aload_n 0, 1) := by decide +kernel
theorem dX3_makeFormula_25 : decode cX3_makeFormula 25 = .ok (.getfield 27, 3) := by decide +kernel
theorem dX3_makeFormula_28 : decode cX3_makeFormula 28 = .ok (.iload_n 1, 1) := by decide +kernel
theorem dX3_makeFormula_29 : decode cX3_makeFormula 29 = .ok (.aload_n 2, 1) := by decide +kernel
theorem dX3_makeFormula_30 : decode cX3_makeFormula 30 = .ok (.invokevirtual 57, 3) := by decide +kernel
theorem dX3_makeFormula_33 : decode cX3_makeFormula 33 = .ok (.iastore, 1) := by decide +kernel
theorem dX3_makeFormula_34 : decode cX3_makeFormula 34 = .ok (.aload_n 0, 1) := by decide +kernel
theorem dX3_makeFormula_35 : decode cX3_makeFormula 35 = .ok (.invokevirtual 50, 3) := by decide +kernel
theorem dX3_makeFormula_38 : decode cX3_makeFormula 38 = .ok (.return_, 1) := by decide +kernel
theorem dX3_wouldRestOnItself_0 : decode cX3_wouldRestOnItself 0 = .ok (.aload_n 0, 1) := by decide +kernel
theorem dX3_wouldRestOnItself_1 : decode cX3_wouldRestOnItself 1 = .ok (.aload_n 2, 1) := by decide +kernel
theorem dX3_wouldRestOnItself_2 : decode cX3_wouldRestOnItself 2 = .ok (.invokevirtual 57, 3) := by decide +kernel
theorem dX3_wouldRestOnItself_5 : decode cX3_wouldRestOnItself 5 = .ok (.invokevirtual 61, 3) := by decide +kernel
theorem dX3_wouldRestOnItself_8 : decode cX3_wouldRestOnItself 8 = .ok (.iload_n 1, 1) := by decide +kernel
theorem dX3_wouldRestOnItself_9 : decode cX3_wouldRestOnItself 9 = .ok (.invokestatic 46, 3) := by decide +kernel
theorem dX3_wouldRestOnItself_12 : decode cX3_wouldRestOnItself 12 = .ok (.ireturn, 1) := by decide +kernel
theorem dX3_restedOnThrough_0 : decode cX3_restedOnThrough 0 = .ok (.iload_n 1, 1) := by decide +kernel
theorem dX3_restedOnThrough_1 : decode cX3_restedOnThrough 1 = .ok (.istore_n 2, 1) := by decide +kernel
theorem dX3_restedOnThrough_2 : decode cX3_restedOnThrough 2 = .ok (.iconst 0, 1) := by decide +kernel
theorem dX3_restedOnThrough_3 : decode cX3_restedOnThrough 3 = .ok (.istore_n 3, 1) := by decide +kernel
theorem dX3_restedOnThrough_4 : decode cX3_restedOnThrough 4 = .ok (.iload_n 3, 1) := by decide +kernel
theorem dX3_restedOnThrough_5 : decode cX3_restedOnThrough 5 = .ok (.bipush 16, 2) := by decide +kernel
theorem dX3_restedOnThrough_7 : decode cX3_restedOnThrough 7 = .ok (.if_icmp .ge 26, 3) := by decide +kernel
theorem dX3_restedOnThrough_10 : decode cX3_restedOnThrough 10 = .ok (.iload_n 1, 1) := by decide +kernel
theorem dX3_restedOnThrough_11 : decode cX3_restedOnThrough 11 = .ok (.iload_n 3, 1) := by decide +kernel
theorem dX3_restedOnThrough_12 : decode cX3_restedOnThrough 12 = .ok (.invokestatic 46, 3) := by decide +kernel
theorem dX3_restedOnThrough_15 : decode cX3_restedOnThrough 15 = .ok (.ifCond .eq 12, 3) := by decide +kernel
theorem dX3_restedOnThrough_18 : decode cX3_restedOnThrough 18 = .ok (.iload_n 2, 1) := by decide +kernel
theorem dX3_restedOnThrough_19 : decode cX3_restedOnThrough 19 = .ok (.aload_n 0, 1) := by decide +kernel
theorem dX3_restedOnThrough_20 : decode cX3_restedOnThrough 20 = .ok (.getfield 30, 3) := by decide +kernel
theorem dX3_restedOnThrough_23 : decode cX3_restedOnThrough 23 = .ok (.iload_n 3, 1) := by decide +kernel
theorem dX3_restedOnThrough_24 : decode cX3_restedOnThrough 24 = .ok (.iaload, 1) := by decide +kernel
theorem dX3_restedOnThrough_25 : decode cX3_restedOnThrough 25 = .ok (.ior, 1) := by decide +kernel
theorem dX3_restedOnThrough_26 : decode cX3_restedOnThrough 26 = .ok (.istore_n 2, 1) := by decide +kernel
theorem dX3_restedOnThrough_27 : decode cX3_restedOnThrough 27 = .ok (.iinc 3 1, 3) := by decide +kernel
theorem dX3_restedOnThrough_30 : decode cX3_restedOnThrough 30 = .ok (.goto (-26), 3) := by decide +kernel
theorem dX3_restedOnThrough_33 : decode cX3_restedOnThrough 33 = .ok (.iload_n 2, 1) := by decide +kernel
theorem dX3_restedOnThrough_34 : decode cX3_restedOnThrough 34 = .ok (.ireturn, 1) := by decide +kernel
theorem dX3_arrange_0 : decode cX3_arrange 0 = .ok (.iconst 0, 1) := by decide +kernel
theorem dX3_arrange_1 : decode cX3_arrange 1 = .ok (.istore_n 1, 1) := by decide +kernel
theorem dX3_arrange_2 : decode cX3_arrange 2 = .ok (.iconst 0, 1) := by decide +kernel
theorem dX3_arrange_3 : decode cX3_arrange 3 = .ok (.istore_n 2, 1) := by decide +kernel
theorem dX3_arrange_4 : decode cX3_arrange 4 = .ok (.iconst 0, 1) := by decide +kernel
theorem dX3_arrange_5 : decode cX3_arrange 5 = .ok (.istore_n 3, 1) := by decide +kernel
theorem dX3_arrange_6 : decode cX3_arrange 6 = .ok (.iload_n 3, 1) := by decide +kernel
theorem dX3_arrange_7 : decode cX3_arrange 7 = .ok (.bipush 16, 2) := by decide +kernel
theorem dX3_arrange_9 : decode cX3_arrange 9 = .ok (.if_icmp .ge 96, 3) := by decide +kernel
theorem dX3_arrange_12 : decode cX3_arrange 12 = .ok (.iload_n 2, 1) := by decide +kernel
theorem dX3_arrange_13 : decode cX3_arrange 13 = .ok (.bipush 16, 2) := by decide +kernel
theorem dX3_arrange_15 : decode cX3_arrange 15 = .ok (.if_icmp .ge 90, 3) := by decide +kernel
theorem dX3_arrange_18 : decode cX3_arrange 18 = .ok (.iconst 0, 1) := by decide +kernel
theorem dX3_arrange_19 : decode cX3_arrange 19 = .ok (.istore 4, 2) := by decide +kernel
theorem dX3_arrange_21 : decode cX3_arrange 21 = .ok (.iload 4, 2) := by decide +kernel
theorem dX3_arrange_23 : decode cX3_arrange 23 = .ok (.bipush 16, 2) := by decide +kernel
theorem dX3_arrange_25 : decode cX3_arrange 25 = .ok (.if_icmp .ge 74, 3) := by decide +kernel
theorem dX3_arrange_28 : decode cX3_arrange 28 = .ok (.iload_n 2, 1) := by decide +kernel
theorem dX3_arrange_29 : decode cX3_arrange 29 = .ok (.bipush 16, 2) := by decide +kernel
theorem dX3_arrange_31 : decode cX3_arrange 31 = .ok (.if_icmp .ge 62, 3) := by decide +kernel
theorem dX3_arrange_34 : decode cX3_arrange 34 = .ok (.iload_n 1, 1) := by decide +kernel
theorem dX3_arrange_35 : decode cX3_arrange 35 = .ok (.iload 4, 2) := by decide +kernel
theorem dX3_arrange_37 : decode cX3_arrange 37 = .ok (.invokestatic 46, 3) := by decide +kernel
theorem dX3_arrange_40 : decode cX3_arrange 40 = .ok (.ifCond .ne 53, 3) := by decide +kernel
theorem dX3_arrange_43 : decode cX3_arrange 43 = .ok (.aload_n 0, 1) := by decide +kernel
theorem dX3_arrange_44 : decode cX3_arrange 44 = .ok (.getfield 27, 3) := by decide +kernel
theorem dX3_arrange_47 : decode cX3_arrange 47 = .ok (.iload 4, 2) := by decide +kernel
theorem dX3_arrange_49 : decode cX3_arrange 49 = .ok (.iaload, 1) := by decide +kernel
theorem dX3_arrange_50 : decode cX3_arrange 50 = .ok (.iload_n 1, 1) := by decide +kernel
theorem dX3_arrange_51 : decode cX3_arrange 51 = .ok (.iconst (-1), 1) := by decide +kernel
theorem dX3_arrange_52 : decode cX3_arrange 52 = .ok (.ixor, 1) := by decide +kernel
theorem dX3_arrange_53 : decode cX3_arrange 53 = .ok (.iand, 1) := by decide +kernel
theorem dX3_arrange_54 : decode cX3_arrange 54 = .ok (.ifCond .ne 39, 3) := by decide +kernel
theorem dX3_arrange_57 : decode cX3_arrange 57 = .ok (.aload_n 0, 1) := by decide +kernel
theorem dX3_arrange_58 : decode cX3_arrange 58 = .ok (.getfield 33, 3) := by decide +kernel
theorem dX3_arrange_61 : decode cX3_arrange 61 = .ok (.iload_n 2, 1) := by decide +kernel
theorem dX3_arrange_62 : decode cX3_arrange 62 = .ok (.iload 4, 2) := by decide +kernel
theorem dX3_arrange_64 : decode cX3_arrange 64 = .ok (.iastore, 1) := by decide +kernel
theorem dX3_arrange_65 : decode cX3_arrange 65 = .ok (.iinc 2 1, 3) := by decide +kernel
theorem dX3_arrange_68 : decode cX3_arrange 68 = .ok (.iload_n 1, 1) := by decide +kernel
theorem dX3_arrange_69 : decode cX3_arrange 69 = .ok (.iconst 1, 1) := by decide +kernel
theorem dX3_arrange_70 : decode cX3_arrange 70 = .ok (.iload 4, 2) := by decide +kernel
theorem dX3_arrange_72 : decode cX3_arrange 72 = .ok (.ishl, 1) := by decide +kernel
theorem dX3_arrange_73 : decode cX3_arrange 73 = .ok (.ior, 1) := by decide +kernel
theorem dX3_arrange_74 : decode cX3_arrange 74 = .ok (.istore_n 1, 1) := by decide +kernel
theorem dX3_arrange_75 : decode cX3_arrange 75 = .ok (.aload_n 0, 1) := by decide +kernel
theorem dX3_arrange_76 : decode cX3_arrange 76 = .ok (.getfield 30, 3) := by decide +kernel
theorem dX3_arrange_79 : decode cX3_arrange 79 = .ok (.iload 4, 2) := by decide +kernel
theorem dX3_arrange_81 : decode cX3_arrange 81 = .ok (.aload_n 0, 1) := by decide +kernel
theorem dX3_arrange_82 : decode cX3_arrange 82 = .ok (.aload_n 0, 1) := by decide +kernel
theorem dX3_arrange_83 : decode cX3_arrange 83 = .ok (.getfield 27, 3) := by decide +kernel
theorem dX3_arrange_86 : decode cX3_arrange 86 = .ok (.iload 4, 2) := by decide +kernel
theorem dX3_arrange_88 : decode cX3_arrange 88 = .ok (.iaload, 1) := by decide +kernel
theorem dX3_arrange_89 : decode cX3_arrange 89 = .ok (.invokevirtual 61, 3) := by decide +kernel
theorem dX3_arrange_92 : decode cX3_arrange 92 = .ok (.iastore, 1) := by decide +kernel
theorem dX3_arrange_93 : decode cX3_arrange 93 = .ok (.iinc 4 1, 3) := by decide +kernel
theorem dX3_arrange_96 : decode cX3_arrange 96 = .ok (.goto (-75), 3) := by decide +kernel
theorem dX3_arrange_99 : decode cX3_arrange 99 = .ok (.iinc 3 1, 3) := by decide +kernel
theorem dX3_arrange_102 : decode cX3_arrange 102 = .ok (.goto (-96), 3) := by decide +kernel
theorem dX3_arrange_105 : decode cX3_arrange 105 = .ok (.return_, 1) := by decide +kernel
theorem dX3_cellsRestingOn_0 : decode cX3_cellsRestingOn 0 = .ok (.iconst 0, 1) := by decide +kernel
theorem dX3_cellsRestingOn_1 : decode cX3_cellsRestingOn 1 = .ok (.istore_n 2, 1) := by decide +kernel
theorem dX3_cellsRestingOn_2 : decode cX3_cellsRestingOn 2 = .ok (.iconst 0, 1) := by decide +kernel
theorem dX3_cellsRestingOn_3 : decode cX3_cellsRestingOn 3 = .ok (.istore_n 3, 1) := by decide +kernel
theorem dX3_cellsRestingOn_4 : decode cX3_cellsRestingOn 4 = .ok (.iload_n 3, 1) := by decide +kernel
theorem dX3_cellsRestingOn_5 : decode cX3_cellsRestingOn 5 = .ok (.bipush 16, 2) := by decide +kernel
theorem dX3_cellsRestingOn_7 : decode cX3_cellsRestingOn 7 = .ok (.if_icmp .ge 28, 3) := by decide +kernel
theorem dX3_cellsRestingOn_10 : decode cX3_cellsRestingOn 10 = .ok (.aload_n 0, 1) := by decide +kernel
theorem dX3_cellsRestingOn_11 : decode cX3_cellsRestingOn 11 = .ok (.getfield 30, 3) := by decide +kernel
theorem dX3_cellsRestingOn_14 : decode cX3_cellsRestingOn 14 = .ok (.iload_n 3, 1) := by decide +kernel
theorem dX3_cellsRestingOn_15 : decode cX3_cellsRestingOn 15 = .ok (.iaload, 1) := by decide +kernel
theorem dX3_cellsRestingOn_16 : decode cX3_cellsRestingOn 16 = .ok (.iload_n 1, 1) := by decide +kernel
theorem dX3_cellsRestingOn_17 : decode cX3_cellsRestingOn 17 = .ok (.invokestatic 46, 3) := by decide +kernel
theorem dX3_cellsRestingOn_20 : decode cX3_cellsRestingOn 20 = .ok (.ifCond .eq 9, 3) := by decide +kernel
theorem dX3_cellsRestingOn_23 : decode cX3_cellsRestingOn 23 = .ok (.iload_n 2, 1) := by decide +kernel
theorem dX3_cellsRestingOn_24 : decode cX3_cellsRestingOn 24 = .ok (.iconst 1, 1) := by decide +kernel
theorem dX3_cellsRestingOn_25 : decode cX3_cellsRestingOn 25 = .ok (.iload_n 3, 1) := by decide +kernel
theorem dX3_cellsRestingOn_26 : decode cX3_cellsRestingOn 26 = .ok (.ishl, 1) := by decide +kernel
theorem dX3_cellsRestingOn_27 : decode cX3_cellsRestingOn 27 = .ok (.ior, 1) := by decide +kernel
theorem dX3_cellsRestingOn_28 : decode cX3_cellsRestingOn 28 = .ok (.istore_n 2, 1) := by decide +kernel
theorem dX3_cellsRestingOn_29 : decode cX3_cellsRestingOn 29 = .ok (.iinc 3 1, 3) := by decide +kernel
theorem dX3_cellsRestingOn_32 : decode cX3_cellsRestingOn 32 = .ok (.goto (-28), 3) := by decide +kernel
theorem dX3_cellsRestingOn_35 : decode cX3_cellsRestingOn 35 = .ok (.iload_n 2, 1) := by decide +kernel
theorem dX3_cellsRestingOn_36 : decode cX3_cellsRestingOn 36 = .ok (.ireturn, 1) := by decide +kernel
theorem dX3_reckon_0 : decode cX3_reckon 0 = .ok (.iload_n 1, 1) := by decide +kernel
theorem dX3_reckon_1 : decode cX3_reckon 1 = .ok (.ifCond .lt 9, 3) := by decide +kernel
theorem dX3_reckon_4 : decode cX3_reckon 4 = .ok (.iload_n 1, 1) := by decide +kernel
theorem dX3_reckon_5 : decode cX3_reckon 5 = .ok (.bipush 16, 2) := by decide +kernel
theorem dX3_reckon_7 : decode cX3_reckon 7 = .ok (.if_icmp .lt 7, 3) := by decide +kernel
theorem dX3_reckon_10 : decode cX3_reckon 10 = .ok (.ldc2_w 65, 3) := by decide +kernel
theorem dX3_reckon_13 : decode cX3_reckon 13 = .ok (.lreturn, 1) := by decide +kernel
theorem dX3_reckon_14 : decode cX3_reckon 14 = .ok (.aload_n 0, 1) := by decide +kernel
theorem dX3_reckon_15 : decode cX3_reckon 15 = .ok (.getfield 30, 3) := by decide +kernel
theorem dX3_reckon_18 : decode cX3_reckon 18 = .ok (.iload_n 1, 1) := by decide +kernel
theorem dX3_reckon_19 : decode cX3_reckon 19 = .ok (.iaload, 1) := by decide +kernel
theorem dX3_reckon_20 : decode cX3_reckon 20 = .ok (.iconst 1, 1) := by decide +kernel
theorem dX3_reckon_21 : decode cX3_reckon 21 = .ok (.iload_n 1, 1) := by decide +kernel
theorem dX3_reckon_22 : decode cX3_reckon 22 = .ok (.ishl, 1) := by decide +kernel
theorem dX3_reckon_23 : decode cX3_reckon 23 = .ok (.ior, 1) := by decide +kernel
theorem dX3_reckon_24 : decode cX3_reckon 24 = .ok (.istore_n 3, 1) := by decide +kernel
theorem dX3_reckon_25 : decode cX3_reckon 25 = .ok (.iconst 0, 1) := by decide +kernel
theorem dX3_reckon_26 : decode cX3_reckon 26 = .ok (.istore 4, 2) := by decide +kernel
theorem dX3_reckon_28 : decode cX3_reckon 28 = .ok (.iload 4, 2) := by decide +kernel
theorem dX3_reckon_30 : decode cX3_reckon 30 = .ok (.bipush 16, 2) := by decide +kernel
theorem dX3_reckon_32 : decode cX3_reckon 32 = .ok (.if_icmp .ge 65, 3) := by decide +kernel
theorem dX3_reckon_35 : decode cX3_reckon 35 = .ok (.aload_n 0, 1) := by decide +kernel
theorem dX3_reckon_36 : decode cX3_reckon 36 = .ok (.getfield 33, 3) := by decide +kernel
theorem dX3_reckon_39 : decode cX3_reckon 39 = .ok (.iload 4, 2) := by decide +kernel
theorem dX3_reckon_41 : decode cX3_reckon 41 = .ok (.iaload, 1) := by decide +kernel
theorem dX3_reckon_42 : decode cX3_reckon 42 = .ok (.istore 5, 2) := by decide +kernel
theorem dX3_reckon_44 : decode cX3_reckon 44 = .ok (.iload_n 3, 1) := by decide +kernel
theorem dX3_reckon_45 : decode cX3_reckon 45 = .ok (.iload 5, 2) := by decide +kernel
theorem dX3_reckon_47 : decode cX3_reckon 47 = .ok (.invokestatic 46, 3) := by decide +kernel
theorem dX3_reckon_50 : decode cX3_reckon 50 = .ok (.ifCond .eq 41, 3) := by decide +kernel
theorem dX3_reckon_53 : decode cX3_reckon 53 = .ok (.aload_n 0, 1) := by decide +kernel
theorem dX3_reckon_54 : decode cX3_reckon 54 = .ok (.getfield 36, 3) := by decide +kernel
theorem dX3_reckon_57 : decode cX3_reckon 57 = .ok (.iload 5, 2) := by decide +kernel
theorem dX3_reckon_59 : decode cX3_reckon 59 = .ok (.aload_n 0, 1) := by decide +kernel
theorem dX3_reckon_60 : decode cX3_reckon 60 = .ok (.iload 5, 2) := by decide +kernel
theorem dX3_reckon_62 : decode cX3_reckon 62 = .ok (.invokevirtual 67, 3) := by decide +kernel
theorem dX3_reckon_65 : decode cX3_reckon 65 = .ok (.ifCond .eq 11, 3) := by decide +kernel
theorem dX3_reckon_68 : decode cX3_reckon 68 = .ok (.aload_n 2, 1) := by decide +kernel
theorem dX3_reckon_69 : decode cX3_reckon 69 = .ok (.iload 5, 2) := by decide +kernel
theorem dX3_reckon_71 : decode cX3_reckon 71 = .ok (.iaload, 1) := by decide +kernel
theorem dX3_reckon_72 : decode cX3_reckon 72 = .ok (.i2l, 1) := by decide +kernel
theorem dX3_reckon_73 : decode cX3_reckon 73 = .ok (.goto 17, 3) := by decide +kernel
theorem dX3_reckon_76 : decode cX3_reckon 76 = .ok (.aload_n 0, 1) := by decide +kernel
theorem dX3_reckon_77 : decode cX3_reckon 77 = .ok (.getfield 11, 3) := by decide +kernel
theorem dX3_reckon_80 : decode cX3_reckon 80 = .ok (.iload 5, 2) := by decide +kernel
theorem dX3_reckon_82 : decode cX3_reckon 82 = .ok (.aaload, 1) := by decide +kernel
theorem dX3_reckon_83 : decode cX3_reckon 83 = .ok (.aload_n 0, 1) := by decide +kernel
theorem dX3_reckon_84 : decode cX3_reckon 84 = .ok (.getfield 36, 3) := by decide +kernel
theorem dX3_reckon_87 : decode cX3_reckon 87 = .ok (.invokevirtual 71, 3) := by decide +kernel
theorem dX3_reckon_90 : decode cX3_reckon 90 = .ok (.lastore, 1) := by decide +kernel
theorem dX3_reckon_91 : decode cX3_reckon 91 = .ok (.iinc 4 1, 3) := by decide +kernel
theorem dX3_reckon_94 : decode cX3_reckon 94 = .ok (.goto (-66), 3) := by decide +kernel
theorem dX3_reckon_97 : decode cX3_reckon 97 = .ok (.aload_n 0, 1) := by decide +kernel
theorem dX3_reckon_98 : decode cX3_reckon 98 = .ok (.getfield 36, 3) := by decide +kernel
theorem dX3_reckon_101 : decode cX3_reckon 101 = .ok (.iload_n 1, 1) := by decide +kernel
theorem dX3_reckon_102 : decode cX3_reckon 102 = .ok (.laload, 1) := by decide +kernel
theorem dX3_reckon_103 : decode cX3_reckon 103 = .ok (.lreturn, 1) := by decide +kernel
theorem dX3_lockedCells_0 : decode cX3_lockedCells 0 = .ok (.iconst 0, 1) := by decide +kernel
theorem dX3_lockedCells_1 : decode cX3_lockedCells 1 = .ok (.istore_n 3, 1) := by decide +kernel
theorem dX3_lockedCells_2 : decode cX3_lockedCells 2 = .ok (.iconst 0, 1) := by decide +kernel
theorem dX3_lockedCells_3 : decode cX3_lockedCells 3 = .ok (.istore 4, 2) := by decide +kernel
theorem dX3_lockedCells_5 : decode cX3_lockedCells 5 = .ok (.iload 4, 2) := by decide +kernel
theorem dX3_lockedCells_7 : decode cX3_lockedCells 7 = .ok (.bipush 16, 2) := by decide +kernel
theorem dX3_lockedCells_9 : decode cX3_lockedCells 9 = .ok (.if_icmp .ge 57, 3) := by decide +kernel
theorem dX3_lockedCells_12 : decode cX3_lockedCells 12 = .ok (.aload_n 0, 1) := by decide +kernel
theorem dX3_lockedCells_13 : decode cX3_lockedCells 13 = .ok (.getfield 33, 3) := by decide +kernel
theorem dX3_lockedCells_16 : decode cX3_lockedCells 16 = .ok (.iload 4, 2) := by decide +kernel
theorem dX3_lockedCells_18 : decode cX3_lockedCells 18 = .ok (.iaload, 1) := by decide +kernel
theorem dX3_lockedCells_19 : decode cX3_lockedCells 19 = .ok (.istore 5, 2) := by decide +kernel
theorem dX3_lockedCells_21 : decode cX3_lockedCells 21 = .ok (.iload_n 2, 1) := by decide +kernel
theorem dX3_lockedCells_22 : decode cX3_lockedCells 22 = .ok (.iconst (-1), 1) := by decide +kernel
theorem dX3_lockedCells_23 : decode cX3_lockedCells 23 = .ok (.ixor, 1) := by decide +kernel
theorem dX3_lockedCells_24 : decode cX3_lockedCells 24 = .ok (.iload 5, 2) := by decide +kernel
theorem dX3_lockedCells_26 : decode cX3_lockedCells 26 = .ok (.invokestatic 46, 3) := by decide +kernel
theorem dX3_lockedCells_29 : decode cX3_lockedCells 29 = .ok (.ifCond .eq 31, 3) := by decide +kernel
theorem dX3_lockedCells_32 : decode cX3_lockedCells 32 = .ok (.iload_n 1, 1) := by decide +kernel
theorem dX3_lockedCells_33 : decode cX3_lockedCells 33 = .ok (.iload 5, 2) := by decide +kernel
theorem dX3_lockedCells_35 : decode cX3_lockedCells 35 = .ok (.invokestatic 46, 3) := by decide +kernel
theorem dX3_lockedCells_38 : decode cX3_lockedCells 38 = .ok (.ifCond .ne 15, 3) := by decide +kernel
theorem dX3_lockedCells_41 : decode cX3_lockedCells 41 = .ok (.aload_n 0, 1) := by decide +kernel
theorem dX3_lockedCells_42 : decode cX3_lockedCells 42 = .ok (.getfield 27, 3) := by decide +kernel
theorem dX3_lockedCells_45 : decode cX3_lockedCells 45 = .ok (.iload 5, 2) := by decide +kernel
theorem dX3_lockedCells_47 : decode cX3_lockedCells 47 = .ok (.iaload, 1) := by decide +kernel
theorem dX3_lockedCells_48 : decode cX3_lockedCells 48 = .ok (.iload_n 3, 1) := by decide +kernel
theorem dX3_lockedCells_49 : decode cX3_lockedCells 49 = .ok (.iand, 1) := by decide +kernel
theorem dX3_lockedCells_50 : decode cX3_lockedCells 50 = .ok (.ifCond .eq 10, 3) := by decide +kernel
theorem dX3_lockedCells_53 : decode cX3_lockedCells 53 = .ok (.iload_n 3, 1) := by decide +kernel
theorem dX3_lockedCells_54 : decode cX3_lockedCells 54 = .ok (.iconst 1, 1) := by decide +kernel
theorem dX3_lockedCells_55 : decode cX3_lockedCells 55 = .ok (.iload 5, 2) := by decide +kernel
theorem dX3_lockedCells_57 : decode cX3_lockedCells 57 = .ok (.ishl, 1) := by decide +kernel
theorem dX3_lockedCells_58 : decode cX3_lockedCells 58 = .ok (.ior, 1) := by decide +kernel
theorem dX3_lockedCells_59 : decode cX3_lockedCells 59 = .ok (.istore_n 3, 1) := by decide +kernel
theorem dX3_lockedCells_60 : decode cX3_lockedCells 60 = .ok (.iinc 4 1, 3) := by decide +kernel
theorem dX3_lockedCells_63 : decode cX3_lockedCells 63 = .ok (.goto (-58), 3) := by decide +kernel
theorem dX3_lockedCells_66 : decode cX3_lockedCells 66 = .ok (.iload_n 3, 1) := by decide +kernel
theorem dX3_lockedCells_67 : decode cX3_lockedCells 67 = .ok (.ireturn, 1) := by decide +kernel
theorem dX3_reachedFrom_0 : decode cX3_reachedFrom 0 = .ok (.iconst 1, 1) := by decide +kernel
theorem dX3_reachedFrom_1 : decode cX3_reachedFrom 1 = .ok (.iload_n 1, 1) := by decide +kernel
theorem dX3_reachedFrom_2 : decode cX3_reachedFrom 2 = .ok (.ishl, 1) := by decide +kernel
theorem dX3_reachedFrom_3 : decode cX3_reachedFrom 3 = .ok (.iload_n 2, 1) := by decide +kernel
theorem dX3_reachedFrom_4 : decode cX3_reachedFrom 4 = .ok (.iconst (-1), 1) := by decide +kernel
theorem dX3_reachedFrom_5 : decode cX3_reachedFrom 5 = .ok (.ixor, 1) := by decide +kernel
theorem dX3_reachedFrom_6 : decode cX3_reachedFrom 6 = .ok (.iand, 1) := by decide +kernel
theorem dX3_reachedFrom_7 : decode cX3_reachedFrom 7 = .ok (.istore_n 3, 1) := by decide +kernel
theorem dX3_reachedFrom_8 : decode cX3_reachedFrom 8 = .ok (.iconst 0, 1) := by decide +kernel
theorem dX3_reachedFrom_9 : decode cX3_reachedFrom 9 = .ok (.istore 4, 2) := by decide +kernel
theorem dX3_reachedFrom_11 : decode cX3_reachedFrom 11 = .ok (.iload 4, 2) := by decide +kernel
theorem dX3_reachedFrom_13 : decode cX3_reachedFrom 13 = .ok (.bipush 16, 2) := by decide +kernel
theorem dX3_reachedFrom_15 : decode cX3_reachedFrom 15 = .ok (.if_icmp .ge 48, 3) := by decide +kernel
theorem dX3_reachedFrom_18 : decode cX3_reachedFrom 18 = .ok (.iconst 0, 1) := by decide +kernel
theorem dX3_reachedFrom_19 : decode cX3_reachedFrom 19 = .ok (.istore 5, 2) := by decide +kernel
theorem dX3_reachedFrom_21 : decode cX3_reachedFrom 21 = .ok (.iload 5, 2) := by decide +kernel
theorem dX3_reachedFrom_23 : decode cX3_reachedFrom 23 = .ok (.bipush 16, 2) := by decide +kernel
theorem dX3_reachedFrom_25 : decode cX3_reachedFrom 25 = .ok (.if_icmp .ge 32, 3) := by decide +kernel
theorem dX3_reachedFrom_28 : decode cX3_reachedFrom 28 = .ok (.iload_n 3, 1) := by decide +kernel
theorem dX3_reachedFrom_29 : decode cX3_reachedFrom 29 = .ok (.iload 5, 2) := by decide +kernel
theorem dX3_reachedFrom_31 : decode cX3_reachedFrom 31 = .ok (.invokestatic 46, 3) := by decide +kernel
theorem dX3_reachedFrom_34 : decode cX3_reachedFrom 34 = .ok (.ifCond .eq 17, 3) := by decide +kernel
theorem dX3_reachedFrom_37 : decode cX3_reachedFrom 37 = .ok (.iload_n 3, 1) := by decide +kernel
theorem dX3_reachedFrom_38 : decode cX3_reachedFrom 38 = .ok (.aload_n 0, 1) := by decide +kernel
theorem dX3_reachedFrom_39 : decode cX3_reachedFrom 39 = .ok (.getfield 27, 3) := by decide +kernel
theorem dX3_reachedFrom_42 : decode cX3_reachedFrom 42 = .ok (.iload 5, 2) := by decide +kernel
theorem dX3_reachedFrom_44 : decode cX3_reachedFrom 44 = .ok (.iaload, 1) := by decide +kernel
theorem dX3_reachedFrom_45 : decode cX3_reachedFrom 45 = .ok (.iload_n 2, 1) := by decide +kernel
theorem dX3_reachedFrom_46 : decode cX3_reachedFrom 46 = .ok (.iconst (-1), 1) := by decide +kernel
theorem dX3_reachedFrom_47 : decode cX3_reachedFrom 47 = .ok (.ixor, 1) := by decide +kernel
theorem dX3_reachedFrom_48 : decode cX3_reachedFrom 48 = .ok (.iand, 1) := by decide +kernel
theorem dX3_reachedFrom_49 : decode cX3_reachedFrom 49 = .ok (.ior, 1) := by decide +kernel
theorem dX3_reachedFrom_50 : decode cX3_reachedFrom 50 = .ok (.istore_n 3, 1) := by decide +kernel
theorem dX3_reachedFrom_51 : decode cX3_reachedFrom 51 = .ok (.iinc 5 1, 3) := by decide +kernel
theorem dX3_reachedFrom_54 : decode cX3_reachedFrom 54 = .ok (.goto (-33), 3) := by decide +kernel
theorem dX3_reachedFrom_57 : decode cX3_reachedFrom 57 = .ok (.iinc 4 1, 3) := by decide +kernel
theorem dX3_reachedFrom_60 : decode cX3_reachedFrom 60 = .ok (.goto (-49), 3) := by decide +kernel
theorem dX3_reachedFrom_63 : decode cX3_reachedFrom 63 = .ok (.iload_n 3, 1) := by decide +kernel
theorem dX3_reachedFrom_64 : decode cX3_reachedFrom 64 = .ok (.ireturn, 1) := by decide +kernel
theorem dX3_lineUpReaders_0 : decode cX3_lineUpReaders 0 = .ok (.aload_n 2, 1) := by decide +kernel
theorem dX3_lineUpReaders_1 : decode cX3_lineUpReaders 1 = .ok (.iconst 0, 1) := by decide +kernel
theorem dX3_lineUpReaders_2 : decode cX3_lineUpReaders 2 = .ok (.iload_n 1, 1) := by decide +kernel
theorem dX3_lineUpReaders_3 : decode cX3_lineUpReaders 3 = .ok (.iastore, 1) := by decide +kernel
theorem dX3_lineUpReaders_4 : decode cX3_lineUpReaders 4 = .ok (.iconst 1, 1) := by decide +kernel
theorem dX3_lineUpReaders_5 : decode cX3_lineUpReaders 5 = .ok (.istore_n 3, 1) := by decide +kernel
theorem dX3_lineUpReaders_6 : decode cX3_lineUpReaders 6 = .ok (.iconst 1, 1) := by decide +kernel
theorem dX3_lineUpReaders_7 : decode cX3_lineUpReaders 7 = .ok (.iload_n 1, 1) := by decide +kernel
theorem dX3_lineUpReaders_8 : decode cX3_lineUpReaders 8 = .ok (.ishl, 1) := by decide +kernel
theorem dX3_lineUpReaders_9 : decode cX3_lineUpReaders 9 = .ok (.istore 4, 2) := by decide +kernel
theorem dX3_lineUpReaders_11 : decode cX3_lineUpReaders 11 = .ok (.iconst 0, 1) := by decide +kernel
theorem dX3_lineUpReaders_12 : decode cX3_lineUpReaders 12 = .ok (.istore 5, 2) := by decide +kernel
theorem dX3_lineUpReaders_14 : decode cX3_lineUpReaders 14 = .ok (.iload 5, 2) := by decide +kernel
theorem dX3_lineUpReaders_16 : decode cX3_lineUpReaders 16 = .ok (.iload_n 3, 1) := by decide +kernel
theorem dX3_lineUpReaders_17 : decode cX3_lineUpReaders 17 = .ok (.if_icmp .ge 82, 3) := by decide +kernel
theorem dX3_lineUpReaders_20 : decode cX3_lineUpReaders 20 = .ok (.iload 5, 2) := by decide +kernel
theorem dX3_lineUpReaders_22 : decode cX3_lineUpReaders 22 = .ok (.bipush 16, 2) := by decide +kernel
theorem dX3_lineUpReaders_24 : decode cX3_lineUpReaders 24 = .ok (.if_icmp .ge 75, 3) := by decide +kernel
theorem dX3_lineUpReaders_27 : decode cX3_lineUpReaders 27 = .ok (.iconst 0, 1) := by decide +kernel
theorem dX3_lineUpReaders_28 : decode cX3_lineUpReaders 28 = .ok (.istore 6, 2) := by decide +kernel
theorem dX3_lineUpReaders_30 : decode cX3_lineUpReaders 30 = .ok (.iload 6, 2) := by decide +kernel
theorem dX3_lineUpReaders_32 : decode cX3_lineUpReaders 32 = .ok (.bipush 16, 2) := by decide +kernel
theorem dX3_lineUpReaders_34 : decode cX3_lineUpReaders 34 = .ok (.if_icmp .ge 59, 3) := by decide +kernel
theorem dX3_lineUpReaders_37 : decode cX3_lineUpReaders 37 = .ok (.iload_n 3, 1) := by decide +kernel
theorem dX3_lineUpReaders_38 : decode cX3_lineUpReaders 38 = .ok (.bipush 16, 2) := by decide +kernel
theorem dX3_lineUpReaders_40 : decode cX3_lineUpReaders 40 = .ok (.if_icmp .ge 47, 3) := by decide +kernel
theorem dX3_lineUpReaders_43 : decode cX3_lineUpReaders 43 = .ok (.aload_n 0, 1) := by decide +kernel
theorem dX3_lineUpReaders_44 : decode cX3_lineUpReaders 44 = .ok (.getfield 27, 3) := by decide +kernel
theorem dX3_lineUpReaders_47 : decode cX3_lineUpReaders 47 = .ok (.iload 6, 2) := by decide +kernel
theorem dX3_lineUpReaders_49 : decode cX3_lineUpReaders 49 = .ok (.iaload, 1) := by decide +kernel
theorem dX3_lineUpReaders_50 : decode cX3_lineUpReaders 50 = .ok (.aload_n 2, 1) := by decide +kernel
theorem dX3_lineUpReaders_51 : decode cX3_lineUpReaders 51 = .ok (.iload 5, 2) := by decide +kernel
theorem dX3_lineUpReaders_53 : decode cX3_lineUpReaders 53 = .ok (.iaload, 1) := by decide +kernel
theorem dX3_lineUpReaders_54 : decode cX3_lineUpReaders 54 = .ok (.invokestatic 46, 3) := by decide +kernel
theorem dX3_lineUpReaders_57 : decode cX3_lineUpReaders 57 = .ok (.ifCond .eq 30, 3) := by decide +kernel
theorem dX3_lineUpReaders_60 : decode cX3_lineUpReaders 60 = .ok (.iload 4, 2) := by decide +kernel
theorem dX3_lineUpReaders_62 : decode cX3_lineUpReaders 62 = .ok (.iload 6, 2) := by decide +kernel
theorem dX3_lineUpReaders_64 : decode cX3_lineUpReaders 64 = .ok (.invokestatic 46, 3) := by decide +kernel
theorem dX3_lineUpReaders_67 : decode cX3_lineUpReaders 67 = .ok (.ifCond .ne 20, 3) := by decide +kernel
theorem dX3_lineUpReaders_70 : decode cX3_lineUpReaders 70 = .ok (.aload_n 2, 1) := by decide +kernel
theorem dX3_lineUpReaders_71 : decode cX3_lineUpReaders 71 = .ok (.iload_n 3, 1) := by decide +kernel
theorem dX3_lineUpReaders_72 : decode cX3_lineUpReaders 72 = .ok (.iload 6, 2) := by decide +kernel
theorem dX3_lineUpReaders_74 : decode cX3_lineUpReaders 74 = .ok (.iastore, 1) := by decide +kernel
theorem dX3_lineUpReaders_75 : decode cX3_lineUpReaders 75 = .ok (.iinc 3 1, 3) := by decide +kernel
theorem dX3_lineUpReaders_78 : decode cX3_lineUpReaders 78 = .ok (.iload 4, 2) := by decide +kernel
theorem dX3_lineUpReaders_80 : decode cX3_lineUpReaders 80 = .ok (.iconst 1, 1) := by decide +kernel
theorem dX3_lineUpReaders_81 : decode cX3_lineUpReaders 81 = .ok (.iload 6, 2) := by decide +kernel
theorem dX3_lineUpReaders_83 : decode cX3_lineUpReaders 83 = .ok (.ishl, 1) := by decide +kernel
theorem dX3_lineUpReaders_84 : decode cX3_lineUpReaders 84 = .ok (.ior, 1) := by decide +kernel
theorem dX3_lineUpReaders_85 : decode cX3_lineUpReaders 85 = .ok (.istore 4, 2) := by decide +kernel
theorem dX3_lineUpReaders_87 : decode cX3_lineUpReaders 87 = .ok (.iinc 6 1, 3) := by decide +kernel
theorem dX3_lineUpReaders_90 : decode cX3_lineUpReaders 90 = .ok (.goto (-60), 3) := by decide +kernel
theorem dX3_lineUpReaders_93 : decode cX3_lineUpReaders 93 = .ok (.iinc 5 1, 3) := by decide +kernel
theorem dX3_lineUpReaders_96 : decode cX3_lineUpReaders 96 = .ok (.goto (-82), 3) := by decide +kernel
theorem dX3_lineUpReaders_99 : decode cX3_lineUpReaders 99 = .ok (.iload_n 3, 1) := by decide +kernel
theorem dX3_lineUpReaders_100 : decode cX3_lineUpReaders 100 = .ok (.ireturn, 1) := by decide +kernel
theorem dX4_init_0 : decode cX4_init 0 = .ok (.aload_n 0, 1) := by decide +kernel
theorem dX4_init_1 : decode cX4_init 1 = .ok (.invokespecial 3, 3) := by decide +kernel
theorem dX4_init_4 : decode cX4_init 4 = .ok (.aload_n 0, 1) := by decide +kernel
theorem dX4_init_5 : decode cX4_init 5 = .ok (.bipush 16, 2) := by decide +kernel
theorem dX4_init_7 : decode cX4_init 7 = .ok (.newarray .int, 2) := by decide +kernel
theorem dX4_init_9 : decode cX4_init 9 = .ok (.putfield 9, 3) := by decide +kernel
theorem dX4_init_12 : decode cX4_init 12 = .ok (.aload_n 0, 1) := by decide +kernel
theorem dX4_init_13 : decode cX4_init 13 = .ok (.bipush 16, 2) := by decide +kernel
theorem dX4_init_15 : decode cX4_init 15 = .ok (.newarray .int, 2) := by decide +kernel
theorem dX4_init_17 : decode cX4_init 17 = .ok (.putfield 15, 3) := by decide +kernel
theorem dX4_init_20 : decode cX4_init 20 = .ok (.aload_n 0, 1) := by decide +kernel
theorem dX4_init_21 : decode cX4_init 21 = .ok (.bipush 16, 2) := by decide +kernel
theorem dX4_init_23 : decode cX4_init 23 = .ok (.newarray .int, 2) := by decide +kernel
theorem dX4_init_25 : decode cX4_init 25 = .ok (.putfield 18, 3) := by decide +kernel
theorem dX4_init_28 : decode cX4_init 28 = .ok (.aload_n 0, 1) := by decide +kernel
theorem dX4_init_29 : decode cX4_init 29 = .ok (.bipush 16, 2) := by decide +kernel
theorem dX4_init_31 : decode cX4_init 31 = .ok (.newarray .int, 2) := by decide +kernel
theorem dX4_init_33 : decode cX4_init 33 = .ok (.putfield 21, 3) := by decide +kernel
theorem dX4_init_36 : decode cX4_init 36 = .ok (.aload_n 0, 1) := by decide +kernel
theorem dX4_init_37 : decode cX4_init 37 = .ok (.bipush 16, 2) := by decide +kernel
theorem dX4_init_39 : decode cX4_init 39 = .ok (.bipush 16, 2) := by decide +kernel
theorem dX4_init_41 : decode cX4_init 41 = .ok (.multianewarray 24 2, 4) := by decide +kernel
theorem dX4_init_45 : decode cX4_init 45 = .ok (.putfield 26, 3) := by decide +kernel
theorem dX4_init_48 : decode cX4_init 48 = .ok (.return_, 1) := by decide +kernel
theorem dX4_untry_0 : decode cX4_untry 0 = .ok (.aload_n 0, 1) := by decide +kernel
theorem dX4_untry_1 : decode cX4_untry 1 = .ok (.getfield 29, 3) := by decide +kernel
theorem dX4_untry_4 : decode cX4_untry 4 = .ok (.iload_n 1, 1) := by decide +kernel
theorem dX4_untry_5 : decode cX4_untry 5 = .ok (.iand, 1) := by decide +kernel
theorem dX4_untry_6 : decode cX4_untry 6 = .ok (.istore_n 2, 1) := by decide +kernel
theorem dX4_untry_7 : decode cX4_untry 7 = .ok (.aload_n 0, 1) := by decide +kernel
theorem dX4_untry_8 : decode cX4_untry 8 = .ok (.dup, 1) := by decide +kernel
theorem dX4_untry_9 : decode cX4_untry 9 = .ok (.getfield 29, 3) := by decide +kernel
theorem dX4_untry_12 : decode cX4_untry 12 = .ok (.iload_n 1, 1) := by decide +kernel
theorem dX4_untry_13 : decode cX4_untry 13 = .ok (.iconst (-1), 1) := by decide +kernel
theorem dX4_untry_14 : decode cX4_untry 14 = .ok (.ixor, 1) := by decide +kernel
theorem dX4_untry_15 : decode cX4_untry 15 = .ok (.iand, 1) := by decide +kernel
theorem dX4_untry_16 : decode cX4_untry 16 = .ok (.putfield 29, 3) := by decide +kernel
theorem dX4_untry_19 : decode cX4_untry 19 = .ok (.iload_n 2, 1) := by decide +kernel
theorem dX4_untry_20 : decode cX4_untry 20 = .ok (.invokestatic 33, 3) := by decide +kernel
theorem dX4_untry_23 : decode cX4_untry 23 = .ok (.ireturn, 1) := by decide +kernel
theorem dX4_run_0 : decode cX4_run 0 = .ok (.aload_n 0, 1) := by decide +kernel
theorem dX4_run_1 : decode cX4_run 1 = .ok (.iload 4, 2) := by decide +kernel
theorem dX4_run_3 : decode cX4_run 3 = .ok (.putfield 39, 3) := by decide +kernel
theorem dX4_run_6 : decode cX4_run 6 = .ok (.iconst 0, 1) := by decide +kernel
theorem dX4_run_7 : decode cX4_run 7 = .ok (.istore 6, 2) := by decide +kernel
theorem dX4_run_9 : decode cX4_run 9 = .ok (.iload 6, 2) := by decide +kernel
theorem dX4_run_11 : decode cX4_run 11 = .ok (.iload 5, 2) := by decide +kernel
theorem dX4_run_13 : decode cX4_run 13 = .ok (.if_icmp .ge 57, 3) := by decide +kernel
theorem dX4_run_16 : decode cX4_run 16 = .ok (.aload_n 0, 1) := by decide +kernel
theorem dX4_run_17 : decode cX4_run 17 = .ok (.iload 6, 2) := by decide +kernel
theorem dX4_run_19 : decode cX4_run 19 = .ok (.aload_n 1, 1) := by decide +kernel
theorem dX4_run_20 : decode cX4_run 20 = .ok (.invokevirtual 42, 3) := by decide +kernel
theorem dX4_run_23 : decode cX4_run 23 = .ok (.aload_n 2, 1) := by decide +kernel
theorem dX4_run_24 : decode cX4_run 24 = .ok (.aload_n 1, 1) := by decide +kernel
theorem dX4_run_25 : decode cX4_run 25 = .ok (.iload_n 3, 1) := by decide +kernel
theorem dX4_run_26 : decode cX4_run 26 = .ok (.aload_n 0, 1) := by decide +kernel
theorem dX4_run_27 : decode cX4_run 27 = .ok (.getfield 9, 3) := by decide +kernel
theorem dX4_run_30 : decode cX4_run 30 = .ok (.invokevirtual 46, 3) := by decide +kernel
theorem dX4_run_33 : decode cX4_run 33 = .ok (.istore 7, 2) := by decide +kernel
theorem dX4_run_35 : decode cX4_run 35 = .ok (.iload 7, 2) := by decide +kernel
theorem dX4_run_37 : decode cX4_run 37 = .ok (.iconst (-1), 1) := by decide +kernel
theorem dX4_run_38 : decode cX4_run 38 = .ok (.if_icmp .eq 26, 3) := by decide +kernel
theorem dX4_run_41 : decode cX4_run 41 = .ok (.aload_n 0, 1) := by decide +kernel
theorem dX4_run_42 : decode cX4_run 42 = .ok (.iload_n 3, 1) := by decide +kernel
theorem dX4_run_43 : decode cX4_run 43 = .ok (.iload 7, 2) := by decide +kernel
theorem dX4_run_45 : decode cX4_run 45 = .ok (.aload_n 0, 1) := by decide +kernel
theorem dX4_run_46 : decode cX4_run 46 = .ok (.iload 7, 2) := by decide +kernel
theorem dX4_run_48 : decode cX4_run 48 = .ok (.aload_n 2, 1) := by decide +kernel
theorem dX4_run_49 : decode cX4_run 49 = .ok (.aload_n 1, 1) := by decide +kernel
theorem dX4_run_50 : decode cX4_run 50 = .ok (.iload_n 3, 1) := by decide +kernel
theorem dX4_run_51 : decode cX4_run 51 = .ok (.invokevirtual 52, 3) := by decide +kernel
theorem dX4_run_54 : decode cX4_run 54 = .ok (.aload_n 1, 1) := by decide +kernel
theorem dX4_run_55 : decode cX4_run 55 = .ok (.getfield 56, 3) := by decide +kernel
theorem dX4_run_58 : decode cX4_run 58 = .ok (.invokevirtual 61, 3) := by decide +kernel
theorem dX4_run_61 : decode cX4_run 61 = .ok (.iload 6, 2) := by decide +kernel
theorem dX4_run_63 : decode cX4_run 63 = .ok (.ireturn, 1) := by decide +kernel
theorem dX4_run_64 : decode cX4_run 64 = .ok (.iinc 6 1, 3) := by decide +kernel
theorem dX4_run_67 : decode cX4_run 67 = .ok (.goto (-58), 3) := by decide +kernel
theorem dX4_run_70 : decode cX4_run 70 = .ok (.aload_n 0, 1) := by decide +kernel
theorem dX4_run_71 : decode cX4_run 71 = .ok (.dup, 1) := by decide +kernel
theorem dX4_run_72 : decode cX4_run 72 = .ok (.getfield 65, 3) := by decide +kernel
theorem dX4_run_75 : decode cX4_run 75 = .ok (.iconst 1, 1) := by decide +kernel
theorem dX4_run_76 : decode cX4_run 76 = .ok (.iload_n 3, 1) := by decide +kernel
theorem dX4_run_77 : decode cX4_run 77 = .ok (.ishl, 1) := by decide +kernel
theorem dX4_run_78 : decode cX4_run 78 = .ok (.iconst (-1), 1) := by decide +kernel
theorem dX4_run_79 : decode cX4_run 79 = .ok (.ixor, 1) := by decide +kernel
theorem dX4_run_80 : decode cX4_run 80 = .ok (.iand, 1) := by decide +kernel
theorem dX4_run_81 : decode cX4_run 81 = .ok (.putfield 65, 3) := by decide +kernel
theorem dX4_run_84 : decode cX4_run 84 = .ok (.aload_n 0, 1) := by decide +kernel
theorem dX4_run_85 : decode cX4_run 85 = .ok (.dup, 1) := by decide +kernel
theorem dX4_run_86 : decode cX4_run 86 = .ok (.getfield 29, 3) := by decide +kernel
theorem dX4_run_89 : decode cX4_run 89 = .ok (.iconst 1, 1) := by decide +kernel
theorem dX4_run_90 : decode cX4_run 90 = .ok (.iload_n 3, 1) := by decide +kernel
theorem dX4_run_91 : decode cX4_run 91 = .ok (.ishl, 1) := by decide +kernel
theorem dX4_run_92 : decode cX4_run 92 = .ok (.ior, 1) := by decide +kernel
theorem dX4_run_93 : decode cX4_run 93 = .ok (.putfield 29, 3) := by decide +kernel
theorem dX4_run_96 : decode cX4_run 96 = .ok (.iconst (-1), 1) := by decide +kernel
theorem dX4_run_97 : decode cX4_run 97 = .ok (.ireturn, 1) := by decide +kernel
theorem dX4_keepFailed_0 : decode cX4_keepFailed 0 = .ok (.aload_n 0, 1) := by decide +kernel
theorem dX4_keepFailed_1 : decode cX4_keepFailed 1 = .ok (.dup, 1) := by decide +kernel
theorem dX4_keepFailed_2 : decode cX4_keepFailed 2 = .ok (.getfield 29, 3) := by decide +kernel
theorem dX4_keepFailed_5 : decode cX4_keepFailed 5 = .ok (.iconst 1, 1) := by decide +kernel
theorem dX4_keepFailed_6 : decode cX4_keepFailed 6 = .ok (.iload_n 1, 1) := by decide +kernel
theorem dX4_keepFailed_7 : decode cX4_keepFailed 7 = .ok (.ishl, 1) := by decide +kernel
theorem dX4_keepFailed_8 : decode cX4_keepFailed 8 = .ok (.iconst (-1), 1) := by decide +kernel
theorem dX4_keepFailed_9 : decode cX4_keepFailed 9 = .ok (.ixor, 1) := by decide +kernel
theorem dX4_keepFailed_10 : decode cX4_keepFailed 10 = .ok (.iand, 1) := by decide +kernel
theorem dX4_keepFailed_11 : decode cX4_keepFailed 11 = .ok (.putfield 29, 3) := by decide +kernel
theorem dX4_keepFailed_14 : decode cX4_keepFailed 14 = .ok (.aload_n 0, 1) := by decide +kernel
theorem dX4_keepFailed_15 : decode cX4_keepFailed 15 = .ok (.dup, 1) := by decide +kernel
theorem dX4_keepFailed_16 : decode cX4_keepFailed 16 = .ok (.getfield 65, 3) := by decide +kernel
theorem dX4_keepFailed_19 : decode cX4_keepFailed 19 = .ok (.iconst 1, 1) := by decide +kernel
theorem dX4_keepFailed_20 : decode cX4_keepFailed 20 = .ok (.iload_n 1, 1) := by decide +kernel
theorem dX4_keepFailed_21 : decode cX4_keepFailed 21 = .ok (.ishl, 1) := by decide +kernel
theorem dX4_keepFailed_22 : decode cX4_keepFailed 22 = .ok (.ior, 1) := by decide +kernel
theorem dX4_keepFailed_23 : decode cX4_keepFailed 23 = .ok (.putfield 65, 3) := by decide +kernel
theorem dX4_keepFailed_26 : decode cX4_keepFailed 26 = .ok (.aload_n 0, 1) := by decide +kernel
theorem dX4_keepFailed_27 : decode cX4_keepFailed 27 = .ok (.getfield 15, 3) := by decide +kernel
theorem dX4_keepFailed_30 : decode cX4_keepFailed 30 = .ok (.iload_n 1, 1) := by decide +kernel
theorem dX4_keepFailed_31 : decode cX4_keepFailed 31 = .ok (.iload_n 2, 1) := by decide +kernel
theorem dX4_keepFailed_32 : decode cX4_keepFailed 32 = .ok (.iastore, 1) := by decide +kernel
theorem dX4_keepFailed_33 : decode cX4_keepFailed 33 = .ok (.aload_n 0, 1) := by decide +kernel
theorem dX4_keepFailed_34 : decode cX4_keepFailed 34 = .ok (.getfield 18, 3) := by decide +kernel
theorem dX4_keepFailed_37 : decode cX4_keepFailed 37 = .ok (.iload_n 1, 1) := by decide +kernel
theorem dX4_keepFailed_38 : decode cX4_keepFailed 38 = .ok (.iload_n 3, 1) := by decide +kernel
theorem dX4_keepFailed_39 : decode cX4_keepFailed 39 = .ok (.iastore, 1) := by decide +kernel
theorem dX4_keepFailed_40 : decode cX4_keepFailed 40 = .ok (.aload_n 0, 1) := by decide +kernel
theorem dX4_keepFailed_41 : decode cX4_keepFailed 41 = .ok (.getfield 21, 3) := by decide +kernel
theorem dX4_keepFailed_44 : decode cX4_keepFailed 44 = .ok (.iload_n 1, 1) := by decide +kernel
theorem dX4_keepFailed_45 : decode cX4_keepFailed 45 = .ok (.iload 4, 2) := by decide +kernel
theorem dX4_keepFailed_47 : decode cX4_keepFailed 47 = .ok (.iastore, 1) := by decide +kernel
theorem dX4_keepFailed_48 : decode cX4_keepFailed 48 = .ok (.aload_n 0, 1) := by decide +kernel
theorem dX4_keepFailed_49 : decode cX4_keepFailed 49 = .ok (.getfield 9, 3) := by decide +kernel
theorem dX4_keepFailed_52 : decode cX4_keepFailed 52 = .ok (.iconst 0, 1) := by decide +kernel
theorem dX4_keepFailed_53 : decode cX4_keepFailed 53 = .ok (.aload_n 0, 1) := by decide +kernel
theorem dX4_keepFailed_54 : decode cX4_keepFailed 54 = .ok (.getfield 26, 3) := by decide +kernel
theorem dX4_keepFailed_57 : decode cX4_keepFailed 57 = .ok (.iload_n 1, 1) := by decide +kernel
theorem dX4_keepFailed_58 : decode cX4_keepFailed 58 = .ok (.aaload, 1) := by decide +kernel
theorem dX4_keepFailed_59 : decode cX4_keepFailed 59 = .ok (.iconst 0, 1) := by decide +kernel
theorem dX4_keepFailed_60 : decode cX4_keepFailed 60 = .ok (.bipush 16, 2) := by decide +kernel
theorem dX4_keepFailed_62 : decode cX4_keepFailed 62 = .ok (.invokestatic 68, 3) := by decide +kernel
theorem dX4_keepFailed_65 : decode cX4_keepFailed 65 = .ok (.return_, 1) := by decide +kernel
theorem dX4_fillRow_0 : decode cX4_fillRow 0 = .ok (.iconst 0, 1) := by decide +kernel
theorem dX4_fillRow_1 : decode cX4_fillRow 1 = .ok (.istore_n 3, 1) := by decide +kernel
theorem dX4_fillRow_2 : decode cX4_fillRow 2 = .ok (.iload_n 3, 1) := by decide +kernel
theorem dX4_fillRow_3 : decode cX4_fillRow 3 = .ok (.bipush 16, 2) := by decide +kernel
theorem dX4_fillRow_5 : decode cX4_fillRow 5 = .ok (.if_icmp .ge 40, 3) := by decide +kernel
theorem dX4_fillRow_8 : decode cX4_fillRow 8 = .ok (.aload_n 2, 1) := by decide +kernel
theorem dX4_fillRow_9 : decode cX4_fillRow 9 = .ok (.iload_n 3, 1) := by decide +kernel
theorem dX4_fillRow_10 : decode cX4_fillRow 10 = .ok (.invokevirtual 74, 3) := by decide +kernel
theorem dX4_fillRow_13 : decode cX4_fillRow 13 = .ok (.ifCond .eq 26, 3) := by decide +kernel
theorem dX4_fillRow_16 : decode cX4_fillRow 16 = .ok (.aload_n 0, 1) := by decide +kernel
theorem dX4_fillRow_17 : decode cX4_fillRow 17 = .ok (.getfield 9, 3) := by decide +kernel
theorem dX4_fillRow_20 : decode cX4_fillRow 20 = .ok (.iload_n 3, 1) := by decide +kernel
theorem dX4_fillRow_21 : decode cX4_fillRow 21 = .ok (.aload_n 0, 1) := by decide +kernel
theorem dX4_fillRow_22 : decode cX4_fillRow 22 = .ok (.iload_n 1, 1) := by decide +kernel
theorem dX4_fillRow_23 : decode cX4_fillRow 23 = .ok (.aload_n 2, 1) := by decide +kernel
theorem dX4_fillRow_24 : decode cX4_fillRow 24 = .ok (.getfield 78, 3) := by decide +kernel
theorem dX4_fillRow_27 : decode cX4_fillRow 27 = .ok (.iload_n 3, 1) := by decide +kernel
theorem dX4_fillRow_28 : decode cX4_fillRow 28 = .ok (.iaload, 1) := by decide +kernel
theorem dX4_fillRow_29 : decode cX4_fillRow 29 = .ok (.aload_n 2, 1) := by decide +kernel
theorem dX4_fillRow_30 : decode cX4_fillRow 30 = .ok (.getfield 81, 3) := by decide +kernel
theorem dX4_fillRow_33 : decode cX4_fillRow 33 = .ok (.iload_n 3, 1) := by decide +kernel
theorem dX4_fillRow_34 : decode cX4_fillRow 34 = .ok (.iaload, 1) := by decide +kernel
theorem dX4_fillRow_35 : decode cX4_fillRow 35 = .ok (.invokevirtual 84, 3) := by decide +kernel
theorem dX4_fillRow_38 : decode cX4_fillRow 38 = .ok (.iastore, 1) := by decide +kernel
theorem dX4_fillRow_39 : decode cX4_fillRow 39 = .ok (.iinc 3 1, 3) := by decide +kernel
theorem dX4_fillRow_42 : decode cX4_fillRow 42 = .ok (.goto (-40), 3) := by decide +kernel
theorem dX4_fillRow_45 : decode cX4_fillRow 45 = .ok (.return_, 1) := by decide +kernel
theorem dX4_rowValue_0 : decode cX4_rowValue 0 = .ok (.iload_n 1, 1) := by decide +kernel
theorem dX4_rowValue_1 : decode cX4_rowValue 1 = .ok (.ifCond .ne 5, 3) := by decide +kernel
theorem dX4_rowValue_4 : decode cX4_rowValue 4 = .ok (.iload_n 2, 1) := by decide +kernel
theorem dX4_rowValue_5 : decode cX4_rowValue 5 = .ok (.ireturn, 1) := by decide +kernel
theorem dX4_rowValue_6 : decode cX4_rowValue 6 = .ok (.iload_n 1, 1) := by decide +kernel
theorem dX4_rowValue_7 : decode cX4_rowValue 7 = .ok (.iconst 1, 1) := by decide +kernel
theorem dX4_rowValue_8 : decode cX4_rowValue 8 = .ok (.if_icmp .ne 5, 3) := by decide +kernel
theorem dX4_rowValue_11 : decode cX4_rowValue 11 = .ok (.iload_n 3, 1) := by decide +kernel
theorem dX4_rowValue_12 : decode cX4_rowValue 12 = .ok (.ireturn, 1) := by decide +kernel
theorem dX4_rowValue_13 : decode cX4_rowValue 13 = .ok (.aload_n 0, 1) := by decide +kernel
theorem dX4_rowValue_14 : decode cX4_rowValue 14 = .ok (.sipush 421, 3) := by decide +kernel
theorem dX4_rowValue_17 : decode cX4_rowValue 17 = .ok (.aload_n 0, 1) := by decide +kernel
theorem dX4_rowValue_18 : decode cX4_rowValue 18 = .ok (.getfield 39, 3) := by decide +kernel
theorem dX4_rowValue_21 : decode cX4_rowValue 21 = .ok (.imul, 1) := by decide +kernel
theorem dX4_rowValue_22 : decode cX4_rowValue 22 = .ok (.sipush 1663, 3) := by decide +kernel
theorem dX4_rowValue_25 : decode cX4_rowValue 25 = .ok (.iadd, 1) := by decide +kernel
theorem dX4_rowValue_26 : decode cX4_rowValue 26 = .ok (.sipush 7875, 3) := by decide +kernel
theorem dX4_rowValue_29 : decode cX4_rowValue 29 = .ok (.invokestatic 88, 3) := by decide +kernel
theorem dX4_rowValue_32 : decode cX4_rowValue 32 = .ok (.putfield 39, 3) := by decide +kernel
theorem dX4_rowValue_35 : decode cX4_rowValue 35 = .ok (.iload_n 3, 1) := by decide +kernel
theorem dX4_rowValue_36 : decode cX4_rowValue 36 = .ok (.iload_n 2, 1) := by decide +kernel
theorem dX4_rowValue_37 : decode cX4_rowValue 37 = .ok (.isub, 1) := by decide +kernel
theorem dX4_rowValue_38 : decode cX4_rowValue 38 = .ok (.iconst 1, 1) := by decide +kernel
theorem dX4_rowValue_39 : decode cX4_rowValue 39 = .ok (.iadd, 1) := by decide +kernel
theorem dX4_rowValue_40 : decode cX4_rowValue 40 = .ok (.istore 4, 2) := by decide +kernel
theorem dX4_rowValue_42 : decode cX4_rowValue 42 = .ok (.iload 4, 2) := by decide +kernel
theorem dX4_rowValue_44 : decode cX4_rowValue 44 = .ok (.iconst 1, 1) := by decide +kernel
theorem dX4_rowValue_45 : decode cX4_rowValue 45 = .ok (.if_icmp .ge 7, 3) := by decide +kernel
theorem dX4_rowValue_48 : decode cX4_rowValue 48 = .ok (.iload_n 2, 1) := by decide +kernel
theorem dX4_rowValue_49 : decode cX4_rowValue 49 = .ok (.goto 12, 3) := by decide +kernel
theorem dX4_rowValue_52 : decode cX4_rowValue 52 = .ok (.iload_n 2, 1) := by decide +kernel
theorem dX4_rowValue_53 : decode cX4_rowValue 53 = .ok (.aload_n 0, 1) := by decide +kernel
theorem dX4_rowValue_54 : decode cX4_rowValue 54 = .ok (.getfield 39, 3) := by decide +kernel
theorem dX4_rowValue_57 : decode cX4_rowValue 57 = .ok (.iload 4, 2) := by decide +kernel
theorem dX4_rowValue_59 : decode cX4_rowValue 59 = .ok (.irem, 1) := by decide +kernel
theorem dX4_rowValue_60 : decode cX4_rowValue 60 = .ok (.iadd, 1) := by decide +kernel
theorem dX4_rowValue_61 : decode cX4_rowValue 61 = .ok (.ireturn, 1) := by decide +kernel
theorem dX4_makeSmaller_0 : decode cX4_makeSmaller 0 = .ok (.iconst 0, 1) := by decide +kernel
theorem dX4_makeSmaller_1 : decode cX4_makeSmaller 1 = .ok (.istore 5, 2) := by decide +kernel
theorem dX4_makeSmaller_3 : decode cX4_makeSmaller 3 = .ok (.iload 5, 2) := by decide +kernel
theorem dX4_makeSmaller_5 : decode cX4_makeSmaller 5 = .ok (.bipush 60, 2) := by decide +kernel
theorem dX4_makeSmaller_7 : decode cX4_makeSmaller 7 = .ok (.if_icmp .ge 24, 3) := by decide +kernel
theorem dX4_makeSmaller_10 : decode cX4_makeSmaller 10 = .ok (.aload_n 0, 1) := by decide +kernel
theorem dX4_makeSmaller_11 : decode cX4_makeSmaller 11 = .ok (.iload_n 1, 1) := by decide +kernel
theorem dX4_makeSmaller_12 : decode cX4_makeSmaller 12 = .ok (.aload_n 2, 1) := by decide +kernel
theorem dX4_makeSmaller_13 : decode cX4_makeSmaller 13 = .ok (.aload_n 3, 1) := by decide +kernel
theorem dX4_makeSmaller_14 : decode cX4_makeSmaller 14 = .ok (.iload 4, 2) := by decide +kernel
theorem dX4_makeSmaller_16 : decode cX4_makeSmaller 16 = .ok (.invokevirtual 94, 3) := by decide +kernel
theorem dX4_makeSmaller_19 : decode cX4_makeSmaller 19 = .ok (.ifCond .ne 6, 3) := by decide +kernel
theorem dX4_makeSmaller_22 : decode cX4_makeSmaller 22 = .ok (.iload 5, 2) := by decide +kernel
theorem dX4_makeSmaller_24 : decode cX4_makeSmaller 24 = .ok (.ireturn, 1) := by decide +kernel
theorem dX4_makeSmaller_25 : decode cX4_makeSmaller 25 = .ok (.iinc 5 1, 3) := by decide +kernel
theorem dX4_makeSmaller_28 : decode cX4_makeSmaller 28 = .ok (.goto (-25), 3) := by decide +kernel
theorem dX4_makeSmaller_31 : decode cX4_makeSmaller 31 = .ok (.bipush 60, 2) := by decide +kernel
theorem dX4_makeSmaller_33 : decode cX4_makeSmaller 33 = .ok (.ireturn, 1) := by decide +kernel
theorem dX4_stepSmaller_0 : decode cX4_stepSmaller 0 = .ok (.iconst 0, 1) := by decide +kernel
theorem dX4_stepSmaller_1 : decode cX4_stepSmaller 1 = .ok (.istore 5, 2) := by decide +kernel
theorem dX4_stepSmaller_3 : decode cX4_stepSmaller 3 = .ok (.iload 5, 2) := by decide +kernel
theorem dX4_stepSmaller_5 : decode cX4_stepSmaller 5 = .ok (.bipush 16, 2) := by decide +kernel
theorem dX4_stepSmaller_7 : decode cX4_stepSmaller 7 = .ok (.if_icmp .ge 93, 3) := by decide +kernel
theorem dX4_stepSmaller_10 : decode cX4_stepSmaller 10 = .ok (.aload_n 3, 1) := by decide +kernel
theorem dX4_stepSmaller_11 : decode cX4_stepSmaller 11 = .ok (.iload 5, 2) := by decide +kernel
theorem dX4_stepSmaller_13 : decode cX4_stepSmaller 13 = .ok (.invokevirtual 74, 3) := by decide +kernel
theorem dX4_stepSmaller_16 : decode cX4_stepSmaller 16 = .ok (.ifCond .ne 6, 3) := by decide +kernel
theorem dX4_stepSmaller_19 : decode cX4_stepSmaller 19 = .ok (.goto 75, 3) := by decide +kernel
theorem dX4_stepSmaller_22 : decode cX4_stepSmaller 22 = .ok (.aload_n 0, 1) := by decide +kernel
theorem dX4_stepSmaller_23 : decode cX4_stepSmaller 23 = .ok (.getfield 9, 3) := by decide +kernel
theorem dX4_stepSmaller_26 : decode cX4_stepSmaller 26 = .ok (.iload 5, 2) := by decide +kernel
theorem dX4_stepSmaller_28 : decode cX4_stepSmaller 28 = .ok (.iaload, 1) := by decide +kernel
theorem dX4_stepSmaller_29 : decode cX4_stepSmaller 29 = .ok (.aload_n 3, 1) := by decide +kernel
theorem dX4_stepSmaller_30 : decode cX4_stepSmaller 30 = .ok (.getfield 78, 3) := by decide +kernel
theorem dX4_stepSmaller_33 : decode cX4_stepSmaller 33 = .ok (.iload 5, 2) := by decide +kernel
theorem dX4_stepSmaller_35 : decode cX4_stepSmaller 35 = .ok (.iaload, 1) := by decide +kernel
theorem dX4_stepSmaller_36 : decode cX4_stepSmaller 36 = .ok (.isub, 1) := by decide +kernel
theorem dX4_stepSmaller_37 : decode cX4_stepSmaller 37 = .ok (.istore 6, 2) := by decide +kernel
theorem dX4_stepSmaller_39 : decode cX4_stepSmaller 39 = .ok (.iload 6, 2) := by decide +kernel
theorem dX4_stepSmaller_41 : decode cX4_stepSmaller 41 = .ok (.ifCond .le 53, 3) := by decide +kernel
theorem dX4_stepSmaller_44 : decode cX4_stepSmaller 44 = .ok (.aload_n 0, 1) := by decide +kernel
theorem dX4_stepSmaller_45 : decode cX4_stepSmaller 45 = .ok (.getfield 9, 3) := by decide +kernel
theorem dX4_stepSmaller_48 : decode cX4_stepSmaller 48 = .ok (.iload 5, 2) := by decide +kernel
theorem dX4_stepSmaller_50 : decode cX4_stepSmaller 50 = .ok (.dup2, 1) := by decide +kernel
theorem dX4_stepSmaller_51 : decode cX4_stepSmaller 51 = .ok (.iaload, 1) := by decide +kernel
theorem dX4_stepSmaller_52 : decode cX4_stepSmaller 52 = .ok (.iload 6, 2) := by decide +kernel
theorem dX4_stepSmaller_54 : decode cX4_stepSmaller 54 = .ok (.isub, 1) := by decide +kernel
theorem dX4_stepSmaller_55 : decode cX4_stepSmaller 55 = .ok (.iastore, 1) := by decide +kernel
theorem dX4_stepSmaller_56 : decode cX4_stepSmaller 56 = .ok (.aload_n 2, 1) := by decide +kernel
theorem dX4_stepSmaller_57 : decode cX4_stepSmaller 57 = .ok (.iload_n 1, 1) := by decide +kernel
theorem dX4_stepSmaller_58 : decode cX4_stepSmaller 58 = .ok (.aload_n 3, 1) := by decide +kernel
theorem dX4_stepSmaller_59 : decode cX4_stepSmaller 59 = .ok (.iload 4, 2) := by decide +kernel
theorem dX4_stepSmaller_61 : decode cX4_stepSmaller 61 = .ok (.aload_n 0, 1) := by decide +kernel
theorem dX4_stepSmaller_62 : decode cX4_stepSmaller 62 = .ok (.getfield 9, 3) := by decide +kernel
theorem dX4_stepSmaller_65 : decode cX4_stepSmaller 65 = .ok (.invokevirtual 98, 3) := by decide +kernel
theorem dX4_stepSmaller_68 : decode cX4_stepSmaller 68 = .ok (.ifCond .ne 5, 3) := by decide +kernel
theorem dX4_stepSmaller_71 : decode cX4_stepSmaller 71 = .ok (.iconst 1, 1) := by decide +kernel
theorem dX4_stepSmaller_72 : decode cX4_stepSmaller 72 = .ok (.ireturn, 1) := by decide +kernel
theorem dX4_stepSmaller_73 : decode cX4_stepSmaller 73 = .ok (.aload_n 0, 1) := by decide +kernel
theorem dX4_stepSmaller_74 : decode cX4_stepSmaller 74 = .ok (.getfield 9, 3) := by decide +kernel
theorem dX4_stepSmaller_77 : decode cX4_stepSmaller 77 = .ok (.iload 5, 2) := by decide +kernel
theorem dX4_stepSmaller_79 : decode cX4_stepSmaller 79 = .ok (.dup2, 1) := by decide +kernel
theorem dX4_stepSmaller_80 : decode cX4_stepSmaller 80 = .ok (.iaload, 1) := by decide +kernel
theorem dX4_stepSmaller_81 : decode cX4_stepSmaller 81 = .ok (.iload 6, 2) := by decide +kernel
theorem dX4_stepSmaller_83 : decode cX4_stepSmaller 83 = .ok (.iadd, 1) := by decide +kernel
theorem dX4_stepSmaller_84 : decode cX4_stepSmaller 84 = .ok (.iastore, 1) := by decide +kernel
theorem dX4_stepSmaller_85 : decode cX4_stepSmaller 85 = .ok (.iload 6, 2) := by decide +kernel
theorem dX4_stepSmaller_87 : decode cX4_stepSmaller 87 = .ok (.iconst 2, 1) := by decide +kernel
theorem dX4_stepSmaller_88 : decode cX4_stepSmaller 88 = .ok (.idiv, 1) := by decide +kernel
theorem dX4_stepSmaller_89 : decode cX4_stepSmaller 89 = .ok (.istore 6, 2) := by decide +kernel
theorem dX4_stepSmaller_91 : decode cX4_stepSmaller 91 = .ok (.goto (-52), 3) := by decide +kernel
theorem dX4_stepSmaller_94 : decode cX4_stepSmaller 94 = .ok (.iinc 5 1, 3) := by decide +kernel
theorem dX4_stepSmaller_97 : decode cX4_stepSmaller 97 = .ok (.goto (-94), 3) := by decide +kernel
theorem dX4_stepSmaller_100 : decode cX4_stepSmaller 100 = .ok (.iconst 0, 1) := by decide +kernel
theorem dX4_stepSmaller_101 : decode cX4_stepSmaller 101 = .ok (.ireturn, 1) := by decide +kernel
theorem dX5_init_0 : decode cX5_init 0 = .ok (.aload_n 0, 1) := by decide +kernel
theorem dX5_init_1 : decode cX5_init 1 = .ok (.invokespecial 1, 3) := by decide +kernel
theorem dX5_init_4 : decode cX5_init 4 = .ok (.aload_n 0, 1) := by decide +kernel
theorem dX5_init_5 : decode cX5_init 5 = .ok (.new 7, 3) := by decide +kernel
theorem dX5_init_8 : decode cX5_init 8 = .ok (.dup, 1) := by decide +kernel
theorem dX5_init_9 : decode cX5_init 9 = .ok (.invokespecial 9, 3) := by decide +kernel
theorem dX5_init_12 : decode cX5_init 12 = .ok (.putfield 10, 3) := by decide +kernel
theorem dX5_init_15 : decode cX5_init 15 = .ok (.aload_n 0, 1) := by decide +kernel
theorem dX5_init_16 : decode cX5_init 16 = .ok (.new 16, 3) := by decide +kernel
theorem dX5_init_19 : decode cX5_init 19 = .ok (.dup, 1) := by decide +kernel
theorem dX5_init_20 : decode cX5_init 20 = .ok (.invokespecial 18, 3) := by decide +kernel
theorem dX5_init_23 : decode cX5_init 23 = .ok (.putfield 19, 3) := by decide +kernel
theorem dX5_init_26 : decode cX5_init 26 = .ok (.aload_n 0, 1) := by decide +kernel
theorem dX5_init_27 : decode cX5_init 27 = .ok (.bipush 16, 2) := by decide +kernel
theorem dX5_init_29 : decode cX5_init 29 = .ok (.anewarray 23, 3) := by decide +kernel
theorem dX5_init_32 : decode cX5_init 32 = .ok (.putfield 25, 3) := by decide +kernel
theorem dX5_init_35 : decode cX5_init 35 = .ok (.iconst 0, 1) := by decide +kernel
theorem dX5_init_36 : decode cX5_init 36 = .ok (.istore_n 1, 1) := by decide +kernel
theorem dX5_init_37 : decode cX5_init 37 = .ok (.iload_n 1, 1) := by decide +kernel
theorem dX5_init_38 : decode cX5_init 38 = .ok (.bipush 16, 2) := by decide +kernel
theorem dX5_init_40 : decode cX5_init 40 = .ok (.if_icmp .ge 22, 3) := by decide +kernel
theorem dX5_init_43 : decode cX5_init 43 = .ok (.aload_n 0, 1) := by decide +kernel
theorem dX5_init_44 : decode cX5_init 44 = .ok (.getfield 25, 3) := by decide +kernel
theorem dX5_init_47 : decode cX5_init 47 = .ok (.iload_n 1, 1) := by decide +kernel
theorem dX5_init_48 : decode cX5_init 48 = .ok (.new 23, 3) := by decide +kernel
theorem dX5_init_51 : decode cX5_init 51 = .ok (.dup, 1) := by decide +kernel
theorem dX5_init_52 : decode cX5_init 52 = .ok (.invokespecial 29, 3) := by decide +kernel
theorem dX5_init_55 : decode cX5_init 55 = .ok (.aastore, 1) := by decide +kernel
theorem dX5_init_56 : decode cX5_init 56 = .ok (.iinc 1 1, 3) := by decide +kernel
theorem dX5_init_59 : decode cX5_init 59 = .ok (.goto (-22), 3) := by decide +kernel
theorem dX5_init_62 : decode cX5_init 62 = .ok (.aload_n 0, 1) := by decide +kernel
theorem dX5_init_63 : decode cX5_init 63 = .ok (.new 30, 3) := by decide +kernel
theorem dX5_init_66 : decode cX5_init 66 = .ok (.dup, 1) := by decide +kernel
theorem dX5_init_67 : decode cX5_init 67 = .ok (.invokespecial 32, 3) := by decide +kernel
theorem dX5_init_70 : decode cX5_init 70 = .ok (.putfield 33, 3) := by decide +kernel
theorem dX5_init_73 : decode cX5_init 73 = .ok (.aload_n 0, 1) := by decide +kernel
theorem dX5_init_74 : decode cX5_init 74 = .ok (.new 37, 3) := by decide +kernel
theorem dX5_init_77 : decode cX5_init 77 = .ok (.dup, 1) := by decide +kernel
theorem dX5_init_78 : decode cX5_init 78 = .ok (.invokespecial 39, 3) := by decide +kernel
theorem dX5_init_81 : decode cX5_init 81 = .ok (.putfield 40, 3) := by decide +kernel
theorem dX5_init_84 : decode cX5_init 84 = .ok (.return_, 1) := by decide +kernel
theorem dX5_number_0 : decode cX5_number 0 = .ok (.aload_n 0, 1) := by decide +kernel
theorem dX5_number_1 : decode cX5_number 1 = .ok (.getfield 10, 3) := by decide +kernel
theorem dX5_number_4 : decode cX5_number 4 = .ok (.bipush 12, 2) := by decide +kernel
theorem dX5_number_6 : decode cX5_number 6 = .ok (.iload_n 1, 1) := by decide +kernel
theorem dX5_number_7 : decode cX5_number 7 = .ok (.invokevirtual 44, 3) := by decide +kernel
theorem dX5_number_10 : decode cX5_number 10 = .ok (.ifCond .ne 13, 3) := by decide +kernel
theorem dX5_number_13 : decode cX5_number 13 = .ok (.new 48, 3) := by decide +kernel
theorem dX5_number_16 : decode cX5_number 16 = .ok (.dup, 1) := by decide +kernel
theorem dX5_number_17 : decode cX5_number 17 = .ok (.ldc 50, 2) := by decide +kernel
theorem dX5_number_19 : decode cX5_number 19 = .ok (.invokespecial 52, 3) := by decide +kernel
theorem dX5_number_22 : decode cX5_number 22 = .ok (.athrow, 1) := by decide +kernel
theorem dX5_number_23 : decode cX5_number 23 = .ok (.aload_n 0, 1) := by decide +kernel
theorem dX5_number_24 : decode cX5_number 24 = .ok (.getfield 10, 3) := by decide +kernel
theorem dX5_number_27 : decode cX5_number 27 = .ok (.getfield 55, 3) := by decide +kernel
theorem dX5_number_30 : decode cX5_number 30 = .ok (.ireturn, 1) := by decide +kernel
theorem dX5_cell_0 : decode cX5_cell 0 = .ok (.iload_n 1, 1) := by decide +kernel
theorem dX5_cell_1 : decode cX5_cell 1 = .ok (.invokestatic 59, 3) := by decide +kernel
theorem dX5_cell_4 : decode cX5_cell 4 = .ok (.aload_n 0, 1) := by decide +kernel
theorem dX5_cell_5 : decode cX5_cell 5 = .ok (.getfield 10, 3) := by decide +kernel
theorem dX5_cell_8 : decode cX5_cell 8 = .ok (.bipush 13, 2) := by decide +kernel
theorem dX5_cell_10 : decode cX5_cell 10 = .ok (.iload_n 1, 1) := by decide +kernel
theorem dX5_cell_11 : decode cX5_cell 11 = .ok (.invokevirtual 44, 3) := by decide +kernel
theorem dX5_cell_14 : decode cX5_cell 14 = .ok (.ifCond .ne 13, 3) := by decide +kernel
theorem dX5_cell_17 : decode cX5_cell 17 = .ok (.new 48, 3) := by decide +kernel
theorem dX5_cell_20 : decode cX5_cell 20 = .ok (.dup, 1) := by decide +kernel
theorem dX5_cell_21 : decode cX5_cell 21 = .ok (.ldc 50, 2) := by decide +kernel
theorem dX5_cell_23 : decode cX5_cell 23 = .ok (.invokespecial 52, 3) := by decide +kernel
theorem dX5_cell_26 : decode cX5_cell 26 = .ok (.athrow, 1) := by decide +kernel
theorem dX5_cell_27 : decode cX5_cell 27 = .ok (.aload_n 0, 1) := by decide +kernel
theorem dX5_cell_28 : decode cX5_cell 28 = .ok (.getfield 10, 3) := by decide +kernel
theorem dX5_cell_31 : decode cX5_cell 31 = .ok (.getfield 55, 3) := by decide +kernel
theorem dX5_cell_34 : decode cX5_cell 34 = .ok (.ireturn, 1) := by decide +kernel
theorem dX5_apply_0 : decode cX5_apply 0 = .ok (.iload_n 1, 1) := by decide +kernel
theorem dX5_apply_1 : decode cX5_apply 1 = .ok (.ifCond .lt 9, 3) := by decide +kernel
theorem dX5_apply_4 : decode cX5_apply 4 = .ok (.iload_n 1, 1) := by decide +kernel
theorem dX5_apply_5 : decode cX5_apply 5 = .ok (.bipush 12, 2) := by decide +kernel
theorem dX5_apply_7 : decode cX5_apply 7 = .ok (.if_icmp .lt 13, 3) := by decide +kernel
theorem dX5_apply_10 : decode cX5_apply 10 = .ok (.new 63, 3) := by decide +kernel
theorem dX5_apply_13 : decode cX5_apply 13 = .ok (.dup, 1) := by decide +kernel
theorem dX5_apply_14 : decode cX5_apply 14 = .ok (.ldc 65, 2) := by decide +kernel
theorem dX5_apply_16 : decode cX5_apply 16 = .ok (.invokespecial 67, 3) := by decide +kernel
theorem dX5_apply_19 : decode cX5_apply 19 = .ok (.athrow, 1) := by decide +kernel
theorem dX5_apply_20 : decode cX5_apply 20 = .ok (.aload_n 0, 1) := by decide +kernel
theorem dX5_apply_21 : decode cX5_apply 21 = .ok (.getfield 10, 3) := by decide +kernel
theorem dX5_apply_24 : decode cX5_apply 24 = .ok (.iload_n 1, 1) := by decide +kernel
theorem dX5_apply_25 : decode cX5_apply 25 = .ok (.iconst 0, 1) := by decide +kernel
theorem dX5_apply_26 : decode cX5_apply 26 = .ok (.invokevirtual 44, 3) := by decide +kernel
theorem dX5_apply_29 : decode cX5_apply 29 = .ok (.ifCond .ne 13, 3) := by decide +kernel
theorem dX5_apply_32 : decode cX5_apply 32 = .ok (.new 48, 3) := by decide +kernel
theorem dX5_apply_35 : decode cX5_apply 35 = .ok (.dup, 1) := by decide +kernel
theorem dX5_apply_36 : decode cX5_apply 36 = .ok (.ldc 68, 2) := by decide +kernel
theorem dX5_apply_38 : decode cX5_apply 38 = .ok (.invokespecial 52, 3) := by decide +kernel
theorem dX5_apply_41 : decode cX5_apply 41 = .ok (.athrow, 1) := by decide +kernel
theorem dX5_apply_42 : decode cX5_apply 42 = .ok (.aload_n 0, 1) := by decide +kernel
theorem dX5_apply_43 : decode cX5_apply 43 = .ok (.getfield 10, 3) := by decide +kernel
theorem dX5_apply_46 : decode cX5_apply 46 = .ok (.getfield 55, 3) := by decide +kernel
theorem dX5_apply_49 : decode cX5_apply 49 = .ok (.ireturn, 1) := by decide +kernel
theorem dX5_wipe_0 : decode cX5_wipe 0 = .ok (.aload_n 0, 1) := by decide +kernel
theorem dX5_wipe_1 : decode cX5_wipe 1 = .ok (.getfield 10, 3) := by decide +kernel
theorem dX5_wipe_4 : decode cX5_wipe 4 = .ok (.getfield 70, 3) := by decide +kernel
theorem dX5_wipe_7 : decode cX5_wipe 7 = .ok (.istore_n 1, 1) := by decide +kernel
theorem dX5_wipe_8 : decode cX5_wipe 8 = .ok (.aload_n 0, 1) := by decide +kernel
theorem dX5_wipe_9 : decode cX5_wipe 9 = .ok (.getfield 10, 3) := by decide +kernel
theorem dX5_wipe_12 : decode cX5_wipe 12 = .ok (.invokevirtual 73, 3) := by decide +kernel
theorem dX5_wipe_15 : decode cX5_wipe 15 = .ok (.iload_n 1, 1) := by decide +kernel
theorem dX5_wipe_16 : decode cX5_wipe 16 = .ok (.ireturn, 1) := by decide +kernel
theorem dX5_enter_0 : decode cX5_enter 0 = .ok (.iload_n 1, 1) := by decide +kernel
theorem dX5_enter_1 : decode cX5_enter 1 = .ok (.invokestatic 59, 3) := by decide +kernel
theorem dX5_enter_4 : decode cX5_enter 4 = .ok (.aload_n 0, 1) := by decide +kernel
theorem dX5_enter_5 : decode cX5_enter 5 = .ok (.getfield 10, 3) := by decide +kernel
theorem dX5_enter_8 : decode cX5_enter 8 = .ok (.getfield 55, 3) := by decide +kernel
theorem dX5_enter_11 : decode cX5_enter 11 = .ok (.iconst 1, 1) := by decide +kernel
theorem dX5_enter_12 : decode cX5_enter 12 = .ok (.if_icmp .eq 13, 3) := by decide +kernel
theorem dX5_enter_15 : decode cX5_enter 15 = .ok (.new 48, 3) := by decide +kernel
theorem dX5_enter_18 : decode cX5_enter 18 = .ok (.dup, 1) := by decide +kernel
theorem dX5_enter_19 : decode cX5_enter 19 = .ok (.ldc 76, 2) := by decide +kernel
theorem dX5_enter_21 : decode cX5_enter 21 = .ok (.invokespecial 52, 3) := by decide +kernel
theorem dX5_enter_24 : decode cX5_enter 24 = .ok (.athrow, 1) := by decide +kernel
theorem dX5_enter_25 : decode cX5_enter 25 = .ok (.aload_n 0, 1) := by decide +kernel
theorem dX5_enter_26 : decode cX5_enter 26 = .ok (.getfield 19, 3) := by decide +kernel
theorem dX5_enter_29 : decode cX5_enter 29 = .ok (.iload_n 1, 1) := by decide +kernel
theorem dX5_enter_30 : decode cX5_enter 30 = .ok (.aload_n 0, 1) := by decide +kernel
theorem dX5_enter_31 : decode cX5_enter 31 = .ok (.getfield 10, 3) := by decide +kernel
theorem dX5_enter_34 : decode cX5_enter 34 = .ok (.invokevirtual 78, 3) := by decide +kernel
theorem dX5_enter_37 : decode cX5_enter 37 = .ok (.ifCond .eq 13, 3) := by decide +kernel
theorem dX5_enter_40 : decode cX5_enter 40 = .ok (.new 48, 3) := by decide +kernel
theorem dX5_enter_43 : decode cX5_enter 43 = .ok (.dup, 1) := by decide +kernel
theorem dX5_enter_44 : decode cX5_enter 44 = .ok (.ldc 82, 2) := by decide +kernel
theorem dX5_enter_46 : decode cX5_enter 46 = .ok (.invokespecial 52, 3) := by decide +kernel
theorem dX5_enter_49 : decode cX5_enter 49 = .ok (.athrow, 1) := by decide +kernel
theorem dX5_enter_50 : decode cX5_enter 50 = .ok (.aload_n 0, 1) := by decide +kernel
theorem dX5_enter_51 : decode cX5_enter 51 = .ok (.getfield 19, 3) := by decide +kernel
theorem dX5_enter_54 : decode cX5_enter 54 = .ok (.iload_n 1, 1) := by decide +kernel
theorem dX5_enter_55 : decode cX5_enter 55 = .ok (.aload_n 0, 1) := by decide +kernel
theorem dX5_enter_56 : decode cX5_enter 56 = .ok (.getfield 10, 3) := by decide +kernel
theorem dX5_enter_59 : decode cX5_enter 59 = .ok (.invokevirtual 84, 3) := by decide +kernel
theorem dX5_enter_62 : decode cX5_enter 62 = .ok (.aload_n 0, 1) := by decide +kernel
theorem dX5_enter_63 : decode cX5_enter 63 = .ok (.getfield 10, 3) := by decide +kernel
theorem dX5_enter_66 : decode cX5_enter 66 = .ok (.invokevirtual 73, 3) := by decide +kernel
theorem dX5_enter_69 : decode cX5_enter 69 = .ok (.aload_n 0, 1) := by decide +kernel
theorem dX5_enter_70 : decode cX5_enter 70 = .ok (.iload_n 1, 1) := by decide +kernel
theorem dX5_enter_71 : decode cX5_enter 71 = .ok (.invokevirtual 88, 3) := by decide +kernel
theorem dX5_enter_74 : decode cX5_enter 74 = .ok (.ireturn, 1) := by decide +kernel
theorem dX5_input_0 : decode cX5_input 0 = .ok (.iload_n 1, 1) := by decide +kernel
theorem dX5_input_1 : decode cX5_input 1 = .ok (.invokestatic 59, 3) := by decide +kernel
theorem dX5_input_4 : decode cX5_input 4 = .ok (.iload_n 2, 1) := by decide +kernel
theorem dX5_input_5 : decode cX5_input 5 = .ok (.ldc 92, 2) := by decide +kernel
theorem dX5_input_7 : decode cX5_input 7 = .ok (.if_icmp .lt 20, 3) := by decide +kernel
theorem dX5_input_10 : decode cX5_input 10 = .ok (.iload_n 2, 1) := by decide +kernel
theorem dX5_input_11 : decode cX5_input 11 = .ok (.ldc 93, 2) := by decide +kernel
theorem dX5_input_13 : decode cX5_input 13 = .ok (.if_icmp .gt 14, 3) := by decide +kernel
theorem dX5_input_16 : decode cX5_input 16 = .ok (.iload_n 3, 1) := by decide +kernel
theorem dX5_input_17 : decode cX5_input 17 = .ok (.iload_n 2, 1) := by decide +kernel
theorem dX5_input_18 : decode cX5_input 18 = .ok (.if_icmp .lt 9, 3) := by decide +kernel
theorem dX5_input_21 : decode cX5_input 21 = .ok (.iload_n 3, 1) := by decide +kernel
theorem dX5_input_22 : decode cX5_input 22 = .ok (.ldc 93, 2) := by decide +kernel
theorem dX5_input_24 : decode cX5_input 24 = .ok (.if_icmp .le 13, 3) := by decide +kernel
theorem dX5_input_27 : decode cX5_input 27 = .ok (.new 63, 3) := by decide +kernel
theorem dX5_input_30 : decode cX5_input 30 = .ok (.dup, 1) := by decide +kernel
theorem dX5_input_31 : decode cX5_input 31 = .ok (.ldc 94, 2) := by decide +kernel
theorem dX5_input_33 : decode cX5_input 33 = .ok (.invokespecial 67, 3) := by decide +kernel
theorem dX5_input_36 : decode cX5_input 36 = .ok (.athrow, 1) := by decide +kernel
theorem dX5_input_37 : decode cX5_input 37 = .ok (.aload_n 0, 1) := by decide +kernel
theorem dX5_input_38 : decode cX5_input 38 = .ok (.getfield 19, 3) := by decide +kernel
theorem dX5_input_41 : decode cX5_input 41 = .ok (.iload_n 1, 1) := by decide +kernel
theorem dX5_input_42 : decode cX5_input 42 = .ok (.iload_n 2, 1) := by decide +kernel
theorem dX5_input_43 : decode cX5_input 43 = .ok (.iload_n 3, 1) := by decide +kernel
theorem dX5_input_44 : decode cX5_input 44 = .ok (.invokevirtual 96, 3) := by decide +kernel
theorem dX5_input_47 : decode cX5_input 47 = .ok (.aload_n 0, 1) := by decide +kernel
theorem dX5_input_48 : decode cX5_input 48 = .ok (.iload_n 1, 1) := by decide +kernel
theorem dX5_input_49 : decode cX5_input 49 = .ok (.invokevirtual 88, 3) := by decide +kernel
theorem dX5_input_52 : decode cX5_input 52 = .ok (.ireturn, 1) := by decide +kernel
theorem dX5_set_0 : decode cX5_set 0 = .ok (.iload_n 1, 1) := by decide +kernel
theorem dX5_set_1 : decode cX5_set 1 = .ok (.invokestatic 59, 3) := by decide +kernel
theorem dX5_set_4 : decode cX5_set 4 = .ok (.aload_n 0, 1) := by decide +kernel
theorem dX5_set_5 : decode cX5_set 5 = .ok (.getfield 19, 3) := by decide +kernel
theorem dX5_set_8 : decode cX5_set 8 = .ok (.iload_n 1, 1) := by decide +kernel
theorem dX5_set_9 : decode cX5_set 9 = .ok (.invokevirtual 100, 3) := by decide +kernel
theorem dX5_set_12 : decode cX5_set 12 = .ok (.ifCond .ne 13, 3) := by decide +kernel
theorem dX5_set_15 : decode cX5_set 15 = .ok (.new 48, 3) := by decide +kernel
theorem dX5_set_18 : decode cX5_set 18 = .ok (.dup, 1) := by decide +kernel
theorem dX5_set_19 : decode cX5_set 19 = .ok (.ldc 104, 2) := by decide +kernel
theorem dX5_set_21 : decode cX5_set 21 = .ok (.invokespecial 52, 3) := by decide +kernel
theorem dX5_set_24 : decode cX5_set 24 = .ok (.athrow, 1) := by decide +kernel
theorem dX5_set_25 : decode cX5_set 25 = .ok (.iload_n 2, 1) := by decide +kernel
theorem dX5_set_26 : decode cX5_set 26 = .ok (.aload_n 0, 1) := by decide +kernel
theorem dX5_set_27 : decode cX5_set 27 = .ok (.getfield 19, 3) := by decide +kernel
theorem dX5_set_30 : decode cX5_set 30 = .ok (.getfield 106, 3) := by decide +kernel
theorem dX5_set_33 : decode cX5_set 33 = .ok (.iload_n 1, 1) := by decide +kernel
theorem dX5_set_34 : decode cX5_set 34 = .ok (.iaload, 1) := by decide +kernel
theorem dX5_set_35 : decode cX5_set 35 = .ok (.if_icmp .lt 16, 3) := by decide +kernel
theorem dX5_set_38 : decode cX5_set 38 = .ok (.iload_n 2, 1) := by decide +kernel
theorem dX5_set_39 : decode cX5_set 39 = .ok (.aload_n 0, 1) := by decide +kernel
theorem dX5_set_40 : decode cX5_set 40 = .ok (.getfield 19, 3) := by decide +kernel
theorem dX5_set_43 : decode cX5_set 43 = .ok (.getfield 110, 3) := by decide +kernel
theorem dX5_set_46 : decode cX5_set 46 = .ok (.iload_n 1, 1) := by decide +kernel
theorem dX5_set_47 : decode cX5_set 47 = .ok (.iaload, 1) := by decide +kernel
theorem dX5_set_48 : decode cX5_set 48 = .ok (.if_icmp .le 13, 3) := by decide +kernel
theorem dX5_set_51 : decode cX5_set 51 = .ok (.new 63, 3) := by decide +kernel
theorem dX5_set_54 : decode cX5_set 54 = .ok (.dup, 1) := by decide +kernel
theorem dX5_set_55 : decode cX5_set 55 = .ok (.ldc 113, 2) := by decide +kernel
theorem dX5_set_57 : decode cX5_set 57 = .ok (.invokespecial 67, 3) := by decide +kernel
theorem dX5_set_60 : decode cX5_set 60 = .ok (.athrow, 1) := by decide +kernel
theorem dX5_set_61 : decode cX5_set 61 = .ok (.aload_n 0, 1) := by decide +kernel
theorem dX5_set_62 : decode cX5_set 62 = .ok (.getfield 19, 3) := by decide +kernel
theorem dX5_set_65 : decode cX5_set 65 = .ok (.getfield 115, 3) := by decide +kernel
theorem dX5_set_68 : decode cX5_set 68 = .ok (.iload_n 1, 1) := by decide +kernel
theorem dX5_set_69 : decode cX5_set 69 = .ok (.iaload, 1) := by decide +kernel
theorem dX5_set_70 : decode cX5_set 70 = .ok (.istore_n 3, 1) := by decide +kernel
theorem dX5_set_71 : decode cX5_set 71 = .ok (.aload_n 0, 1) := by decide +kernel
theorem dX5_set_72 : decode cX5_set 72 = .ok (.getfield 19, 3) := by decide +kernel
theorem dX5_set_75 : decode cX5_set 75 = .ok (.getfield 115, 3) := by decide +kernel
theorem dX5_set_78 : decode cX5_set 78 = .ok (.iload_n 1, 1) := by decide +kernel
theorem dX5_set_79 : decode cX5_set 79 = .ok (.iload_n 2, 1) := by decide +kernel
theorem dX5_set_80 : decode cX5_set 80 = .ok (.iastore, 1) := by decide +kernel
theorem dX5_set_81 : decode cX5_set 81 = .ok (.iload_n 3, 1) := by decide +kernel
theorem dX5_set_82 : decode cX5_set 82 = .ok (.ireturn, 1) := by decide +kernel
theorem dX5_tell_0 : decode cX5_tell 0 = .ok (.iload_n 1, 1) := by decide +kernel
theorem dX5_tell_1 : decode cX5_tell 1 = .ok (.invokestatic 59, 3) := by decide +kernel
theorem dX5_tell_4 : decode cX5_tell 4 = .ok (.iload_n 2, 1) := by decide +kernel
theorem dX5_tell_5 : decode cX5_tell 5 = .ok (.iconst 2, 1) := by decide +kernel
theorem dX5_tell_6 : decode cX5_tell 6 = .ok (.if_icmp .eq 8, 3) := by decide +kernel
theorem dX5_tell_9 : decode cX5_tell 9 = .ok (.iload_n 2, 1) := by decide +kernel
theorem dX5_tell_10 : decode cX5_tell 10 = .ok (.iconst 3, 1) := by decide +kernel
theorem dX5_tell_11 : decode cX5_tell 11 = .ok (.if_icmp .ne 7, 3) := by decide +kernel
theorem dX5_tell_14 : decode cX5_tell 14 = .ok (.iload_n 3, 1) := by decide +kernel
theorem dX5_tell_15 : decode cX5_tell 15 = .ok (.invokestatic 59, 3) := by decide +kernel
theorem dX5_tell_18 : decode cX5_tell 18 = .ok (.iload_n 2, 1) := by decide +kernel
theorem dX5_tell_19 : decode cX5_tell 19 = .ok (.ifCond .lt 8, 3) := by decide +kernel
theorem dX5_tell_22 : decode cX5_tell 22 = .ok (.iload_n 2, 1) := by decide +kernel
theorem dX5_tell_23 : decode cX5_tell 23 = .ok (.iconst 3, 1) := by decide +kernel
theorem dX5_tell_24 : decode cX5_tell 24 = .ok (.if_icmp .le 13, 3) := by decide +kernel
theorem dX5_tell_27 : decode cX5_tell 27 = .ok (.new 63, 3) := by decide +kernel
theorem dX5_tell_30 : decode cX5_tell 30 = .ok (.dup, 1) := by decide +kernel
theorem dX5_tell_31 : decode cX5_tell 31 = .ok (.ldc 118, 2) := by decide +kernel
theorem dX5_tell_33 : decode cX5_tell 33 = .ok (.invokespecial 67, 3) := by decide +kernel
theorem dX5_tell_36 : decode cX5_tell 36 = .ok (.athrow, 1) := by decide +kernel
theorem dX5_tell_37 : decode cX5_tell 37 = .ok (.aload_n 0, 1) := by decide +kernel
theorem dX5_tell_38 : decode cX5_tell 38 = .ok (.getfield 25, 3) := by decide +kernel
theorem dX5_tell_41 : decode cX5_tell 41 = .ok (.iload_n 1, 1) := by decide +kernel
theorem dX5_tell_42 : decode cX5_tell 42 = .ok (.aaload, 1) := by decide +kernel
theorem dX5_tell_43 : decode cX5_tell 43 = .ok (.iload_n 2, 1) := by decide +kernel
theorem dX5_tell_44 : decode cX5_tell 44 = .ok (.iload_n 3, 1) := by decide +kernel
theorem dX5_tell_45 : decode cX5_tell 45 = .ok (.invokevirtual 120, 3) := by decide +kernel
theorem dX5_tell_48 : decode cX5_tell 48 = .ok (.ifCond .ne 13, 3) := by decide +kernel
theorem dX5_tell_51 : decode cX5_tell 51 = .ok (.new 48, 3) := by decide +kernel
theorem dX5_tell_54 : decode cX5_tell 54 = .ok (.dup, 1) := by decide +kernel
theorem dX5_tell_55 : decode cX5_tell 55 = .ok (.ldc 123, 2) := by decide +kernel
theorem dX5_tell_57 : decode cX5_tell 57 = .ok (.invokespecial 52, 3) := by decide +kernel
theorem dX5_tell_60 : decode cX5_tell 60 = .ok (.athrow, 1) := by decide +kernel
theorem dX5_tell_61 : decode cX5_tell 61 = .ok (.aload_n 0, 1) := by decide +kernel
theorem dX5_tell_62 : decode cX5_tell 62 = .ok (.getfield 33, 3) := by decide +kernel
theorem dX5_tell_65 : decode cX5_tell 65 = .ok (.iconst 1, 1) := by decide +kernel
theorem dX5_tell_66 : decode cX5_tell 66 = .ok (.iload_n 1, 1) := by decide +kernel
theorem dX5_tell_67 : decode cX5_tell 67 = .ok (.ishl, 1) := by decide +kernel
theorem dX5_tell_68 : decode cX5_tell 68 = .ok (.invokevirtual 125, 3) := by decide +kernel
theorem dX5_tell_71 : decode cX5_tell 71 = .ok (.pop, 1) := by decide +kernel
theorem dX5_tell_72 : decode cX5_tell 72 = .ok (.aload_n 0, 1) := by decide +kernel
theorem dX5_tell_73 : decode cX5_tell 73 = .ok (.getfield 25, 3) := by decide +kernel
theorem dX5_tell_76 : decode cX5_tell 76 = .ok (.iload_n 1, 1) := by decide +kernel
theorem dX5_tell_77 : decode cX5_tell 77 = .ok (.aaload, 1) := by decide +kernel
theorem dX5_tell_78 : decode cX5_tell 78 = .ok (.getfield 128, 3) := by decide +kernel
theorem dX5_tell_81 : decode cX5_tell 81 = .ok (.ireturn, 1) := by decide +kernel
theorem dX5_drop_0 : decode cX5_drop 0 = .ok (.iload_n 1, 1) := by decide +kernel
theorem dX5_drop_1 : decode cX5_drop 1 = .ok (.invokestatic 59, 3) := by decide +kernel
theorem dX5_drop_4 : decode cX5_drop 4 = .ok (.aload_n 0, 1) := by decide +kernel
theorem dX5_drop_5 : decode cX5_drop 5 = .ok (.getfield 25, 3) := by decide +kernel
theorem dX5_drop_8 : decode cX5_drop 8 = .ok (.iload_n 1, 1) := by decide +kernel
theorem dX5_drop_9 : decode cX5_drop 9 = .ok (.aaload, 1) := by decide +kernel
theorem dX5_drop_10 : decode cX5_drop 10 = .ok (.getfield 128, 3) := by decide +kernel
theorem dX5_drop_13 : decode cX5_drop 13 = .ok (.istore_n 2, 1) := by decide +kernel
theorem dX5_drop_14 : decode cX5_drop 14 = .ok (.aload_n 0, 1) := by decide +kernel
theorem dX5_drop_15 : decode cX5_drop 15 = .ok (.getfield 25, 3) := by decide +kernel
theorem dX5_drop_18 : decode cX5_drop 18 = .ok (.iload_n 1, 1) := by decide +kernel
theorem dX5_drop_19 : decode cX5_drop 19 = .ok (.aaload, 1) := by decide +kernel
theorem dX5_drop_20 : decode cX5_drop 20 = .ok (.iconst 0, 1) := by decide +kernel
theorem dX5_drop_21 : decode cX5_drop 21 = .ok (.putfield 128, 3) := by decide +kernel
theorem dX5_drop_24 : decode cX5_drop 24 = .ok (.iload_n 2, 1) := by decide +kernel
theorem dX5_drop_25 : decode cX5_drop 25 = .ok (.ireturn, 1) := by decide +kernel
theorem dX5_own_0 : decode cX5_own 0 = .ok (.iload_n 1, 1) := by decide +kernel
theorem dX5_own_1 : decode cX5_own 1 = .ok (.invokestatic 59, 3) := by decide +kernel
theorem dX5_own_4 : decode cX5_own 4 = .ok (.iload_n 2, 1) := by decide +kernel
theorem dX5_own_5 : decode cX5_own 5 = .ok (.ifCond .lt 9, 3) := by decide +kernel
theorem dX5_own_8 : decode cX5_own 8 = .ok (.iload_n 2, 1) := by decide +kernel
theorem dX5_own_9 : decode cX5_own 9 = .ok (.bipush 6, 2) := by decide +kernel
theorem dX5_own_11 : decode cX5_own 11 = .ok (.if_icmp .lt 13, 3) := by decide +kernel
theorem dX5_own_14 : decode cX5_own 14 = .ok (.new 63, 3) := by decide +kernel
theorem dX5_own_17 : decode cX5_own 17 = .ok (.dup, 1) := by decide +kernel
theorem dX5_own_18 : decode cX5_own 18 = .ok (.ldc 131, 2) := by decide +kernel
theorem dX5_own_20 : decode cX5_own 20 = .ok (.invokespecial 67, 3) := by decide +kernel
theorem dX5_own_23 : decode cX5_own 23 = .ok (.athrow, 1) := by decide +kernel
theorem dX5_own_24 : decode cX5_own 24 = .ok (.aload_n 0, 1) := by decide +kernel
theorem dX5_own_25 : decode cX5_own 25 = .ok (.getfield 40, 3) := by decide +kernel
theorem dX5_own_28 : decode cX5_own 28 = .ok (.getfield 133, 3) := by decide +kernel
theorem dX5_own_31 : decode cX5_own 31 = .ok (.iload_n 1, 1) := by decide +kernel
theorem dX5_own_32 : decode cX5_own 32 = .ok (.iaload, 1) := by decide +kernel
theorem dX5_own_33 : decode cX5_own 33 = .ok (.istore_n 3, 1) := by decide +kernel
theorem dX5_own_34 : decode cX5_own 34 = .ok (.aload_n 0, 1) := by decide +kernel
theorem dX5_own_35 : decode cX5_own 35 = .ok (.getfield 40, 3) := by decide +kernel
theorem dX5_own_38 : decode cX5_own 38 = .ok (.getfield 133, 3) := by decide +kernel
theorem dX5_own_41 : decode cX5_own 41 = .ok (.iload_n 1, 1) := by decide +kernel
theorem dX5_own_42 : decode cX5_own 42 = .ok (.iload_n 2, 1) := by decide +kernel
theorem dX5_own_43 : decode cX5_own 43 = .ok (.iastore, 1) := by decide +kernel
theorem dX5_own_44 : decode cX5_own 44 = .ok (.iload_n 3, 1) := by decide +kernel
theorem dX5_own_45 : decode cX5_own 45 = .ok (.ireturn, 1) := by decide +kernel
theorem dX5_attempt_0 : decode cX5_attempt 0 = .ok (.iload_n 1, 1) := by decide +kernel
theorem dX5_attempt_1 : decode cX5_attempt 1 = .ok (.invokestatic 59, 3) := by decide +kernel
theorem dX5_attempt_4 : decode cX5_attempt 4 = .ok (.iload_n 2, 1) := by decide +kernel
theorem dX5_attempt_5 : decode cX5_attempt 5 = .ok (.ifCond .lt 21, 3) := by decide +kernel
theorem dX5_attempt_8 : decode cX5_attempt 8 = .ok (.iload_n 2, 1) := by decide +kernel
theorem dX5_attempt_9 : decode cX5_attempt 9 = .ok (.sipush 7875, 3) := by decide +kernel
theorem dX5_attempt_12 : decode cX5_attempt 12 = .ok (.if_icmp .ge 14, 3) := by decide +kernel
theorem dX5_attempt_15 : decode cX5_attempt 15 = .ok (.iload_n 3, 1) := by decide +kernel
theorem dX5_attempt_16 : decode cX5_attempt 16 = .ok (.iconst 1, 1) := by decide +kernel
theorem dX5_attempt_17 : decode cX5_attempt 17 = .ok (.if_icmp .lt 9, 3) := by decide +kernel
theorem dX5_attempt_20 : decode cX5_attempt 20 = .ok (.iload_n 3, 1) := by decide +kernel
theorem dX5_attempt_21 : decode cX5_attempt 21 = .ok (.bipush 20, 2) := by decide +kernel
theorem dX5_attempt_23 : decode cX5_attempt 23 = .ok (.if_icmp .le 13, 3) := by decide +kernel
theorem dX5_attempt_26 : decode cX5_attempt 26 = .ok (.new 63, 3) := by decide +kernel
theorem dX5_attempt_29 : decode cX5_attempt 29 = .ok (.dup, 1) := by decide +kernel
theorem dX5_attempt_30 : decode cX5_attempt 30 = .ok (.ldc 136, 2) := by decide +kernel
theorem dX5_attempt_32 : decode cX5_attempt 32 = .ok (.invokespecial 67, 3) := by decide +kernel
theorem dX5_attempt_35 : decode cX5_attempt 35 = .ok (.athrow, 1) := by decide +kernel
theorem dX5_attempt_36 : decode cX5_attempt 36 = .ok (.aload_n 0, 1) := by decide +kernel
theorem dX5_attempt_37 : decode cX5_attempt 37 = .ok (.getfield 33, 3) := by decide +kernel
theorem dX5_attempt_40 : decode cX5_attempt 40 = .ok (.getfield 138, 3) := by decide +kernel
theorem dX5_attempt_43 : decode cX5_attempt 43 = .ok (.iload_n 1, 1) := by decide +kernel
theorem dX5_attempt_44 : decode cX5_attempt 44 = .ok (.invokestatic 141, 3) := by decide +kernel
theorem dX5_attempt_47 : decode cX5_attempt 47 = .ok (.istore 4, 2) := by decide +kernel
theorem dX5_attempt_49 : decode cX5_attempt 49 = .ok (.aload_n 0, 1) := by decide +kernel
theorem dX5_attempt_50 : decode cX5_attempt 50 = .ok (.invokevirtual 144, 3) := by decide +kernel
theorem dX5_attempt_53 : decode cX5_attempt 53 = .ok (.istore 5, 2) := by decide +kernel
theorem dX5_attempt_55 : decode cX5_attempt 55 = .ok (.aload_n 0, 1) := by decide +kernel
theorem dX5_attempt_56 : decode cX5_attempt 56 = .ok (.getfield 33, 3) := by decide +kernel
theorem dX5_attempt_59 : decode cX5_attempt 59 = .ok (.aload_n 0, 1) := by decide +kernel
theorem dX5_attempt_60 : decode cX5_attempt 60 = .ok (.getfield 19, 3) := by decide +kernel
theorem dX5_attempt_63 : decode cX5_attempt 63 = .ok (.aload_n 0, 1) := by decide +kernel
theorem dX5_attempt_64 : decode cX5_attempt 64 = .ok (.getfield 25, 3) := by decide +kernel
theorem dX5_attempt_67 : decode cX5_attempt 67 = .ok (.iload_n 1, 1) := by decide +kernel
theorem dX5_attempt_68 : decode cX5_attempt 68 = .ok (.aaload, 1) := by decide +kernel
theorem dX5_attempt_69 : decode cX5_attempt 69 = .ok (.iload_n 1, 1) := by decide +kernel
theorem dX5_attempt_70 : decode cX5_attempt 70 = .ok (.iload_n 2, 1) := by decide +kernel
theorem dX5_attempt_71 : decode cX5_attempt 71 = .ok (.iload_n 3, 1) := by decide +kernel
theorem dX5_attempt_72 : decode cX5_attempt 72 = .ok (.invokevirtual 148, 3) := by decide +kernel
theorem dX5_attempt_75 : decode cX5_attempt 75 = .ok (.istore 6, 2) := by decide +kernel
theorem dX5_attempt_77 : decode cX5_attempt 77 = .ok (.iload 4, 2) := by decide +kernel
theorem dX5_attempt_79 : decode cX5_attempt 79 = .ok (.ifCond .eq 30, 3) := by decide +kernel
theorem dX5_attempt_82 : decode cX5_attempt 82 = .ok (.iload 6, 2) := by decide +kernel
theorem dX5_attempt_84 : decode cX5_attempt 84 = .ok (.iconst (-1), 1) := by decide +kernel
theorem dX5_attempt_85 : decode cX5_attempt 85 = .ok (.if_icmp .ne 24, 3) := by decide +kernel
theorem dX5_attempt_88 : decode cX5_attempt 88 = .ok (.aload_n 0, 1) := by decide +kernel
theorem dX5_attempt_89 : decode cX5_attempt 89 = .ok (.getfield 40, 3) := by decide +kernel
theorem dX5_attempt_92 : decode cX5_attempt 92 = .ok (.aload_n 0, 1) := by decide +kernel
theorem dX5_attempt_93 : decode cX5_attempt 93 = .ok (.getfield 19, 3) := by decide +kernel
theorem dX5_attempt_96 : decode cX5_attempt 96 = .ok (.iload_n 1, 1) := by decide +kernel
theorem dX5_attempt_97 : decode cX5_attempt 97 = .ok (.iload 5, 2) := by decide +kernel
theorem dX5_attempt_99 : decode cX5_attempt 99 = .ok (.aload_n 0, 1) := by decide +kernel
theorem dX5_attempt_100 : decode cX5_attempt 100 = .ok (.invokevirtual 144, 3) := by decide +kernel
theorem dX5_attempt_103 : decode cX5_attempt 103 = .ok (.iconst (-1), 1) := by decide +kernel
theorem dX5_attempt_104 : decode cX5_attempt 104 = .ok (.ixor, 1) := by decide +kernel
theorem dX5_attempt_105 : decode cX5_attempt 105 = .ok (.iand, 1) := by decide +kernel
theorem dX5_attempt_106 : decode cX5_attempt 106 = .ok (.invokevirtual 152, 3) := by decide +kernel
theorem dX5_attempt_109 : decode cX5_attempt 109 = .ok (.iload 6, 2) := by decide +kernel
theorem dX5_attempt_111 : decode cX5_attempt 111 = .ok (.ireturn, 1) := by decide +kernel
theorem dX5_waive_0 : decode cX5_waive 0 = .ok (.iload_n 1, 1) := by decide +kernel
theorem dX5_waive_1 : decode cX5_waive 1 = .ok (.invokestatic 59, 3) := by decide +kernel
theorem dX5_waive_4 : decode cX5_waive 4 = .ok (.iload_n 2, 1) := by decide +kernel
theorem dX5_waive_5 : decode cX5_waive 5 = .ok (.aload_n 0, 1) := by decide +kernel
theorem dX5_waive_6 : decode cX5_waive 6 = .ok (.getfield 40, 3) := by decide +kernel
theorem dX5_waive_9 : decode cX5_waive 9 = .ok (.getfield 133, 3) := by decide +kernel
theorem dX5_waive_12 : decode cX5_waive 12 = .ok (.iload_n 1, 1) := by decide +kernel
theorem dX5_waive_13 : decode cX5_waive 13 = .ok (.iaload, 1) := by decide +kernel
theorem dX5_waive_14 : decode cX5_waive 14 = .ok (.if_icmp .ne 13, 3) := by decide +kernel
theorem dX5_waive_17 : decode cX5_waive 17 = .ok (.iload_n 3, 1) := by decide +kernel
theorem dX5_waive_18 : decode cX5_waive 18 = .ok (.ifCond .lt 9, 3) := by decide +kernel
theorem dX5_waive_21 : decode cX5_waive 21 = .ok (.iload_n 3, 1) := by decide +kernel
theorem dX5_waive_22 : decode cX5_waive 22 = .ok (.bipush 30, 2) := by decide +kernel
theorem dX5_waive_24 : decode cX5_waive 24 = .ok (.if_icmp .le 13, 3) := by decide +kernel
theorem dX5_waive_27 : decode cX5_waive 27 = .ok (.new 63, 3) := by decide +kernel
theorem dX5_waive_30 : decode cX5_waive 30 = .ok (.dup, 1) := by decide +kernel
theorem dX5_waive_31 : decode cX5_waive 31 = .ok (.ldc 156, 2) := by decide +kernel
theorem dX5_waive_33 : decode cX5_waive 33 = .ok (.invokespecial 67, 3) := by decide +kernel
theorem dX5_waive_36 : decode cX5_waive 36 = .ok (.athrow, 1) := by decide +kernel
theorem dX5_waive_37 : decode cX5_waive 37 = .ok (.aload_n 0, 1) := by decide +kernel
theorem dX5_waive_38 : decode cX5_waive 38 = .ok (.invokevirtual 144, 3) := by decide +kernel
theorem dX5_waive_41 : decode cX5_waive 41 = .ok (.iload_n 1, 1) := by decide +kernel
theorem dX5_waive_42 : decode cX5_waive 42 = .ok (.invokestatic 141, 3) := by decide +kernel
theorem dX5_waive_45 : decode cX5_waive 45 = .ok (.ifCond .ne 13, 3) := by decide +kernel
theorem dX5_waive_48 : decode cX5_waive 48 = .ok (.new 48, 3) := by decide +kernel
theorem dX5_waive_51 : decode cX5_waive 51 = .ok (.dup, 1) := by decide +kernel
theorem dX5_waive_52 : decode cX5_waive 52 = .ok (.ldc 158, 2) := by decide +kernel
theorem dX5_waive_54 : decode cX5_waive 54 = .ok (.invokespecial 52, 3) := by decide +kernel
theorem dX5_waive_57 : decode cX5_waive 57 = .ok (.athrow, 1) := by decide +kernel
theorem dX5_waive_58 : decode cX5_waive 58 = .ok (.aload_n 0, 1) := by decide +kernel
theorem dX5_waive_59 : decode cX5_waive 59 = .ok (.getfield 40, 3) := by decide +kernel
theorem dX5_waive_62 : decode cX5_waive 62 = .ok (.getfield 160, 3) := by decide +kernel
theorem dX5_waive_65 : decode cX5_waive 65 = .ok (.iload_n 1, 1) := by decide +kernel
theorem dX5_waive_66 : decode cX5_waive 66 = .ok (.aload_n 0, 1) := by decide +kernel
theorem dX5_waive_67 : decode cX5_waive 67 = .ok (.getfield 40, 3) := by decide +kernel
theorem dX5_waive_70 : decode cX5_waive 70 = .ok (.getfield 163, 3) := by decide +kernel
theorem dX5_waive_73 : decode cX5_waive 73 = .ok (.iload_n 3, 1) := by decide +kernel
theorem dX5_waive_74 : decode cX5_waive 74 = .ok (.iadd, 1) := by decide +kernel
theorem dX5_waive_75 : decode cX5_waive 75 = .ok (.iastore, 1) := by decide +kernel
theorem dX5_waive_76 : decode cX5_waive 76 = .ok (.aload_n 0, 1) := by decide +kernel
theorem dX5_waive_77 : decode cX5_waive 77 = .ok (.invokevirtual 144, 3) := by decide +kernel
theorem dX5_waive_80 : decode cX5_waive 80 = .ok (.invokestatic 166, 3) := by decide +kernel
theorem dX5_waive_83 : decode cX5_waive 83 = .ok (.ireturn, 1) := by decide +kernel
theorem dX5_pass_0 : decode cX5_pass 0 = .ok (.iload_n 1, 1) := by decide +kernel
theorem dX5_pass_1 : decode cX5_pass 1 = .ok (.iconst 1, 1) := by decide +kernel
theorem dX5_pass_2 : decode cX5_pass 2 = .ok (.if_icmp .lt 9, 3) := by decide +kernel
theorem dX5_pass_5 : decode cX5_pass 5 = .ok (.iload_n 1, 1) := by decide +kernel
theorem dX5_pass_6 : decode cX5_pass 6 = .ok (.bipush 100, 2) := by decide +kernel
theorem dX5_pass_8 : decode cX5_pass 8 = .ok (.if_icmp .le 13, 3) := by decide +kernel
theorem dX5_pass_11 : decode cX5_pass 11 = .ok (.new 63, 3) := by decide +kernel
theorem dX5_pass_14 : decode cX5_pass 14 = .ok (.dup, 1) := by decide +kernel
theorem dX5_pass_15 : decode cX5_pass 15 = .ok (.ldc 171, 2) := by decide +kernel
theorem dX5_pass_17 : decode cX5_pass 17 = .ok (.invokespecial 67, 3) := by decide +kernel
theorem dX5_pass_20 : decode cX5_pass 20 = .ok (.athrow, 1) := by decide +kernel
theorem dX5_pass_21 : decode cX5_pass 21 = .ok (.aload_n 0, 1) := by decide +kernel
theorem dX5_pass_22 : decode cX5_pass 22 = .ok (.getfield 40, 3) := by decide +kernel
theorem dX5_pass_25 : decode cX5_pass 25 = .ok (.getfield 163, 3) := by decide +kernel
theorem dX5_pass_28 : decode cX5_pass 28 = .ok (.iload_n 1, 1) := by decide +kernel
theorem dX5_pass_29 : decode cX5_pass 29 = .ok (.iadd, 1) := by decide +kernel
theorem dX5_pass_30 : decode cX5_pass 30 = .ok (.sipush 10000, 3) := by decide +kernel
theorem dX5_pass_33 : decode cX5_pass 33 = .ok (.if_icmp .le 13, 3) := by decide +kernel
theorem dX5_pass_36 : decode cX5_pass 36 = .ok (.new 48, 3) := by decide +kernel
theorem dX5_pass_39 : decode cX5_pass 39 = .ok (.dup, 1) := by decide +kernel
theorem dX5_pass_40 : decode cX5_pass 40 = .ok (.ldc 173, 2) := by decide +kernel
theorem dX5_pass_42 : decode cX5_pass 42 = .ok (.invokespecial 52, 3) := by decide +kernel
theorem dX5_pass_45 : decode cX5_pass 45 = .ok (.athrow, 1) := by decide +kernel
theorem dX5_pass_46 : decode cX5_pass 46 = .ok (.aload_n 0, 1) := by decide +kernel
theorem dX5_pass_47 : decode cX5_pass 47 = .ok (.getfield 40, 3) := by decide +kernel
theorem dX5_pass_50 : decode cX5_pass 50 = .ok (.dup, 1) := by decide +kernel
theorem dX5_pass_51 : decode cX5_pass 51 = .ok (.getfield 163, 3) := by decide +kernel
theorem dX5_pass_54 : decode cX5_pass 54 = .ok (.iload_n 1, 1) := by decide +kernel
theorem dX5_pass_55 : decode cX5_pass 55 = .ok (.iadd, 1) := by decide +kernel
theorem dX5_pass_56 : decode cX5_pass 56 = .ok (.putfield 163, 3) := by decide +kernel
theorem dX5_pass_59 : decode cX5_pass 59 = .ok (.aload_n 0, 1) := by decide +kernel
theorem dX5_pass_60 : decode cX5_pass 60 = .ok (.invokevirtual 144, 3) := by decide +kernel
theorem dX5_pass_63 : decode cX5_pass 63 = .ok (.invokestatic 166, 3) := by decide +kernel
theorem dX5_pass_66 : decode cX5_pass 66 = .ok (.ireturn, 1) := by decide +kernel
theorem dX5_drafted_0 : decode cX5_drafted 0 = .ok (.aload_n 0, 1) := by decide +kernel
theorem dX5_drafted_1 : decode cX5_drafted 1 = .ok (.getfield 10, 3) := by decide +kernel
theorem dX5_drafted_4 : decode cX5_drafted 4 = .ok (.getfield 70, 3) := by decide +kernel
theorem dX5_drafted_7 : decode cX5_drafted 7 = .ok (.ireturn, 1) := by decide +kernel
theorem dX5_today_0 : decode cX5_today 0 = .ok (.aload_n 0, 1) := by decide +kernel
theorem dX5_today_1 : decode cX5_today 1 = .ok (.getfield 40, 3) := by decide +kernel
theorem dX5_today_4 : decode cX5_today 4 = .ok (.getfield 163, 3) := by decide +kernel
theorem dX5_today_7 : decode cX5_today 7 = .ok (.ireturn, 1) := by decide +kernel
theorem dX5_reads_0 : decode cX5_reads 0 = .ok (.iload_n 1, 1) := by decide +kernel
theorem dX5_reads_1 : decode cX5_reads 1 = .ok (.invokestatic 59, 3) := by decide +kernel
theorem dX5_reads_4 : decode cX5_reads 4 = .ok (.aload_n 0, 1) := by decide +kernel
theorem dX5_reads_5 : decode cX5_reads 5 = .ok (.getfield 19, 3) := by decide +kernel
theorem dX5_reads_8 : decode cX5_reads 8 = .ok (.getfield 175, 3) := by decide +kernel
theorem dX5_reads_11 : decode cX5_reads 11 = .ok (.iload_n 1, 1) := by decide +kernel
theorem dX5_reads_12 : decode cX5_reads 12 = .ok (.iaload, 1) := by decide +kernel
theorem dX5_reads_13 : decode cX5_reads 13 = .ok (.ireturn, 1) := by decide +kernel
theorem dX5_rests_0 : decode cX5_rests 0 = .ok (.iload_n 1, 1) := by decide +kernel
theorem dX5_rests_1 : decode cX5_rests 1 = .ok (.invokestatic 59, 3) := by decide +kernel
theorem dX5_rests_4 : decode cX5_rests 4 = .ok (.aload_n 0, 1) := by decide +kernel
theorem dX5_rests_5 : decode cX5_rests 5 = .ok (.getfield 19, 3) := by decide +kernel
theorem dX5_rests_8 : decode cX5_rests 8 = .ok (.getfield 178, 3) := by decide +kernel
theorem dX5_rests_11 : decode cX5_rests 11 = .ok (.iload_n 1, 1) := by decide +kernel
theorem dX5_rests_12 : decode cX5_rests 12 = .ok (.iaload, 1) := by decide +kernel
theorem dX5_rests_13 : decode cX5_rests 13 = .ok (.ireturn, 1) := by decide +kernel
theorem dX5_show_0 : decode cX5_show 0 = .ok (.iload_n 1, 1) := by decide +kernel
theorem dX5_show_1 : decode cX5_show 1 = .ok (.invokestatic 59, 3) := by decide +kernel
theorem dX5_show_4 : decode cX5_show 4 = .ok (.aload_n 0, 1) := by decide +kernel
theorem dX5_show_5 : decode cX5_show 5 = .ok (.invokevirtual 144, 3) := by decide +kernel
theorem dX5_show_8 : decode cX5_show 8 = .ok (.iload_n 1, 1) := by decide +kernel
theorem dX5_show_9 : decode cX5_show 9 = .ok (.invokestatic 141, 3) := by decide +kernel
theorem dX5_show_12 : decode cX5_show 12 = .ok (.ifCond .eq 13, 3) := by decide +kernel
theorem dX5_show_15 : decode cX5_show 15 = .ok (.new 48, 3) := by decide +kernel
theorem dX5_show_18 : decode cX5_show 18 = .ok (.dup, 1) := by decide +kernel
theorem dX5_show_19 : decode cX5_show 19 = .ok (.ldc 181, 2) := by decide +kernel
theorem dX5_show_21 : decode cX5_show 21 = .ok (.invokespecial 52, 3) := by decide +kernel
theorem dX5_show_24 : decode cX5_show 24 = .ok (.athrow, 1) := by decide +kernel
theorem dX5_show_25 : decode cX5_show 25 = .ok (.aload_n 0, 1) := by decide +kernel
theorem dX5_show_26 : decode cX5_show 26 = .ok (.getfield 19, 3) := by decide +kernel
theorem dX5_show_29 : decode cX5_show 29 = .ok (.iload_n 1, 1) := by decide +kernel
theorem dX5_show_30 : decode cX5_show 30 = .ok (.aload_n 0, 1) := by decide +kernel
theorem dX5_show_31 : decode cX5_show 31 = .ok (.getfield 19, 3) := by decide +kernel
theorem dX5_show_34 : decode cX5_show 34 = .ok (.getfield 115, 3) := by decide +kernel
theorem dX5_show_37 : decode cX5_show 37 = .ok (.invokevirtual 183, 3) := by decide +kernel
theorem dX5_show_40 : decode cX5_show 40 = .ok (.lstore_n 2, 1) := by decide +kernel
theorem dX5_show_41 : decode cX5_show 41 = .ok (.lload_n 2, 1) := by decide +kernel
theorem dX5_show_42 : decode cX5_show 42 = .ok (.ldc2_w 187, 3) := by decide +kernel
theorem dX5_show_45 : decode cX5_show 45 = .ok (.lcmp, 1) := by decide +kernel
theorem dX5_show_46 : decode cX5_show 46 = .ok (.ifCond .ne 13, 3) := by decide +kernel
theorem dX5_show_49 : decode cX5_show 49 = .ok (.new 189, 3) := by decide +kernel
theorem dX5_show_52 : decode cX5_show 52 = .ok (.dup, 1) := by decide +kernel
theorem dX5_show_53 : decode cX5_show 53 = .ok (.ldc 191, 2) := by decide +kernel
theorem dX5_show_55 : decode cX5_show 55 = .ok (.invokespecial 193, 3) := by decide +kernel
theorem dX5_show_58 : decode cX5_show 58 = .ok (.athrow, 1) := by decide +kernel
theorem dX5_show_59 : decode cX5_show 59 = .ok (.lload_n 2, 1) := by decide +kernel
theorem dX5_show_60 : decode cX5_show 60 = .ok (.l2i, 1) := by decide +kernel
theorem dX5_show_61 : decode cX5_show 61 = .ok (.ireturn, 1) := by decide +kernel
theorem dX5_verdict_0 : decode cX5_verdict 0 = .ok (.iload_n 1, 1) := by decide +kernel
theorem dX5_verdict_1 : decode cX5_verdict 1 = .ok (.invokestatic 59, 3) := by decide +kernel
theorem dX5_verdict_4 : decode cX5_verdict 4 = .ok (.aload_n 0, 1) := by decide +kernel
theorem dX5_verdict_5 : decode cX5_verdict 5 = .ok (.getfield 33, 3) := by decide +kernel
theorem dX5_verdict_8 : decode cX5_verdict 8 = .ok (.getfield 138, 3) := by decide +kernel
theorem dX5_verdict_11 : decode cX5_verdict 11 = .ok (.iload_n 1, 1) := by decide +kernel
theorem dX5_verdict_12 : decode cX5_verdict 12 = .ok (.invokestatic 141, 3) := by decide +kernel
theorem dX5_verdict_15 : decode cX5_verdict 15 = .ok (.ifCond .eq 5, 3) := by decide +kernel
theorem dX5_verdict_18 : decode cX5_verdict 18 = .ok (.iconst 2, 1) := by decide +kernel
theorem dX5_verdict_19 : decode cX5_verdict 19 = .ok (.ireturn, 1) := by decide +kernel
theorem dX5_verdict_20 : decode cX5_verdict 20 = .ok (.aload_n 0, 1) := by decide +kernel
theorem dX5_verdict_21 : decode cX5_verdict 21 = .ok (.getfield 33, 3) := by decide +kernel
theorem dX5_verdict_24 : decode cX5_verdict 24 = .ok (.getfield 194, 3) := by decide +kernel
theorem dX5_verdict_27 : decode cX5_verdict 27 = .ok (.iload_n 1, 1) := by decide +kernel
theorem dX5_verdict_28 : decode cX5_verdict 28 = .ok (.invokestatic 141, 3) := by decide +kernel
theorem dX5_verdict_31 : decode cX5_verdict 31 = .ok (.ifCond .eq 7, 3) := by decide +kernel
theorem dX5_verdict_34 : decode cX5_verdict 34 = .ok (.iconst 1, 1) := by decide +kernel
theorem dX5_verdict_35 : decode cX5_verdict 35 = .ok (.goto 4, 3) := by decide +kernel
theorem dX5_verdict_38 : decode cX5_verdict 38 = .ok (.iconst 0, 1) := by decide +kernel
theorem dX5_verdict_39 : decode cX5_verdict 39 = .ok (.ireturn, 1) := by decide +kernel
theorem dX5_failing_0 : decode cX5_failing 0 = .ok (.iload_n 1, 1) := by decide +kernel
theorem dX5_failing_1 : decode cX5_failing 1 = .ok (.invokestatic 59, 3) := by decide +kernel
theorem dX5_failing_4 : decode cX5_failing 4 = .ok (.aload_n 0, 1) := by decide +kernel
theorem dX5_failing_5 : decode cX5_failing 5 = .ok (.getfield 33, 3) := by decide +kernel
theorem dX5_failing_8 : decode cX5_failing 8 = .ok (.getfield 138, 3) := by decide +kernel
theorem dX5_failing_11 : decode cX5_failing 11 = .ok (.iload_n 1, 1) := by decide +kernel
theorem dX5_failing_12 : decode cX5_failing 12 = .ok (.invokestatic 141, 3) := by decide +kernel
theorem dX5_failing_15 : decode cX5_failing 15 = .ok (.ifCond .eq 15, 3) := by decide +kernel
theorem dX5_failing_18 : decode cX5_failing 18 = .ok (.aload_n 0, 1) := by decide +kernel
theorem dX5_failing_19 : decode cX5_failing 19 = .ok (.getfield 33, 3) := by decide +kernel
theorem dX5_failing_22 : decode cX5_failing 22 = .ok (.getfield 197, 3) := by decide +kernel
theorem dX5_failing_25 : decode cX5_failing 25 = .ok (.iload_n 1, 1) := by decide +kernel
theorem dX5_failing_26 : decode cX5_failing 26 = .ok (.iaload, 1) := by decide +kernel
theorem dX5_failing_27 : decode cX5_failing 27 = .ok (.goto 4, 3) := by decide +kernel
theorem dX5_failing_30 : decode cX5_failing 30 = .ok (.iconst (-1), 1) := by decide +kernel
theorem dX5_failing_31 : decode cX5_failing 31 = .ok (.ireturn, 1) := by decide +kernel
theorem dX5_example_0 : decode cX5_example 0 = .ok (.iload_n 1, 1) := by decide +kernel
theorem dX5_example_1 : decode cX5_example 1 = .ok (.invokestatic 59, 3) := by decide +kernel
theorem dX5_example_4 : decode cX5_example 4 = .ok (.iload_n 2, 1) := by decide +kernel
theorem dX5_example_5 : decode cX5_example 5 = .ok (.invokestatic 59, 3) := by decide +kernel
theorem dX5_example_8 : decode cX5_example 8 = .ok (.aload_n 0, 1) := by decide +kernel
theorem dX5_example_9 : decode cX5_example 9 = .ok (.getfield 33, 3) := by decide +kernel
theorem dX5_example_12 : decode cX5_example 12 = .ok (.getfield 138, 3) := by decide +kernel
theorem dX5_example_15 : decode cX5_example 15 = .ok (.iload_n 1, 1) := by decide +kernel
theorem dX5_example_16 : decode cX5_example 16 = .ok (.invokestatic 141, 3) := by decide +kernel
theorem dX5_example_19 : decode cX5_example 19 = .ok (.ifCond .eq 19, 3) := by decide +kernel
theorem dX5_example_22 : decode cX5_example 22 = .ok (.aload_n 0, 1) := by decide +kernel
theorem dX5_example_23 : decode cX5_example 23 = .ok (.getfield 33, 3) := by decide +kernel
theorem dX5_example_26 : decode cX5_example 26 = .ok (.getfield 200, 3) := by decide +kernel
theorem dX5_example_29 : decode cX5_example 29 = .ok (.iload_n 1, 1) := by decide +kernel
theorem dX5_example_30 : decode cX5_example 30 = .ok (.iaload, 1) := by decide +kernel
theorem dX5_example_31 : decode cX5_example 31 = .ok (.iload_n 2, 1) := by decide +kernel
theorem dX5_example_32 : decode cX5_example 32 = .ok (.invokestatic 141, 3) := by decide +kernel
theorem dX5_example_35 : decode cX5_example 35 = .ok (.ifCond .ne 13, 3) := by decide +kernel
theorem dX5_example_38 : decode cX5_example 38 = .ok (.new 203, 3) := by decide +kernel
theorem dX5_example_41 : decode cX5_example 41 = .ok (.dup, 1) := by decide +kernel
theorem dX5_example_42 : decode cX5_example 42 = .ok (.ldc 205, 2) := by decide +kernel
theorem dX5_example_44 : decode cX5_example 44 = .ok (.invokespecial 207, 3) := by decide +kernel
theorem dX5_example_47 : decode cX5_example 47 = .ok (.athrow, 1) := by decide +kernel
theorem dX5_example_48 : decode cX5_example 48 = .ok (.aload_n 0, 1) := by decide +kernel
theorem dX5_example_49 : decode cX5_example 49 = .ok (.getfield 33, 3) := by decide +kernel
theorem dX5_example_52 : decode cX5_example 52 = .ok (.getfield 208, 3) := by decide +kernel
theorem dX5_example_55 : decode cX5_example 55 = .ok (.iload_n 1, 1) := by decide +kernel
theorem dX5_example_56 : decode cX5_example 56 = .ok (.aaload, 1) := by decide +kernel
theorem dX5_example_57 : decode cX5_example 57 = .ok (.iload_n 2, 1) := by decide +kernel
theorem dX5_example_58 : decode cX5_example 58 = .ok (.iaload, 1) := by decide +kernel
theorem dX5_example_59 : decode cX5_example 59 = .ok (.ireturn, 1) := by decide +kernel
theorem dX5_smaller_0 : decode cX5_smaller 0 = .ok (.iload_n 1, 1) := by decide +kernel
theorem dX5_smaller_1 : decode cX5_smaller 1 = .ok (.invokestatic 59, 3) := by decide +kernel
theorem dX5_smaller_4 : decode cX5_smaller 4 = .ok (.aload_n 0, 1) := by decide +kernel
theorem dX5_smaller_5 : decode cX5_smaller 5 = .ok (.getfield 33, 3) := by decide +kernel
theorem dX5_smaller_8 : decode cX5_smaller 8 = .ok (.getfield 138, 3) := by decide +kernel
theorem dX5_smaller_11 : decode cX5_smaller 11 = .ok (.iload_n 1, 1) := by decide +kernel
theorem dX5_smaller_12 : decode cX5_smaller 12 = .ok (.invokestatic 141, 3) := by decide +kernel
theorem dX5_smaller_15 : decode cX5_smaller 15 = .ok (.ifCond .eq 15, 3) := by decide +kernel
theorem dX5_smaller_18 : decode cX5_smaller 18 = .ok (.aload_n 0, 1) := by decide +kernel
theorem dX5_smaller_19 : decode cX5_smaller 19 = .ok (.getfield 33, 3) := by decide +kernel
theorem dX5_smaller_22 : decode cX5_smaller 22 = .ok (.getfield 212, 3) := by decide +kernel
theorem dX5_smaller_25 : decode cX5_smaller 25 = .ok (.iload_n 1, 1) := by decide +kernel
theorem dX5_smaller_26 : decode cX5_smaller 26 = .ok (.iaload, 1) := by decide +kernel
theorem dX5_smaller_27 : decode cX5_smaller 27 = .ok (.goto 4, 3) := by decide +kernel
theorem dX5_smaller_30 : decode cX5_smaller 30 = .ok (.iconst (-1), 1) := by decide +kernel
theorem dX5_smaller_31 : decode cX5_smaller 31 = .ok (.ireturn, 1) := by decide +kernel
theorem dX5_isLocked_0 : decode cX5_isLocked 0 = .ok (.iload_n 1, 1) := by decide +kernel
theorem dX5_isLocked_1 : decode cX5_isLocked 1 = .ok (.invokestatic 59, 3) := by decide +kernel
theorem dX5_isLocked_4 : decode cX5_isLocked 4 = .ok (.aload_n 0, 1) := by decide +kernel
theorem dX5_isLocked_5 : decode cX5_isLocked 5 = .ok (.invokevirtual 144, 3) := by decide +kernel
theorem dX5_isLocked_8 : decode cX5_isLocked 8 = .ok (.iload_n 1, 1) := by decide +kernel
theorem dX5_isLocked_9 : decode cX5_isLocked 9 = .ok (.invokestatic 141, 3) := by decide +kernel
theorem dX5_isLocked_12 : decode cX5_isLocked 12 = .ok (.ireturn, 1) := by decide +kernel
theorem dX5_isLockedByWays_0 : decode cX5_isLockedByWays 0 = .ok (.iload_n 1, 1) := by decide +kernel
theorem dX5_isLockedByWays_1 : decode cX5_isLockedByWays 1 = .ok (.invokestatic 59, 3) := by decide +kernel
theorem dX5_isLockedByWays_4 : decode cX5_isLockedByWays 4 = .ok (.aload_n 0, 1) := by decide +kernel
theorem dX5_isLockedByWays_5 : decode cX5_isLockedByWays 5 = .ok (.getfield 19, 3) := by decide +kernel
theorem dX5_isLockedByWays_8 : decode cX5_isLockedByWays 8 = .ok (.iload_n 1, 1) := by decide +kernel
theorem dX5_isLockedByWays_9 : decode cX5_isLockedByWays 9 = .ok (.aload_n 0, 1) := by decide +kernel
theorem dX5_isLockedByWays_10 : decode cX5_isLockedByWays 10 = .ok (.getfield 40, 3) := by decide +kernel
theorem dX5_isLockedByWays_13 : decode cX5_isLockedByWays 13 = .ok (.invokevirtual 215, 3) := by decide +kernel
theorem dX5_isLockedByWays_16 : decode cX5_isLockedByWays 16 = .ok (.invokevirtual 218, 3) := by decide +kernel
theorem dX5_isLockedByWays_19 : decode cX5_isLockedByWays 19 = .ok (.aload_n 0, 1) := by decide +kernel
theorem dX5_isLockedByWays_20 : decode cX5_isLockedByWays 20 = .ok (.getfield 33, 3) := by decide +kernel
theorem dX5_isLockedByWays_23 : decode cX5_isLockedByWays 23 = .ok (.getfield 138, 3) := by decide +kernel
theorem dX5_isLockedByWays_26 : decode cX5_isLockedByWays 26 = .ok (.iand, 1) := by decide +kernel
theorem dX5_isLockedByWays_27 : decode cX5_isLockedByWays 27 = .ok (.ifCond .eq 7, 3) := by decide +kernel
theorem dX5_isLockedByWays_30 : decode cX5_isLockedByWays 30 = .ok (.iconst 1, 1) := by decide +kernel
theorem dX5_isLockedByWays_31 : decode cX5_isLockedByWays 31 = .ok (.goto 4, 3) := by decide +kernel
theorem dX5_isLockedByWays_34 : decode cX5_isLockedByWays 34 = .ok (.iconst 0, 1) := by decide +kernel
theorem dX5_isLockedByWays_35 : decode cX5_isLockedByWays 35 = .ok (.ireturn, 1) := by decide +kernel
theorem dX5_isMarked_0 : decode cX5_isMarked 0 = .ok (.iload_n 1, 1) := by decide +kernel
theorem dX5_isMarked_1 : decode cX5_isMarked 1 = .ok (.invokestatic 59, 3) := by decide +kernel
theorem dX5_isMarked_4 : decode cX5_isMarked 4 = .ok (.aload_n 0, 1) := by decide +kernel
theorem dX5_isMarked_5 : decode cX5_isMarked 5 = .ok (.getfield 19, 3) := by decide +kernel
theorem dX5_isMarked_8 : decode cX5_isMarked 8 = .ok (.getfield 178, 3) := by decide +kernel
theorem dX5_isMarked_11 : decode cX5_isMarked 11 = .ok (.iload_n 1, 1) := by decide +kernel
theorem dX5_isMarked_12 : decode cX5_isMarked 12 = .ok (.iaload, 1) := by decide +kernel
theorem dX5_isMarked_13 : decode cX5_isMarked 13 = .ok (.iconst 1, 1) := by decide +kernel
theorem dX5_isMarked_14 : decode cX5_isMarked 14 = .ok (.iload_n 1, 1) := by decide +kernel
theorem dX5_isMarked_15 : decode cX5_isMarked 15 = .ok (.ishl, 1) := by decide +kernel
theorem dX5_isMarked_16 : decode cX5_isMarked 16 = .ok (.ior, 1) := by decide +kernel
theorem dX5_isMarked_17 : decode cX5_isMarked 17 = .ok (.aload_n 0, 1) := by decide +kernel
theorem dX5_isMarked_18 : decode cX5_isMarked 18 = .ok (.getfield 33, 3) := by decide +kernel
theorem dX5_isMarked_21 : decode cX5_isMarked 21 = .ok (.getfield 138, 3) := by decide +kernel
theorem dX5_isMarked_24 : decode cX5_isMarked 24 = .ok (.iand, 1) := by decide +kernel
theorem dX5_isMarked_25 : decode cX5_isMarked 25 = .ok (.ifCond .eq 7, 3) := by decide +kernel
theorem dX5_isMarked_28 : decode cX5_isMarked 28 = .ok (.iconst 1, 1) := by decide +kernel
theorem dX5_isMarked_29 : decode cX5_isMarked 29 = .ok (.goto 4, 3) := by decide +kernel
theorem dX5_isMarked_32 : decode cX5_isMarked 32 = .ok (.iconst 0, 1) := by decide +kernel
theorem dX5_isMarked_33 : decode cX5_isMarked 33 = .ok (.ireturn, 1) := by decide +kernel
theorem dX5_locked_0 : decode cX5_locked 0 = .ok (.aload_n 0, 1) := by decide +kernel
theorem dX5_locked_1 : decode cX5_locked 1 = .ok (.invokevirtual 144, 3) := by decide +kernel
theorem dX5_locked_4 : decode cX5_locked 4 = .ok (.invokestatic 166, 3) := by decide +kernel
theorem dX5_locked_7 : decode cX5_locked 7 = .ok (.ireturn, 1) := by decide +kernel
theorem dX5_unlocked_0 : decode cX5_unlocked 0 = .ok (.aload_n 0, 1) := by decide +kernel
theorem dX5_unlocked_1 : decode cX5_unlocked 1 = .ok (.getfield 40, 3) := by decide +kernel
theorem dX5_unlocked_4 : decode cX5_unlocked 4 = .ok (.getfield 222, 3) := by decide +kernel
theorem dX5_unlocked_7 : decode cX5_unlocked 7 = .ok (.ireturn, 1) := by decide +kernel
theorem dX5_unlockedAt_0 : decode cX5_unlockedAt 0 = .ok (.iload_n 1, 1) := by decide +kernel
theorem dX5_unlockedAt_1 : decode cX5_unlockedAt 1 = .ok (.ifCond .lt 14, 3) := by decide +kernel
theorem dX5_unlockedAt_4 : decode cX5_unlockedAt 4 = .ok (.iload_n 1, 1) := by decide +kernel
theorem dX5_unlockedAt_5 : decode cX5_unlockedAt 5 = .ok (.aload_n 0, 1) := by decide +kernel
theorem dX5_unlockedAt_6 : decode cX5_unlockedAt 6 = .ok (.getfield 40, 3) := by decide +kernel
theorem dX5_unlockedAt_9 : decode cX5_unlockedAt 9 = .ok (.getfield 222, 3) := by decide +kernel
theorem dX5_unlockedAt_12 : decode cX5_unlockedAt 12 = .ok (.if_icmp .lt 13, 3) := by decide +kernel
theorem dX5_unlockedAt_15 : decode cX5_unlockedAt 15 = .ok (.new 225, 3) := by decide +kernel
theorem dX5_unlockedAt_18 : decode cX5_unlockedAt 18 = .ok (.dup, 1) := by decide +kernel
theorem dX5_unlockedAt_19 : decode cX5_unlockedAt 19 = .ok (.ldc 227, 2) := by decide +kernel
theorem dX5_unlockedAt_21 : decode cX5_unlockedAt 21 = .ok (.invokespecial 229, 3) := by decide +kernel
theorem dX5_unlockedAt_24 : decode cX5_unlockedAt 24 = .ok (.athrow, 1) := by decide +kernel
theorem dX5_unlockedAt_25 : decode cX5_unlockedAt 25 = .ok (.aload_n 0, 1) := by decide +kernel
theorem dX5_unlockedAt_26 : decode cX5_unlockedAt 26 = .ok (.getfield 40, 3) := by decide +kernel
theorem dX5_unlockedAt_29 : decode cX5_unlockedAt 29 = .ok (.getfield 230, 3) := by decide +kernel
theorem dX5_unlockedAt_32 : decode cX5_unlockedAt 32 = .ok (.iload_n 1, 1) := by decide +kernel
theorem dX5_unlockedAt_33 : decode cX5_unlockedAt 33 = .ok (.iaload, 1) := by decide +kernel
theorem dX5_unlockedAt_34 : decode cX5_unlockedAt 34 = .ok (.ireturn, 1) := by decide +kernel
theorem dX5_needCell_0 : decode cX5_needCell 0 = .ok (.iload_n 0, 1) := by decide +kernel
theorem dX5_needCell_1 : decode cX5_needCell 1 = .ok (.ifCond .lt 9, 3) := by decide +kernel
theorem dX5_needCell_4 : decode cX5_needCell 4 = .ok (.iload_n 0, 1) := by decide +kernel
theorem dX5_needCell_5 : decode cX5_needCell 5 = .ok (.bipush 16, 2) := by decide +kernel
theorem dX5_needCell_7 : decode cX5_needCell 7 = .ok (.if_icmp .lt 13, 3) := by decide +kernel
theorem dX5_needCell_10 : decode cX5_needCell 10 = .ok (.new 225, 3) := by decide +kernel
theorem dX5_needCell_13 : decode cX5_needCell 13 = .ok (.dup, 1) := by decide +kernel
theorem dX5_needCell_14 : decode cX5_needCell 14 = .ok (.ldc 233, 2) := by decide +kernel
theorem dX5_needCell_16 : decode cX5_needCell 16 = .ok (.invokespecial 229, 3) := by decide +kernel
theorem dX5_needCell_19 : decode cX5_needCell 19 = .ok (.athrow, 1) := by decide +kernel
theorem dX5_needCell_20 : decode cX5_needCell 20 = .ok (.return_, 1) := by decide +kernel
theorem dX5_has_0 : decode cX5_has 0 = .ok (.iload_n 1, 1) := by decide +kernel
theorem dX5_has_1 : decode cX5_has 1 = .ok (.ifCond .lt 21, 3) := by decide +kernel
theorem dX5_has_4 : decode cX5_has 4 = .ok (.iload_n 1, 1) := by decide +kernel
theorem dX5_has_5 : decode cX5_has 5 = .ok (.bipush 16, 2) := by decide +kernel
theorem dX5_has_7 : decode cX5_has 7 = .ok (.if_icmp .ge 15, 3) := by decide +kernel
theorem dX5_has_10 : decode cX5_has 10 = .ok (.iload_n 0, 1) := by decide +kernel
theorem dX5_has_11 : decode cX5_has 11 = .ok (.iload_n 1, 1) := by decide +kernel
theorem dX5_has_12 : decode cX5_has 12 = .ok (.ishr, 1) := by decide +kernel
theorem dX5_has_13 : decode cX5_has 13 = .ok (.iconst 1, 1) := by decide +kernel
theorem dX5_has_14 : decode cX5_has 14 = .ok (.iand, 1) := by decide +kernel
theorem dX5_has_15 : decode cX5_has 15 = .ok (.ifCond .eq 7, 3) := by decide +kernel
theorem dX5_has_18 : decode cX5_has 18 = .ok (.iconst 1, 1) := by decide +kernel
theorem dX5_has_19 : decode cX5_has 19 = .ok (.goto 4, 3) := by decide +kernel
theorem dX5_has_22 : decode cX5_has 22 = .ok (.iconst 0, 1) := by decide +kernel
theorem dX5_has_23 : decode cX5_has 23 = .ok (.ireturn, 1) := by decide +kernel
theorem dX5_lockedCells_0 : decode cX5_lockedCells 0 = .ok (.aload_n 0, 1) := by decide +kernel
theorem dX5_lockedCells_1 : decode cX5_lockedCells 1 = .ok (.getfield 19, 3) := by decide +kernel
theorem dX5_lockedCells_4 : decode cX5_lockedCells 4 = .ok (.aload_n 0, 1) := by decide +kernel
theorem dX5_lockedCells_5 : decode cX5_lockedCells 5 = .ok (.getfield 33, 3) := by decide +kernel
theorem dX5_lockedCells_8 : decode cX5_lockedCells 8 = .ok (.getfield 138, 3) := by decide +kernel
theorem dX5_lockedCells_11 : decode cX5_lockedCells 11 = .ok (.aload_n 0, 1) := by decide +kernel
theorem dX5_lockedCells_12 : decode cX5_lockedCells 12 = .ok (.getfield 40, 3) := by decide +kernel
theorem dX5_lockedCells_15 : decode cX5_lockedCells 15 = .ok (.invokevirtual 215, 3) := by decide +kernel
theorem dX5_lockedCells_18 : decode cX5_lockedCells 18 = .ok (.invokevirtual 235, 3) := by decide +kernel
theorem dX5_lockedCells_21 : decode cX5_lockedCells 21 = .ok (.ireturn, 1) := by decide +kernel
theorem dX5_followChange_0 : decode cX5_followChange 0 = .ok (.aload_n 0, 1) := by decide +kernel
theorem dX5_followChange_1 : decode cX5_followChange 1 = .ok (.getfield 40, 3) := by decide +kernel
theorem dX5_followChange_4 : decode cX5_followChange 4 = .ok (.getfield 160, 3) := by decide +kernel
theorem dX5_followChange_7 : decode cX5_followChange 7 = .ok (.iload_n 1, 1) := by decide +kernel
theorem dX5_followChange_8 : decode cX5_followChange 8 = .ok (.iconst (-1), 1) := by decide +kernel
theorem dX5_followChange_9 : decode cX5_followChange 9 = .ok (.iastore, 1) := by decide +kernel
theorem dX5_followChange_10 : decode cX5_followChange 10 = .ok (.aload_n 0, 1) := by decide +kernel
theorem dX5_followChange_11 : decode cX5_followChange 11 = .ok (.getfield 33, 3) := by decide +kernel
theorem dX5_followChange_14 : decode cX5_followChange 14 = .ok (.aload_n 0, 1) := by decide +kernel
theorem dX5_followChange_15 : decode cX5_followChange 15 = .ok (.getfield 19, 3) := by decide +kernel
theorem dX5_followChange_18 : decode cX5_followChange 18 = .ok (.iload_n 1, 1) := by decide +kernel
theorem dX5_followChange_19 : decode cX5_followChange 19 = .ok (.invokevirtual 237, 3) := by decide +kernel
theorem dX5_followChange_22 : decode cX5_followChange 22 = .ok (.iconst 1, 1) := by decide +kernel
theorem dX5_followChange_23 : decode cX5_followChange 23 = .ok (.iload_n 1, 1) := by decide +kernel
theorem dX5_followChange_24 : decode cX5_followChange 24 = .ok (.ishl, 1) := by decide +kernel
theorem dX5_followChange_25 : decode cX5_followChange 25 = .ok (.ior, 1) := by decide +kernel
theorem dX5_followChange_26 : decode cX5_followChange 26 = .ok (.invokevirtual 125, 3) := by decide +kernel
theorem dX5_followChange_29 : decode cX5_followChange 29 = .ok (.ireturn, 1) := by decide +kernel
theorem dJ6_bitCount_0f7a4_0 : decode cJ6_bitCount_0f7a4 0 = .ok (.iload_n 0, 1) := by decide +kernel
theorem dJ6_bitCount_0f7a4_1 : decode cJ6_bitCount_0f7a4 1 = .ok (.iload_n 0, 1) := by decide +kernel
theorem dJ6_bitCount_0f7a4_2 : decode cJ6_bitCount_0f7a4 2 = .ok (.iconst 1, 1) := by decide +kernel
theorem dJ6_bitCount_0f7a4_3 : decode cJ6_bitCount_0f7a4 3 = .ok (.iushr, 1) := by decide +kernel
theorem dJ6_bitCount_0f7a4_4 : decode cJ6_bitCount_0f7a4 4 = .ok (.ldc_w 265, 3) := by decide +kernel
theorem dJ6_bitCount_0f7a4_7 : decode cJ6_bitCount_0f7a4 7 = .ok (.iand, 1) := by decide +kernel
theorem dJ6_bitCount_0f7a4_8 : decode cJ6_bitCount_0f7a4 8 = .ok (.isub, 1) := by decide +kernel
theorem dJ6_bitCount_0f7a4_9 : decode cJ6_bitCount_0f7a4 9 = .ok (.istore_n 0, 1) := by decide +kernel
theorem dJ6_bitCount_0f7a4_10 : decode cJ6_bitCount_0f7a4 10 = .ok (.iload_n 0, 1) := by decide +kernel
theorem dJ6_bitCount_0f7a4_11 : decode cJ6_bitCount_0f7a4 11 = .ok (.ldc_w 266, 3) := by decide +kernel
theorem dJ6_bitCount_0f7a4_14 : decode cJ6_bitCount_0f7a4 14 = .ok (.iand, 1) := by decide +kernel
theorem dJ6_bitCount_0f7a4_15 : decode cJ6_bitCount_0f7a4 15 = .ok (.iload_n 0, 1) := by decide +kernel
theorem dJ6_bitCount_0f7a4_16 : decode cJ6_bitCount_0f7a4 16 = .ok (.iconst 2, 1) := by decide +kernel
theorem dJ6_bitCount_0f7a4_17 : decode cJ6_bitCount_0f7a4 17 = .ok (.iushr, 1) := by decide +kernel
theorem dJ6_bitCount_0f7a4_18 : decode cJ6_bitCount_0f7a4 18 = .ok (.ldc_w 266, 3) := by decide +kernel
theorem dJ6_bitCount_0f7a4_21 : decode cJ6_bitCount_0f7a4 21 = .ok (.iand, 1) := by decide +kernel
theorem dJ6_bitCount_0f7a4_22 : decode cJ6_bitCount_0f7a4 22 = .ok (.iadd, 1) := by decide +kernel
theorem dJ6_bitCount_0f7a4_23 : decode cJ6_bitCount_0f7a4 23 = .ok (.istore_n 0, 1) := by decide +kernel
theorem dJ6_bitCount_0f7a4_24 : decode cJ6_bitCount_0f7a4 24 = .ok (.iload_n 0, 1) := by decide +kernel
theorem dJ6_bitCount_0f7a4_25 : decode cJ6_bitCount_0f7a4 25 = .ok (.iload_n 0, 1) := by decide +kernel
theorem dJ6_bitCount_0f7a4_26 : decode cJ6_bitCount_0f7a4 26 = .ok (.iconst 4, 1) := by decide +kernel
theorem dJ6_bitCount_0f7a4_27 : decode cJ6_bitCount_0f7a4 27 = .ok (.iushr, 1) := by decide +kernel
theorem dJ6_bitCount_0f7a4_28 : decode cJ6_bitCount_0f7a4 28 = .ok (.iadd, 1) := by decide +kernel
theorem dJ6_bitCount_0f7a4_29 : decode cJ6_bitCount_0f7a4 29 = .ok (.ldc_w 267, 3) := by decide +kernel
theorem dJ6_bitCount_0f7a4_32 : decode cJ6_bitCount_0f7a4 32 = .ok (.iand, 1) := by decide +kernel
theorem dJ6_bitCount_0f7a4_33 : decode cJ6_bitCount_0f7a4 33 = .ok (.istore_n 0, 1) := by decide +kernel
theorem dJ6_bitCount_0f7a4_34 : decode cJ6_bitCount_0f7a4 34 = .ok (.iload_n 0, 1) := by decide +kernel
theorem dJ6_bitCount_0f7a4_35 : decode cJ6_bitCount_0f7a4 35 = .ok (.iload_n 0, 1) := by decide +kernel
theorem dJ6_bitCount_0f7a4_36 : decode cJ6_bitCount_0f7a4 36 = .ok (.bipush 8, 2) := by decide +kernel
theorem dJ6_bitCount_0f7a4_38 : decode cJ6_bitCount_0f7a4 38 = .ok (.iushr, 1) := by decide +kernel
theorem dJ6_bitCount_0f7a4_39 : decode cJ6_bitCount_0f7a4 39 = .ok (.iadd, 1) := by decide +kernel
theorem dJ6_bitCount_0f7a4_40 : decode cJ6_bitCount_0f7a4 40 = .ok (.istore_n 0, 1) := by decide +kernel
theorem dJ6_bitCount_0f7a4_41 : decode cJ6_bitCount_0f7a4 41 = .ok (.iload_n 0, 1) := by decide +kernel
theorem dJ6_bitCount_0f7a4_42 : decode cJ6_bitCount_0f7a4 42 = .ok (.iload_n 0, 1) := by decide +kernel
theorem dJ6_bitCount_0f7a4_43 : decode cJ6_bitCount_0f7a4 43 = .ok (.bipush 16, 2) := by decide +kernel
theorem dJ6_bitCount_0f7a4_45 : decode cJ6_bitCount_0f7a4 45 = .ok (.iushr, 1) := by decide +kernel
theorem dJ6_bitCount_0f7a4_46 : decode cJ6_bitCount_0f7a4 46 = .ok (.iadd, 1) := by decide +kernel
theorem dJ6_bitCount_0f7a4_47 : decode cJ6_bitCount_0f7a4 47 = .ok (.istore_n 0, 1) := by decide +kernel
theorem dJ6_bitCount_0f7a4_48 : decode cJ6_bitCount_0f7a4 48 = .ok (.iload_n 0, 1) := by decide +kernel
theorem dJ6_bitCount_0f7a4_49 : decode cJ6_bitCount_0f7a4 49 = .ok (.bipush 63, 2) := by decide +kernel
theorem dJ6_bitCount_0f7a4_51 : decode cJ6_bitCount_0f7a4 51 = .ok (.iand, 1) := by decide +kernel
theorem dJ6_bitCount_0f7a4_52 : decode cJ6_bitCount_0f7a4 52 = .ok (.ireturn, 1) := by decide +kernel
theorem dJ9_floorMod_7cf53_0 : decode cJ9_floorMod_7cf53 0 = .ok (.iload_n 0, 1) := by decide +kernel
theorem dJ9_floorMod_7cf53_1 : decode cJ9_floorMod_7cf53 1 = .ok (.iload_n 1, 1) := by decide +kernel
theorem dJ9_floorMod_7cf53_2 : decode cJ9_floorMod_7cf53 2 = .ok (.irem, 1) := by decide +kernel
theorem dJ9_floorMod_7cf53_3 : decode cJ9_floorMod_7cf53 3 = .ok (.istore_n 2, 1) := by decide +kernel
theorem dJ9_floorMod_7cf53_4 : decode cJ9_floorMod_7cf53 4 = .ok (.iload_n 0, 1) := by decide +kernel
theorem dJ9_floorMod_7cf53_5 : decode cJ9_floorMod_7cf53 5 = .ok (.iload_n 1, 1) := by decide +kernel
theorem dJ9_floorMod_7cf53_6 : decode cJ9_floorMod_7cf53 6 = .ok (.ixor, 1) := by decide +kernel
theorem dJ9_floorMod_7cf53_7 : decode cJ9_floorMod_7cf53 7 = .ok (.ifCond .ge 11, 3) := by decide +kernel
theorem dJ9_floorMod_7cf53_10 : decode cJ9_floorMod_7cf53 10 = .ok (.iload_n 2, 1) := by decide +kernel
theorem dJ9_floorMod_7cf53_11 : decode cJ9_floorMod_7cf53 11 = .ok (.ifCond .eq 7, 3) := by decide +kernel
theorem dJ9_floorMod_7cf53_14 : decode cJ9_floorMod_7cf53 14 = .ok (.iload_n 2, 1) := by decide +kernel
theorem dJ9_floorMod_7cf53_15 : decode cJ9_floorMod_7cf53 15 = .ok (.iload_n 1, 1) := by decide +kernel
theorem dJ9_floorMod_7cf53_16 : decode cJ9_floorMod_7cf53 16 = .ok (.iadd, 1) := by decide +kernel
theorem dJ9_floorMod_7cf53_17 : decode cJ9_floorMod_7cf53 17 = .ok (.ireturn, 1) := by decide +kernel
theorem dJ9_floorMod_7cf53_18 : decode cJ9_floorMod_7cf53 18 = .ok (.iload_n 2, 1) := by decide +kernel
theorem dJ9_floorMod_7cf53_19 : decode cJ9_floorMod_7cf53 19 = .ok (.ireturn, 1) := by decide +kernel
theorem dJ9_max_7cf53_0 : decode cJ9_max_7cf53 0 = .ok (.iload_n 0, 1) := by decide +kernel
theorem dJ9_max_7cf53_1 : decode cJ9_max_7cf53 1 = .ok (.iload_n 1, 1) := by decide +kernel
theorem dJ9_max_7cf53_2 : decode cJ9_max_7cf53 2 = .ok (.if_icmp .lt 7, 3) := by decide +kernel
theorem dJ9_max_7cf53_5 : decode cJ9_max_7cf53 5 = .ok (.iload_n 0, 1) := by decide +kernel
theorem dJ9_max_7cf53_6 : decode cJ9_max_7cf53 6 = .ok (.goto 4, 3) := by decide +kernel
theorem dJ9_max_7cf53_9 : decode cJ9_max_7cf53 9 = .ok (.iload_n 1, 1) := by decide +kernel
theorem dJ9_max_7cf53_10 : decode cJ9_max_7cf53 10 = .ok (.ireturn, 1) := by decide +kernel
theorem dJ9_min_7cf53_0 : decode cJ9_min_7cf53 0 = .ok (.iload_n 0, 1) := by decide +kernel
theorem dJ9_min_7cf53_1 : decode cJ9_min_7cf53 1 = .ok (.iload_n 1, 1) := by decide +kernel
theorem dJ9_min_7cf53_2 : decode cJ9_min_7cf53 2 = .ok (.if_icmp .gt 7, 3) := by decide +kernel
theorem dJ9_min_7cf53_5 : decode cJ9_min_7cf53 5 = .ok (.iload_n 0, 1) := by decide +kernel
theorem dJ9_min_7cf53_6 : decode cJ9_min_7cf53 6 = .ok (.goto 4, 3) := by decide +kernel
theorem dJ9_min_7cf53_9 : decode cJ9_min_7cf53 9 = .ok (.iload_n 1, 1) := by decide +kernel
theorem dJ9_min_7cf53_10 : decode cJ9_min_7cf53 10 = .ok (.ireturn, 1) := by decide +kernel
abbrev vwCl : List vw_C := [(RJ0, TJ0, 2), (RJx00060, TJx00060, 6), (RX0, TX0, 5), (RX1, TX1, 5), (RX2, TX2, 3), (RX3, TX3, 9), (RX4, TX4, 8), (RX5, TX5, 5), (RX6, TX6, 30)]
end
section
/-! ===== one world for the class, the law's model and its row: the cells by family and member; what they hold: ints by (family, member, place), longs by (family, place) ===== -/
abbrev gSig : Type := Nat → Nat → Nat → Int32
abbrev gTau : Type := Nat → Nat → Int64
abbrev gLoc : Type := List (Option Value)
def up3 (σ : gSig) (f c i : Nat) (x : Int32) : gSig := fun f' c' i' => if f' = f ∧ c' = c ∧ i' = i then x else σ f' c' i'
def up2 (τ : gTau) (f i : Nat) (x : Int64) : gTau := fun f' i' => if f' = f ∧ i' = i then x else τ f' i'
abbrev gcl : List vw_C := [(RX0, TX0, 5), (RX1, TX1, 5), (RX2, TX2, 3), (RX3, TX3, 9), (RX4, TX4, 8), (RX5, TX5, 5), (RX6, TX6, 30)]
abbrev gty (aC : Nat → ClassId) : List (ClassId × FieldType) := [(aC 0, .int), (aC 1, .long), (aC 2, .boolean), (aC 3, .object RX0), (aC 4, .object RX2), (aC 5, .array .int)]
/-- how many members a family has -/
def gN : List Nat := [1, 17, 17, 17, 17, 1, 1, 6, 1, 1, 16, 16, 16, 1, 4, 1, 16, 1, 3, 1, 25, 1]
/-- how long the model's rows are -/
def lenM (c : Nat) : Nat := [12, 12, 16, 192, 192, 16, 16, 16, 16, 16, 64, 64, 16, 16, 256, 16, 16, 16, 16, 16, 16, 16, 16, 12, 16].getD c 0
def cel (ad : Nat → Nat → Nat) (aC : Nat → ClassId) (σ : gSig) (τ : gTau) (f c : Nat) : va_E := match f with
  | 0 => .inr (5, [.ref (ad 1 16), .ref (ad 5 0), .ref (ad 9 0), .ref (ad 13 0), .ref (ad 17 0)])
  | 1 => .inr (0, [.ref (ad 2 c), .ref (ad 3 c), .ref (ad 4 c), .int (σ 1 c 3), .int (σ 1 c 4)])
  | 2 => .inl (aC 0, 12, .inl (σ 2 c))
  | 3 => .inl (aC 0, 12, .inl (σ 3 c))
  | 4 => .inl (aC 0, 12, .inl (σ 4 c))
  | 5 => .inr (3, [.ref (ad 6 0), .ref (ad 7 0), .ref (ad 7 1), .ref (ad 7 2), .ref (ad 7 3), .ref (ad 7 4), .ref (ad 7 5), .ref (ad 8 0), .int (σ 5 c 8)])
  | 6 => .inl (aC 3, 16, .inr (.inr (.inr (.inr (fun i => some (ad 1 i))))))
  | 7 => .inl (aC 0, 16, .inl (σ 7 c))
  | 8 => .inl (aC 1, 16, .inr (.inl (τ 8)))
  | 9 => .inl (aC 4, 16, .inr (.inr (.inr (.inr (fun i => some (ad 10 i))))))
  | 10 => .inr (2, [.ref (ad 11 c), .ref (ad 12 c), .int (σ 10 c 2)])
  | 11 => .inl (aC 0, 4, .inl (σ 11 c))
  | 12 => .inl (aC 0, 4, .inl (σ 12 c))
  | 13 => .inr (4, [.ref (ad 14 0), .ref (ad 14 1), .ref (ad 14 2), .ref (ad 14 3), .ref (ad 15 0), .int (σ 13 c 5), .int (σ 13 c 6), .int (σ 13 c 7)])
  | 14 => .inl (aC 0, 16, .inl (σ 14 c))
  | 15 => .inl (aC 5, 16, .inr (.inr (.inr (.inr (fun i => some (ad 16 i))))))
  | 16 => .inl (aC 0, 16, .inl (σ 16 c))
  | 17 => .inr (1, [.ref (ad 18 0), .ref (ad 18 1), .ref (ad 18 2), .int (σ 17 c 3), .int (σ 17 c 4)])
  | 18 => .inl (aC 0, 16, .inl (σ 18 c))
  | 19 => .inr (6, [.int (σ 19 c 0), .int (σ 19 c 1), .int (σ 19 c 2), .int (σ 19 c 3), .ref (ad 20 0), .ref (ad 20 1), .ref (ad 20 2), .ref (ad 20 3), .ref (ad 20 4), .ref (ad 20 5), .ref (ad 20 6), .ref (ad 20 7), .ref (ad 20 8), .ref (ad 20 9), .ref (ad 20 10), .ref (ad 20 11), .ref (ad 20 12), .ref (ad 20 13), .ref (ad 20 14), .ref (ad 20 15), .ref (ad 20 16), .ref (ad 20 17), .int (σ 19 c 22), .ref (ad 20 18), .ref (ad 20 19), .ref (ad 20 20), .ref (ad 20 21), .ref (ad 20 22), .ref (ad 20 23), .ref (ad 20 24)])
  | 20 => .inl (aC (if c = 21 then 2 else 0), lenM c, .inl (σ 20 c))
  | 21 => .inl (aC 1, 1, .inr (.inl (τ 21)))
  | _ => .inr (0, [])
def gix : List (Nat × Nat) := (List.range 22).flatMap (fun f => (List.range (gN.getD f 0)).map (fun c => (f, c)))
abbrev gok (f c : Nat) : Prop := f < 22 ∧ c < gN.getD f 0
theorem gix_mem {f c : Nat} (h : gok f c) : (f, c) ∈ gix := by
  unfold gix
  exact List.mem_flatMap.mpr ⟨f, List.mem_range.mpr h.1, List.mem_map.mpr ⟨c, List.mem_range.mpr h.2, rfl⟩⟩
theorem gix_nodup : gix.Nodup := by decide +kernel
def Wd (ad : Nat → Nat → Nat) (aC : Nat → ClassId) (σ : gSig) (τ : gTau) : va_W := gix.map (fun q => (ad q.1 q.2, cel ad aC σ τ q.1 q.2))
/-- the cells of the world, and what is made behind the place sz -/
def gA (ad : Nat → Nat → Nat) (sz : Nat) : Nat → Prop := fun q => (∃ x ∈ gix, q = ad x.1 x.2) ∨ sz ≤ q
/-- the world's addresses are apart -/
def gInj (ad : Nat → Nat → Nat) : Prop := ∀ x ∈ gix, ∀ y ∈ gix, ad x.1 x.2 = ad y.1 y.2 → x = y
theorem gix_at {k : Nat} {x : Nat × Nat} (h : gix[k]? = some x) : x ∈ gix := List.mem_of_getElem? h
theorem gix_in {k j : Nat} {x : Nat × Nat} (h : gix[k]? = some x) (h2 : gix[j]? = some x) : k = j := by
  have hk := (List.getElem?_eq_some_iff.mp h).1
  exact (List.getElem?_inj hk gix_nodup).mp (h.trans h2.symm)
theorem Wd_at {ad : Nat → Nat → Nat} {aC : Nat → ClassId} {σ : gSig} {τ : gTau} (k : Nat) : (Wd ad aC σ τ)[k]? = gix[k]?.map (fun q => (ad q.1 q.2, cel ad aC σ τ q.1 q.2)) := by
  unfold Wd
  rw [List.getElem?_map]
theorem gD_of {ad : Nat → Nat → Nat} (hI : gInj ad) (aC : Nat → ClassId) (σ : gSig) (τ : gTau) (sz : Nat) : va_D (gA ad sz) (Wd ad aC σ τ) := by
  refine ⟨fun i j x y hi hj hxy => ?_, fun k q hk => ?_⟩
  · rw [Wd_at] at hi hj
    cases h1 : gix[i]? with
    | none => rw [h1] at hi; cases hi
    | some a =>
      cases h2 : gix[j]? with
      | none => rw [h2] at hj; cases hj
      | some b =>
        rw [h1] at hi; rw [h2] at hj
        cases hi; cases hj
        have e := hI a (gix_at h1) b (gix_at h2) hxy
        subst e
        exact gix_in h1 h2
  · rw [Wd_at] at hk
    cases h1 : gix[k]? with
    | none => rw [h1] at hk; cases hk
    | some a => rw [h1] at hk; cases hk; exact Or.inl ⟨a, gix_at h1, rfl⟩
theorem cel_congr {ad : Nat → Nat → Nat} {aC : Nat → ClassId} {σ σ' : gSig} {τ τ' : gTau} {f c : Nat} (h : σ' f c = σ f c) (h2 : τ' f = τ f) : cel ad aC σ' τ' f c = cel ad aC σ τ f c := by
  unfold cel
  split <;> simp [h, h2]
/-- a cell's place in the world, and the world when the cell is written -/
theorem Wd_get {ad : Nat → Nat → Nat} {aC : Nat → ClassId} {f c : Nat} (h : gok f c) : ∃ k : Nat, (∀ (σ : gSig) (τ : gTau), (Wd ad aC σ τ)[k]? = some (ad f c, cel ad aC σ τ f c)) ∧
    ∀ (σ σ' : gSig) (τ τ' : gTau) (e : va_E), (∀ f' c' : Nat, (f', c') ≠ (f, c) → σ' f' c' = σ f' c') → (∀ f' : Nat, f' ≠ f → τ' f' = τ f') → (τ' = τ ∨ c = 0 ∧ gN.getD f 0 = 1) → cel ad aC σ' τ' f c = e → (Wd ad aC σ τ).set k (ad f c, e) = Wd ad aC σ' τ' := by
  obtain ⟨k, hk⟩ := List.getElem?_of_mem (gix_mem h)
  refine ⟨k, fun σ τ => by rw [Wd_at, hk]; rfl, fun σ σ' τ τ' e h1 h2 h3 he => ?_⟩
  have hkl := (List.getElem?_eq_some_iff.mp hk).1
  apply List.ext_getElem?
  intro j
  by_cases hj : j = k
  · subst hj
    have hl : j < (Wd ad aC σ τ).length := by unfold Wd; rw [List.length_map]; exact hkl
    rw [List.getElem?_set_self hl, Wd_at, hk, ← he]
    rfl
  · rw [List.getElem?_set_ne (Ne.symm hj), Wd_at, Wd_at]
    cases hx : gix[j]? with
    | none => rfl
    | some x =>
      obtain ⟨f', c'⟩ := x
      have hne : (f', c') ≠ (f, c) := fun q => hj (gix_in hx (q ▸ hk))
      show some (ad f' c', cel ad aC σ τ f' c') = some (ad f' c', cel ad aC σ' τ' f' c')
      rw [cel_congr (σ := σ) (σ' := σ') (τ := τ) (τ' := τ') (h1 f' c' hne)]
      rcases h3 with h3 | ⟨h3, h4⟩
      · rw [h3]
      · by_cases hf : f' = f
        · subst hf
          have hm : (f', c') ∈ gix := gix_at hx
          unfold gix at hm
          obtain ⟨g, -, hg⟩ := List.mem_flatMap.mp hm
          obtain ⟨c2, hc2, e2⟩ := List.mem_map.mp hg
          cases e2
          rw [h4] at hc2
          have : c' = 0 := by have := List.mem_range.mp hc2; omega
          subst this; subst h3
          exact absurd rfl hne
        · exact h2 f' hf
theorem up3_self (σ : gSig) (f c i : Nat) (x : Int32) : (up3 σ f c i x) f c = upd (σ f c) i x := by
  funext j
  unfold up3 upd
  by_cases h : j = i <;> simp [h]
theorem up3_ne (σ : gSig) (f c i : Nat) (x : Int32) {f' c' : Nat} (h : (f', c') ≠ (f, c)) : (up3 σ f c i x) f' c' = σ f' c' := by
  funext j
  unfold up3
  rw [if_neg]
  rintro ⟨h1, h2, -⟩
  exact h (by rw [h1, h2])
theorem up2_self (τ : gTau) (f i : Nat) (x : Int64) : (up2 τ f i x) f = vp_updL (τ f) i x := by
  funext j
  unfold up2 vp_updL
  by_cases h : j = i <;> simp [h]
theorem up2_ne (τ : gTau) (f i : Nat) (x : Int64) {f' : Nat} (h : f' ≠ f) : (up2 τ f i x) f' = τ f' := by
  funext j
  unfold up2
  rw [if_neg]
  rintro ⟨h1, -⟩
  exact h h1
theorem up3_at (σ : gSig) (f c i : Nat) (x : Int32) (f' c' i' : Nat) : up3 σ f c i x f' c' i' = if f' = f ∧ c' = c ∧ i' = i then x else σ f' c' i' := rfl
theorem up2_at (τ : gTau) (f i : Nat) (x : Int64) (f' i' : Nat) : up2 τ f i x f' i' = if f' = f ∧ i' = i then x else τ f' i' := rfl
/-! the locals, a row by their numbers -/
def lvs (L : gLoc) : List (Nat × Value) := (List.range L.length).filterMap (fun i => (L[i]?.join).map (fun v => (i, v)))
theorem lvs_mem {L : gLoc} {i : Nat} {v : Value} : (i, v) ∈ lvs L ↔ L[i]? = some (some v) := by
  unfold lvs
  rw [List.mem_filterMap]
  constructor
  · rintro ⟨j, hj, h⟩
    cases hx : L[j]? with
    | none => rw [hx] at h; cases h
    | some o =>
      cases o with
      | none => rw [hx] at h; cases h
      | some w =>
        rw [hx] at h
        cases h
        exact hx
  · intro h
    refine ⟨i, List.mem_range.mpr (List.getElem?_eq_some_iff.mp h).1, ?_⟩
    rw [h]
    rfl
theorem lvs_at {ls : Array Slot} {nL : Nat} {L : gLoc} (h : lv_has ls nL (lvs L)) {i : Nat} {v : Value} (hi : L[i]? = some (some v)) : ls[i]? = some (.val v) := h.2.2 (i, v) (lvs_mem.mpr hi)
/-- no long ends at the place that is written -/
def okst (L : gLoc) (i : Nat) : Bool := match i with
  | 0 => true
  | k + 1 => match L[k]? with
    | some (some w) => w.category == 1
    | _ => true
theorem okst_ne {L : gLoc} {i j : Nat} {w : Value} (h : okst L i = true) (hj : L[j]? = some (some w)) (hi : j + 1 = i) : w.category = 1 := by
  subst hi
  simp only [okst, hj] at h
  simpa using h
theorem lvs_put {ls : Array Slot} {nL : Nat} {L : gLoc} {i : Nat} {v : Value} (h : lv_has ls nL ((i, v) :: (lvs L).filter (fun q => !(q.1 == i) && !(q.1 + 1 == i && q.2.category == 2)))) (hok : okst L i = true) : lv_has ls nL (lvs (L.set i (some v))) := by
  refine ⟨h.1, h.2.1, ?_⟩
  rintro ⟨j, w⟩ hq
  rw [lvs_mem] at hq
  refine h.2.2 (j, w) ?_
  by_cases hj : j = i
  · subst hj
    have hl : j < L.length := by
      have := (List.getElem?_eq_some_iff.mp hq).1
      rwa [List.length_set] at this
    rw [List.getElem?_set_self hl] at hq
    cases hq
    exact List.mem_cons_self
  · rw [List.getElem?_set_ne (Ne.symm hj)] at hq
    refine List.mem_cons_of_mem _ (List.mem_filter.mpr ⟨lvs_mem.mpr hq, ?_⟩)
    have hc : ¬ (j + 1 = i ∧ w.category = 2) := fun z => by
      have := okst_ne hok hq z.1
      omega
    simp [hj]
    exact Classical.not_and_iff_not_or_not.mp hc
theorem lvs_put2 {ls : Array Slot} {nL : Nat} {L : gLoc} {i : Nat} {v : Value} (h : lv_has ls nL ((i, v) :: (lvs L).filter (fun q => !(q.1 == i) && (!(q.1 == i + 1) && !(q.1 + 1 == i && q.2.category == 2))))) (hok : okst L i = true) : lv_has ls nL (lvs ((L.set i (some v)).set (i + 1) none)) := by
  refine ⟨h.1, h.2.1, ?_⟩
  rintro ⟨j, w⟩ hq
  rw [lvs_mem] at hq
  refine h.2.2 (j, w) ?_
  by_cases h1 : j = i + 1
  · subst h1
    have hl := (List.getElem?_eq_some_iff.mp hq).1
    rw [List.length_set] at hl
    rw [List.getElem?_set_self hl] at hq
    cases hq
  · rw [List.getElem?_set_ne (Ne.symm h1)] at hq
    by_cases hj : j = i
    · subst hj
      have hl : j < L.length := by
        have := (List.getElem?_eq_some_iff.mp hq).1
        rwa [List.length_set] at this
      rw [List.getElem?_set_self hl] at hq
      cases hq
      exact List.mem_cons_self
    · rw [List.getElem?_set_ne (Ne.symm hj)] at hq
      refine List.mem_cons_of_mem _ (List.mem_filter.mpr ⟨lvs_mem.mpr hq, ?_⟩)
      have hc : ¬ (j + 1 = i ∧ w.category = 2) := fun z => by
        have := okst_ne hok hq z.1
        omega
      simp [hj, h1]
      exact Classical.not_and_iff_not_or_not.mp hc
/-- the locals at a method's start -/
def mkA : List Value → gLoc
  | [] => []
  | v :: vs => if v.category = 2 then some v :: none :: mkA vs else some v :: mkA vs
theorem mkA_args : ∀ (vs : List Value) (k j : Nat) (w : Value), (mkA vs)[j]? = some (some w) → (k + j, w) ∈ lv_args k vs
  | [], k, j, w, h => by simp [mkA] at h
  | v :: vs, k, j, w, h => by
    unfold mkA at h
    unfold lv_args
    by_cases hc : v.category = 2
    · rw [if_pos hc] at h
      rw [if_pos hc]
      match j, h with
      | 0, h => cases h; exact List.mem_cons_self
      | 1, h => cases h
      | j + 2, h =>
        have := mkA_args vs (k + 2) j w (by simpa using h)
        refine List.mem_cons_of_mem _ ?_
        rw [show k + (j + 2) = k + 2 + j by omega]
        exact this
    · rw [if_neg hc] at h
      rw [if_neg hc]
      match j, h with
      | 0, h => cases h; exact List.mem_cons_self
      | j + 1, h =>
        have := mkA_args vs (k + 1) j w (by simpa using h)
        refine List.mem_cons_of_mem _ ?_
        rw [show k + (j + 1) = k + 1 + j by omega]
        exact this
def mkL (n : Nat) (vs : List Value) : gLoc := mkA vs ++ List.replicate (n - (mkA vs).length) none
theorem mkL_has {ls : Array Slot} {n : Nat} {vs : List Value} (h : lv_has ls n (lv_args 0 vs)) : lv_has ls n (lvs (mkL n vs)) := by
  refine ⟨h.1, h.2.1, ?_⟩
  rintro ⟨j, w⟩ hq
  rw [lvs_mem] at hq
  refine h.2.2 (j, w) ?_
  unfold mkL at hq
  by_cases hj : j < (mkA vs).length
  · rw [List.getElem?_append_left hj] at hq
    have := mkA_args vs 0 j w hq
    rwa [Nat.zero_add] at this
  · rw [List.getElem?_append_right (by omega), List.getElem?_replicate] at hq
    split at hq <;> cases hq
end
section
/-! ===== a method's walk over the one world: Cx says what stands around it, S is the walk's goal at a place; a rule an instruction ===== -/
def rmz (d u : Nat) : Room := { frames := d, cells := u, slots := 6 * u, locals := 64 * d }
/-- the words of the tables that hold at every call -/
def wsG : List Cond := lw_tbl.filter goodWord
theorem wsG_tbl {w : Cond} (h : w ∈ wsG) : w ∈ lw_tbl := (List.mem_filter.mp h).1
theorem wsG_good {w : Cond} (h : w ∈ wsG) : (w.onTables && w.keeps) = true ∨ ∃ ty, w = .arrayClass ty := good_of_word (List.mem_filter.mp h).2
theorem wsG_goodIn : GoodIn wsG wsG := fun _ h => ⟨h, wsG_good h⟩
def gws (y : MethodName) (cc : ByteArray) (nL : Nat) (rt : Option FieldType) : List Cond := Cond.code y cc nL rt :: wsG
theorem gws_good {y : MethodName} {cc : ByteArray} {nL : Nat} {rt : Option FieldType} (h : Cond.code y cc nL rt ∈ wsG) : GoodIn wsG (gws y cc nL rt) := by
  intro w hw
  rcases List.mem_cons.mp hw with h1 | h1
  · rw [h1]; exact wsG_goodIn _ h
  · exact wsG_goodIn _ h1
/-- the picture of the world, and the method's end -/
def Pic (D : va_G) (ad : Nat → Nat → Nat) (aC : Nat → ClassId) (σ : gSig) (τ : gTau) (U : State) : Prop := va_P D gcl (Wd ad aC σ τ) U.heap ∧ va_K D gcl (gty aC) U
def QcZ (D : va_G) (ad : Nat → Nat → Nat) (aC : Nat → ClassId) (sz : Nat) (PV : Option Value → gSig → gTau → Prop) : Array Value → State → Outcome → State → Prop := fun _ st o t => (∃ (r : Option Value) (σ : gSig) (τ : gTau), o = .returned r ∧ PV r σ τ ∧ Pic D ad aC σ τ t) ∧ va_F (gA ad sz) st t
def XcZ (D : va_G) (ad : Nat → Nat → Nat) (aC : Nat → ClassId) (sz : Nat) (PX : String → gSig → gTau → Prop) : String → State → State → Prop := fun E st t => (∃ (σ : gSig) (τ : gTau), PX E σ τ ∧ Pic D ad aC σ τ t) ∧ va_F (gA ad sz) st t
/-- the texts of the exceptions, by their places -/
def gStr : List (String × Nat × String) := [("Gridprobe", 50, "the draft has 12 parts"), ("Gridprobe", 233, "no such cell"), ("Gridprobe", 65, "no such operation"), ("Gridprobe", 68, "the draft has fewer than two formulas, or 12 parts"), ("Gridprobe", 76, "the draft has not just one formula"), ("Gridprobe", 82, "a cell would rest on itself"), ("Gridprobe", 94, "low or high is out of range"), ("Gridprobe", 104, "the cell has a formula"), ("Gridprobe", 113, "value is not in the cell's range"), ("Gridprobe", 118, "no such kind"), ("Gridprobe", 123, "the cell has 4 properties"), ("Gridprobe", 131, "no such owner"), ("Gridprobe", 136, "seed or rows is out of range"), ("Gridprobe", 156, "owner is not the cell's owner, or days is out of range"), ("Gridprobe", 158, "the cell is not locked"), ("Gridprobe", 171, "days is out of range"), ("Gridprobe", 173, "today would be above 10000"), ("Gridprobe", 181, "the cell is locked"), ("Gridprobe", 191, "the value is a fault"), ("Gridprobe", 205, "no example, or no input then"), ("Gridprobe", 227, "not so many cells were unlocked")]
theorem wsG_of {w : Cond} (h1 : w ∈ lw_tbl) (h2 : goodWord w = true) : w ∈ wsG := List.mem_filter.mpr ⟨h1, h2⟩
theorem wsG_i {w : Cond} (i : Nat) (h1 : lw_tbl[i]? = some w) (h2 : goodWord w = true) : w ∈ wsG := wsG_of (List.mem_of_getElem? h1) h2
theorem wsG_all {ws : List Cond} (h1 : ∀ w ∈ ws, w ∈ lw_tbl) (h2 : ws.all goodWord = true) : ∀ w ∈ ws, w ∈ wsG := fun w h => wsG_of (h1 w h) (List.all_eq_true.mp h2 w h)
/-- words of other kinds, handed on by themselves -/
def gNw : List Cond := [.methodLinkNest RX5 9 yX0_init "Gridprobe", .methodLinkNest RX5 29 yX2_init "Gridprobe", .methodLinkNest RX5 32 yX4_init "Gridprobe", .methodLinkNest RX1 34 yX5_has "Gridprobe", .methodLinkNest RX3 45 yX0_init "Gridprobe", .methodLinkNest RX3 46 yX5_has "Gridprobe",
  .declares (Bundle.initS "java/lang/RuntimeException"), .declares (Bundle.initS "java/lang/Exception"), .declares (Bundle.initS Bundle.tN),
  .castable "java/lang/IndexOutOfBoundsException" "java/lang/IndexOutOfBoundsException", .castable "java/lang/IllegalArgumentException" "java/lang/IllegalArgumentException", .castable "java/lang/IllegalStateException" "java/lang/IllegalStateException", .castable "java/lang/ArithmeticException" "java/lang/ArithmeticException", .castable "java/util/NoSuchElementException" "java/util/NoSuchElementException"]
def Nx (U : State) : Prop := ∀ w ∈ gNw, va_Nw w U
theorem gNw_kind : ∀ w ∈ gNw, (∃ a i x h, w = .methodLinkNest a i x h) ∨ (∃ x, w = .declares x) ∨ ∃ a b, w = .castable a b := by
  intro w hw
  simp only [gNw, List.mem_cons, List.not_mem_nil, or_false] at hw
  rcases hw with rfl | rfl | rfl | rfl | rfl | rfl | rfl | rfl | rfl | rfl | rfl | rfl | rfl | rfl <;> first | exact Or.inl ⟨_, _, _, _, rfl⟩ | exact Or.inr (Or.inl ⟨_, rfl⟩) | exact Or.inr (Or.inr ⟨_, _, rfl⟩)
theorem gNw_tab {w : Cond} (h : w ∈ gNw) : w.onTables = true := by
  rcases gNw_kind w h with ⟨a, i, x, h, rfl⟩ | ⟨x, rfl⟩ | ⟨a, b, rfl⟩ <;> rfl
theorem Nx.warm {s U : State} (h : Nx s) (hW : s.WarmedH U.vm) : Nx U := fun w hw => by
  have h1 := h w hw
  rcases gNw_kind w hw with ⟨a, i, x, h, rfl⟩ | ⟨x, rfl⟩ | ⟨a, b, rfl⟩
  · exact va_Nw.warmM hW h1
  · exact va_Nw.warmD hW h1
  · exact va_Nw.warmC hW h1
theorem Nx.same {u U : State} (h : Nx u) (hv : u.vm = U.vm) : Nx U := fun w hw => va_Nw.same (gNw_tab hw) hv (h w hw)
theorem Nx.use {s : State} {args : Array Value} {w : Cond} (h : Nx s) (hw : w ∈ gNw) : w.before args s = true := va_Nw.use (gNw_tab hw) (h w hw)
/-- what a throw needs of the world outside -/
def Sx (A : Nat → Prop) (U : State) : Prop := vx_Zq Bundle.tN "UNASSIGNED_STACK" Bundle.steD A U U.heap ∧ vx_Zq Bundle.tN "SUPPRESSED_SENTINEL" Bundle.listD A U U.heap ∧ ∀ q ∈ gStr, ∃ sa : Nat, vk_R q.1 q.2.1 q.2.2 sa U
theorem Sx.narrow {A B : Nat → Prop} {s U : State} (h : Sx A s) (hAB : ∀ q, B q → A q) (hk : ∀ q : Nat, q < s.heap.size → ¬ A q → U.heap[q]? = s.heap[q]?) (hW : s.WarmedH U.vm) : Sx B U :=
  ⟨((h.1.kept hk).moved hW.alike).narrow hAB, ((h.2.1.kept hk).moved hW.alike).narrow hAB, fun q hq => by
    obtain ⟨sa, hs⟩ := h.2.2 q hq
    exact ⟨sa, hs.warm hW⟩⟩
theorem gA_sub {ad : Nat → Nat → Nat} {a b : Nat} (h : a ≤ b) {q : Nat} (hq : gA ad b q) : gA ad a q := by
  rcases hq with h1 | h1
  · exact Or.inl h1
  · exact Or.inr (Nat.le_trans h h1)
def PreZ (D : va_G) (ad : Nat → Nat → Nat) (aC : Nat → ClassId) (σ : gSig) (τ : gTau) (sz : Nat) (U : State) : Prop := U.heap.size = sz ∧ Pic D ad aC σ τ U ∧ Nx U
/-- a method that returns: its contract -/
def CZ (l : Launch) (D : va_G) (ad : Nat → Nat → Nat) (aC : Nat → ClassId) (y : MethodName) (cc : ByteArray) (nL : Nat) (rt : Option FieldType) (d : Nat) (av : List Value) (σ : gSig) (τ : gTau) (PV : Option Value → gSig → gTau → Prop) : Prop :=
  gInj ad → ∀ sz : Nat, Met l y (gws y cc nL rt) (rmz d 0) (va_Pc av (PreZ D ad aC σ τ sz)) (QcZ D ad aC sz PV) 0 0 (gA ad sz)
/-- a method that returns or throws: its contract -/
def CT (l : Launch) (D : va_G) (ad : Nat → Nat → Nat) (aC : Nat → ClassId) (y : MethodName) (cc : ByteArray) (nL : Nat) (rt : Option FieldType) (d u : Nat) (av : List Value) (σ : gSig) (τ : gTau) (PV : Option Value → gSig → gTau → Prop) (PX : String → gSig → gTau → Prop) : Prop :=
  gInj ad → l.stackTraces = false → ∀ sz : Nat, vx_Met l y (gws y cc nL rt) (rmz d u) (va_Pc av (fun U => PreZ D ad aC σ τ sz U ∧ Sx (gA ad sz) U)) (QcZ D ad aC sz PV) (XcZ D ad aC sz PX) u (6 * u) (gA ad sz)
abbrev gS : Type := Nat → gSig → gTau → Nat → gLoc → List Value → Prop
def SW (p : Program) (l : Launch) (e : Env) (R : Room) (s : State) (m : MethodId) (args : Array Value) (below : List Frame) (meth : Method) (c : Code) (Q : State → Prop) (D : va_G) (ad : Nat → Nat → Nat) (aC : Nat → ClassId) (nL : Nat) : gS :=
  fun n σ τ pc L st => ∀ (H : Heap) (locs : List Loc) (ls : Array Slot), va_P D gcl (Wd ad aC σ τ) H → va_S (gA ad s.heap.size) s.heap H locs → lv_has ls nL (lvs L) → W p l e R s m args below meth c H locs n (6 * n) Q (F0 m pc ls st)
/-- what stands around a walk -/
def Cx (l : Launch) (D : va_G) (ad : Nat → Nat → Nat) (aC : Nat → ClassId) (cc : ByteArray) (own : String) (nL : Nat) (rt : Option FieldType) (d u : Nat) (X : Prop) (PV : Option Value → gSig → gTau → Prop) (PX : String → gSig → gTau → Prop) (S : gS) : Prop :=
  ∃ (p : Program) (e : Env) (s : State) (m : MethodId) (args : Array Value) (below : List Frame) (meth : Method) (c : Code) (Q : State → Prop),
    p.tables.exec = Jvm.exec ∧ c.code = cc ∧ c.maxLocals = nL ∧ s.vm.findClass own = some m.cls ∧ (∀ w ∈ wsG, w.before args s = true) ∧ meth.sig.returnType = rt ∧ meth.locks = false ∧ va_K D gcl (gty aC) s ∧ Nx s ∧ gInj ad ∧
    (∀ t, MQ below (QcZ D ad aC s.heap.size PV) args s u (6 * u) (gA ad s.heap.size) t → Q t) ∧
    (X → l.stackTraces = false ∧ (∀ x ∈ c.exceptionTable.toList, False) ∧ Sx (gA ad s.heap.size) s ∧ ∀ t, vx_MQ below (QcZ D ad aC s.heap.size PV) (XcZ D ad aC s.heap.size PX) args s u (6 * u) (gA ad s.heap.size) t → Q t) ∧
    S = SW p l e (rmz d u) s m args below meth c Q D ad aC nL
theorem W.imp {p : Program} {l : Launch} {e : Env} {R : Room} {s : State} {m : MethodId} {args : Array Value} {below : List Frame} {meth : Method} {c : Code} {H : Heap} {locs : List Loc} {cells slots : Nat} {Q Q' : State → Prop} {g : JFrame} (h : ∀ t, Q t → Q' t) (k : W p l e R s m args below meth c H locs cells slots Q g) : W p l e R s m args below meth c H locs cells slots Q' g := fun T hT X => by
  obtain ⟨t, a, b⟩ := k T hT X
  exact ⟨t, a, h t b⟩
section GRULES
variable {l : Launch} {D : va_G} {ad : Nat → Nat → Nat} {aC : Nat → ClassId} {cc : ByteArray} {own : String} {nL : Nat} {rt : Option FieldType} {d u : Nat} {X : Prop} {PV : Option Value → gSig → gTau → Prop} {PX : String → gSig → gTau → Prop} {S : gS}
variable {n : Nat} {σ : gSig} {τ : gTau} {pc : Nat} {L : gLoc} {st : List Value}
theorem r_iconst (C : Cx l D ad aC cc own nL rt d u X PV PX S) {i : Int} {v : Int32} (hd : decode cc pc = .ok (.iconst i, 1)) (hv : Int32.ofInt i = v) (k : S n σ τ (pc + 1) L (.int v :: st)) : S n σ τ pc L st := by
  obtain ⟨p, e, s, m, args, below, meth, c, Q, hx, hb, hml, hown, hts, hr, hlk, hK, hN, hI, hQ, hX, rfl⟩ := C
  intro H locs ls hP hS hl
  exact lv_iconst hx hb hd hv (k H locs ls hP hS hl)
theorem r_bipush (C : Cx l D ad aC cc own nL rt d u X PV PX S) {i : Int} {v : Int32} (hd : decode cc pc = .ok (.bipush i, 2)) (hv : (Int8.ofInt i).toInt32 = v) (k : S n σ τ (pc + 2) L (.int v :: st)) : S n σ τ pc L st := by
  obtain ⟨p, e, s, m, args, below, meth, c, Q, hx, hb, hml, hown, hts, hr, hlk, hK, hN, hI, hQ, hX, rfl⟩ := C
  intro H locs ls hP hS hl
  exact lv_bipush hx hb hd hv (k H locs ls hP hS hl)
theorem r_sipush (C : Cx l D ad aC cc own nL rt d u X PV PX S) {i : Int} {v : Int32} (hd : decode cc pc = .ok (.sipush i, 3)) (hv : (Int16.ofInt i).toInt32 = v) (k : S n σ τ (pc + 3) L (.int v :: st)) : S n σ τ pc L st := by
  obtain ⟨p, e, s, m, args, below, meth, c, Q, hx, hb, hml, hown, hts, hr, hlk, hK, hN, hI, hQ, hX, rfl⟩ := C
  intro H locs ls hP hS hl
  exact lv_sipush hx hb hd hv (k H locs ls hP hS hl)
theorem r_lconst (C : Cx l D ad aC cc own nL rt d u X PV PX S) {i : Fin 2} {v : Int64} (hd : decode cc pc = .ok (.lconst i, 1)) (hv : Int64.ofNat (i : Nat) = v) (k : S n σ τ (pc + 1) L (.long v :: st)) : S n σ τ pc L st := by
  obtain ⟨p, e, s, m, args, below, meth, c, Q, hx, hb, hml, hown, hts, hr, hlk, hK, hN, hI, hQ, hX, rfl⟩ := C
  intro H locs ls hP hS hl
  exact lv_lconst hx hb hd hv (k H locs ls hP hS hl)
theorem r_ldc (C : Cx l D ad aC cc own nL rt d u X PV PX S) {index : Nat} {v : Int32} (hd : decode cc pc = .ok (.ldc index, 2)) (hw : Jvm.Cond.constant own index v ∈ wsG) (k : S n σ τ (pc + 2) L (.int v :: st)) : S n σ τ pc L st := by
  obtain ⟨p, e, s, m, args, below, meth, c, Q, hx, hb, hml, hown, hts, hr, hlk, hK, hN, hI, hQ, hX, rfl⟩ := C
  intro H locs ls hP hS hl
  exact lv_ldc hx hb hown (hts _ hw) hd (k H locs ls hP hS hl)
theorem r_ldcw (C : Cx l D ad aC cc own nL rt d u X PV PX S) {index : Nat} {v : Int32} (hd : decode cc pc = .ok (.ldc_w index, 3)) (hw : Jvm.Cond.constant own index v ∈ wsG) (k : S n σ τ (pc + 3) L (.int v :: st)) : S n σ τ pc L st := by
  obtain ⟨p, e, s, m, args, below, meth, c, Q, hx, hb, hml, hown, hts, hr, hlk, hK, hN, hI, hQ, hX, rfl⟩ := C
  intro H locs ls hP hS hl
  exact lv_ldcw hx hb hown (hts _ hw) hd (k H locs ls hP hS hl)
theorem r_ldc2 (C : Cx l D ad aC cc own nL rt d u X PV PX S) {index : Nat} {v : Int64} (hd : decode cc pc = .ok (.ldc2_w index, 3)) (hw : Jvm.Cond.constantLong own index v ∈ wsG) (k : S n σ τ (pc + 3) L (.long v :: st)) : S n σ τ pc L st := by
  obtain ⟨p, e, s, m, args, below, meth, c, Q, hx, hb, hml, hown, hts, hr, hlk, hK, hN, hI, hQ, hX, rfl⟩ := C
  intro H locs ls hP hS hl
  exact lv_ldc2 hx hb hown (hts _ hw) hd (k H locs ls hP hS hl)
theorem r_iload_n (C : Cx l D ad aC cc own nL rt d u X PV PX S) {i : Fin 4} {j : Nat} {x : Int32} (hd : decode cc pc = .ok (.iload_n i, 1)) (hi : (i : Nat) = j) (hj : L[j]? = some (some (.int x))) (k : S n σ τ (pc + 1) L (.int x :: st)) : S n σ τ pc L st := by
  obtain ⟨p, e, s, m, args, below, meth, c, Q, hx, hb, hml, hown, hts, hr, hlk, hK, hN, hI, hQ, hX, rfl⟩ := C
  intro H locs ls hP hS hl
  exact lv_iload_n hx hb hd hi (lvs_at hl hj) (k H locs ls hP hS hl)
theorem r_iload (C : Cx l D ad aC cc own nL rt d u X PV PX S) {j : Nat} {x : Int32} (hd : decode cc pc = .ok (.iload j, 2)) (hj : L[j]? = some (some (.int x))) (k : S n σ τ (pc + 2) L (.int x :: st)) : S n σ τ pc L st := by
  obtain ⟨p, e, s, m, args, below, meth, c, Q, hx, hb, hml, hown, hts, hr, hlk, hK, hN, hI, hQ, hX, rfl⟩ := C
  intro H locs ls hP hS hl
  exact lv_iload hx hb hd (lvs_at hl hj) (k H locs ls hP hS hl)
theorem r_istore_n (C : Cx l D ad aC cc own nL rt d u X PV PX S) {i : Fin 4} {j : Nat} {x : Int32} (hd : decode cc pc = .ok (.istore_n i, 1)) (hi : (i : Nat) = j) (hn : j < nL) (hok : okst L j = true) (k : S n σ τ (pc + 1) (L.set j (some (.int x))) st) : S n σ τ pc L (.int x :: st) := by
  obtain ⟨p, e, s, m, args, below, meth, c, Q, hx, hb, hml, hown, hts, hr, hlk, hK, hN, hI, hQ, hX, rfl⟩ := C
  intro H locs ls hP hS hl
  exact lv_istore_n hx hb hd hi hl hn rfl (fun ls' hl' => k H locs ls' hP hS (lvs_put hl' hok))
theorem r_istore (C : Cx l D ad aC cc own nL rt d u X PV PX S) {j : Nat} {x : Int32} (hd : decode cc pc = .ok (.istore j, 2)) (hn : j < nL) (hok : okst L j = true) (k : S n σ τ (pc + 2) (L.set j (some (.int x))) st) : S n σ τ pc L (.int x :: st) := by
  obtain ⟨p, e, s, m, args, below, meth, c, Q, hx, hb, hml, hown, hts, hr, hlk, hK, hN, hI, hQ, hX, rfl⟩ := C
  intro H locs ls hP hS hl
  exact lv_istore hx hb hd hl hn rfl (fun ls' hl' => k H locs ls' hP hS (lvs_put hl' hok))
theorem r_lload_n (C : Cx l D ad aC cc own nL rt d u X PV PX S) {i : Fin 4} {j : Nat} {x : Int64} (hd : decode cc pc = .ok (.lload_n i, 1)) (hi : (i : Nat) = j) (hj : L[j]? = some (some (.long x))) (k : S n σ τ (pc + 1) L (.long x :: st)) : S n σ τ pc L st := by
  obtain ⟨p, e, s, m, args, below, meth, c, Q, hx, hb, hml, hown, hts, hr, hlk, hK, hN, hI, hQ, hX, rfl⟩ := C
  intro H locs ls hP hS hl
  exact lv_lload_n hx hb hd hi (lvs_at hl hj) (k H locs ls hP hS hl)
theorem r_lload (C : Cx l D ad aC cc own nL rt d u X PV PX S) {j : Nat} {x : Int64} (hd : decode cc pc = .ok (.lload j, 2)) (hj : L[j]? = some (some (.long x))) (k : S n σ τ (pc + 2) L (.long x :: st)) : S n σ τ pc L st := by
  obtain ⟨p, e, s, m, args, below, meth, c, Q, hx, hb, hml, hown, hts, hr, hlk, hK, hN, hI, hQ, hX, rfl⟩ := C
  intro H locs ls hP hS hl
  exact lv_lload hx hb hd (lvs_at hl hj) (k H locs ls hP hS hl)
theorem r_lstore_n (C : Cx l D ad aC cc own nL rt d u X PV PX S) {i : Fin 4} {j : Nat} {x : Int64} (hd : decode cc pc = .ok (.lstore_n i, 1)) (hi : (i : Nat) = j) (hn : j + 1 < nL) (hok : okst L j = true) (k : S n σ τ (pc + 1) ((L.set j (some (.long x))).set (j + 1) none) st) : S n σ τ pc L (.long x :: st) := by
  obtain ⟨p, e, s, m, args, below, meth, c, Q, hx, hb, hml, hown, hts, hr, hlk, hK, hN, hI, hQ, hX, rfl⟩ := C
  intro H locs ls hP hS hl
  exact lv_lstore_n hx hb hd hi hl hn rfl (fun ls' hl' => k H locs ls' hP hS (lvs_put2 hl' hok))
theorem r_lstore (C : Cx l D ad aC cc own nL rt d u X PV PX S) {j : Nat} {x : Int64} (hd : decode cc pc = .ok (.lstore j, 2)) (hn : j + 1 < nL) (hok : okst L j = true) (k : S n σ τ (pc + 2) ((L.set j (some (.long x))).set (j + 1) none) st) : S n σ τ pc L (.long x :: st) := by
  obtain ⟨p, e, s, m, args, below, meth, c, Q, hx, hb, hml, hown, hts, hr, hlk, hK, hN, hI, hQ, hX, rfl⟩ := C
  intro H locs ls hP hS hl
  exact lv_lstore hx hb hd hl hn rfl (fun ls' hl' => k H locs ls' hP hS (lvs_put2 hl' hok))
theorem r_aload_n (C : Cx l D ad aC cc own nL rt d u X PV PX S) {i : Fin 4} {j : Nat} {x : Nat} (hd : decode cc pc = .ok (.aload_n i, 1)) (hi : (i : Nat) = j) (hj : L[j]? = some (some (.ref x))) (k : S n σ τ (pc + 1) L (.ref x :: st)) : S n σ τ pc L st := by
  obtain ⟨p, e, s, m, args, below, meth, c, Q, hx, hb, hml, hown, hts, hr, hlk, hK, hN, hI, hQ, hX, rfl⟩ := C
  intro H locs ls hP hS hl
  exact lv_aload_n hx hb hd hi (lvs_at hl hj) (k H locs ls hP hS hl)
theorem r_aload (C : Cx l D ad aC cc own nL rt d u X PV PX S) {j : Nat} {x : Nat} (hd : decode cc pc = .ok (.aload j, 2)) (hj : L[j]? = some (some (.ref x))) (k : S n σ τ (pc + 2) L (.ref x :: st)) : S n σ τ pc L st := by
  obtain ⟨p, e, s, m, args, below, meth, c, Q, hx, hb, hml, hown, hts, hr, hlk, hK, hN, hI, hQ, hX, rfl⟩ := C
  intro H locs ls hP hS hl
  exact lv_aload hx hb hd (lvs_at hl hj) (k H locs ls hP hS hl)
theorem r_astore_n (C : Cx l D ad aC cc own nL rt d u X PV PX S) {i : Fin 4} {j : Nat} {x : Nat} (hd : decode cc pc = .ok (.astore_n i, 1)) (hi : (i : Nat) = j) (hn : j < nL) (hok : okst L j = true) (k : S n σ τ (pc + 1) (L.set j (some (.ref x))) st) : S n σ τ pc L (.ref x :: st) := by
  obtain ⟨p, e, s, m, args, below, meth, c, Q, hx, hb, hml, hown, hts, hr, hlk, hK, hN, hI, hQ, hX, rfl⟩ := C
  intro H locs ls hP hS hl
  exact lv_astore_n hx hb hd hi hl hn rfl (fun ls' hl' => k H locs ls' hP hS (lvs_put hl' hok))
theorem r_astore (C : Cx l D ad aC cc own nL rt d u X PV PX S) {j : Nat} {x : Nat} (hd : decode cc pc = .ok (.astore j, 2)) (hn : j < nL) (hok : okst L j = true) (k : S n σ τ (pc + 2) (L.set j (some (.ref x))) st) : S n σ τ pc L (.ref x :: st) := by
  obtain ⟨p, e, s, m, args, below, meth, c, Q, hx, hb, hml, hown, hts, hr, hlk, hK, hN, hI, hQ, hX, rfl⟩ := C
  intro H locs ls hP hS hl
  exact lv_astore hx hb hd hl hn rfl (fun ls' hl' => k H locs ls' hP hS (lvs_put hl' hok))
theorem r_iinc (C : Cx l D ad aC cc own nL rt d u X PV PX S) {j : Nat} {i : Int} {x v : Int32} (hd : decode cc pc = .ok (.iinc j i, 3)) (hj : L[j]? = some (some (.int x))) (hv : x + Int32.ofInt i = v) (hn : j < nL) (hok : okst L j = true) (k : S n σ τ (pc + 3) (L.set j (some (.int v))) st) : S n σ τ pc L st := by
  obtain ⟨p, e, s, m, args, below, meth, c, Q, hx, hb, hml, hown, hts, hr, hlk, hK, hN, hI, hQ, hX, rfl⟩ := C
  intro H locs ls hP hS hl
  obtain ⟨k9, hk9⟩ := List.getElem?_of_mem (lvs_mem.mpr hj)
  exact lv_iinc hx hb hd hl (k := k9) hk9 hv hn rfl (fun ls' hl' => k H locs ls' hP hS (lvs_put hl' hok))
theorem r_iadd (C : Cx l D ad aC cc own nL rt d u X PV PX S) {x y : Int32} (hd : decode cc pc = .ok (.iadd, 1)) (k : S n σ τ (pc + 1) L (.int (x + y) :: st)) : S n σ τ pc L (.int y :: .int x :: st) := by
  obtain ⟨p, e, s, m, args, below, meth, c, Q, hx, hb, hml, hown, hts, hr, hlk, hK, hN, hI, hQ, hX, rfl⟩ := C
  intro H locs ls hP hS hl
  exact lv_iadd hx hb hd (k H locs ls hP hS hl)
theorem r_isub (C : Cx l D ad aC cc own nL rt d u X PV PX S) {x y : Int32} (hd : decode cc pc = .ok (.isub, 1)) (k : S n σ τ (pc + 1) L (.int (x - y) :: st)) : S n σ τ pc L (.int y :: .int x :: st) := by
  obtain ⟨p, e, s, m, args, below, meth, c, Q, hx, hb, hml, hown, hts, hr, hlk, hK, hN, hI, hQ, hX, rfl⟩ := C
  intro H locs ls hP hS hl
  exact lv_isub hx hb hd (k H locs ls hP hS hl)
theorem r_imul (C : Cx l D ad aC cc own nL rt d u X PV PX S) {x y : Int32} (hd : decode cc pc = .ok (.imul, 1)) (k : S n σ τ (pc + 1) L (.int (x * y) :: st)) : S n σ τ pc L (.int y :: .int x :: st) := by
  obtain ⟨p, e, s, m, args, below, meth, c, Q, hx, hb, hml, hown, hts, hr, hlk, hK, hN, hI, hQ, hX, rfl⟩ := C
  intro H locs ls hP hS hl
  exact lv_imul hx hb hd (k H locs ls hP hS hl)
theorem r_iand (C : Cx l D ad aC cc own nL rt d u X PV PX S) {x y : Int32} (hd : decode cc pc = .ok (.iand, 1)) (k : S n σ τ (pc + 1) L (.int (x &&& y) :: st)) : S n σ τ pc L (.int y :: .int x :: st) := by
  obtain ⟨p, e, s, m, args, below, meth, c, Q, hx, hb, hml, hown, hts, hr, hlk, hK, hN, hI, hQ, hX, rfl⟩ := C
  intro H locs ls hP hS hl
  exact lv_iand hx hb hd (k H locs ls hP hS hl)
theorem r_ior (C : Cx l D ad aC cc own nL rt d u X PV PX S) {x y : Int32} (hd : decode cc pc = .ok (.ior, 1)) (k : S n σ τ (pc + 1) L (.int (x ||| y) :: st)) : S n σ τ pc L (.int y :: .int x :: st) := by
  obtain ⟨p, e, s, m, args, below, meth, c, Q, hx, hb, hml, hown, hts, hr, hlk, hK, hN, hI, hQ, hX, rfl⟩ := C
  intro H locs ls hP hS hl
  exact lv_ior hx hb hd (k H locs ls hP hS hl)
theorem r_ixor (C : Cx l D ad aC cc own nL rt d u X PV PX S) {x y : Int32} (hd : decode cc pc = .ok (.ixor, 1)) (k : S n σ τ (pc + 1) L (.int (x ^^^ y) :: st)) : S n σ τ pc L (.int y :: .int x :: st) := by
  obtain ⟨p, e, s, m, args, below, meth, c, Q, hx, hb, hml, hown, hts, hr, hlk, hK, hN, hI, hQ, hX, rfl⟩ := C
  intro H locs ls hP hS hl
  exact lv_ixor hx hb hd (k H locs ls hP hS hl)
theorem r_ishl (C : Cx l D ad aC cc own nL rt d u X PV PX S) {x y : Int32} (hd : decode cc pc = .ok (.ishl, 1)) (k : S n σ τ (pc + 1) L (.int (x <<< (y &&& 31)) :: st)) : S n σ τ pc L (.int y :: .int x :: st) := by
  obtain ⟨p, e, s, m, args, below, meth, c, Q, hx, hb, hml, hown, hts, hr, hlk, hK, hN, hI, hQ, hX, rfl⟩ := C
  intro H locs ls hP hS hl
  exact lv_ishl hx hb hd (k H locs ls hP hS hl)
theorem r_ishr (C : Cx l D ad aC cc own nL rt d u X PV PX S) {x y : Int32} (hd : decode cc pc = .ok (.ishr, 1)) (k : S n σ τ (pc + 1) L (.int (x >>> (y &&& 31)) :: st)) : S n σ τ pc L (.int y :: .int x :: st) := by
  obtain ⟨p, e, s, m, args, below, meth, c, Q, hx, hb, hml, hown, hts, hr, hlk, hK, hN, hI, hQ, hX, rfl⟩ := C
  intro H locs ls hP hS hl
  exact lv_ishr hx hb hd (k H locs ls hP hS hl)
theorem r_idiv (C : Cx l D ad aC cc own nL rt d u X PV PX S) {x y : Int32} (hd : decode cc pc = .ok (.idiv, 1)) (hne : ¬ y = 0) (k : S n σ τ (pc + 1) L (.int (x / y) :: st)) : S n σ τ pc L (.int y :: .int x :: st) := by
  obtain ⟨p, e, s, m, args, below, meth, c, Q, hx, hb, hml, hown, hts, hr, hlk, hK, hN, hI, hQ, hX, rfl⟩ := C
  intro H locs ls hP hS hl
  exact lv_idiv hx hb hd hne (k H locs ls hP hS hl)
theorem r_irem (C : Cx l D ad aC cc own nL rt d u X PV PX S) {x y : Int32} (hd : decode cc pc = .ok (.irem, 1)) (hne : ¬ y = 0) (k : S n σ τ (pc + 1) L (.int (x - x / y * y) :: st)) : S n σ τ pc L (.int y :: .int x :: st) := by
  obtain ⟨p, e, s, m, args, below, meth, c, Q, hx, hb, hml, hown, hts, hr, hlk, hK, hN, hI, hQ, hX, rfl⟩ := C
  intro H locs ls hP hS hl
  exact lv_irem hx hb hd hne (k H locs ls hP hS hl)
theorem r_iushr (C : Cx l D ad aC cc own nL rt d u X PV PX S) {x y v : Int32} (hd : decode cc pc = .ok (.iushr, 1)) (hv : (x.toUInt32 >>> (y.toUInt32 &&& Int32.toUInt32 31)).toInt32 = v) (k : S n σ τ (pc + 1) L (.int v :: st)) : S n σ τ pc L (.int y :: .int x :: st) := by
  obtain ⟨p, e, s, m, args, below, meth, c, Q, hx, hb, hml, hown, hts, hr, hlk, hK, hN, hI, hQ, hX, rfl⟩ := C
  intro H locs ls hP hS hl
  exact lv_iushr hx hb hd hv (k H locs ls hP hS hl)
theorem r_ineg (C : Cx l D ad aC cc own nL rt d u X PV PX S) {x : Int32} (hd : decode cc pc = .ok (.ineg, 1)) (k : S n σ τ (pc + 1) L (.int (-x) :: st)) : S n σ τ pc L (.int x :: st) := by
  obtain ⟨p, e, s, m, args, below, meth, c, Q, hx, hb, hml, hown, hts, hr, hlk, hK, hN, hI, hQ, hX, rfl⟩ := C
  intro H locs ls hP hS hl
  exact lv_ineg hx hb hd (k H locs ls hP hS hl)
theorem r_i2l (C : Cx l D ad aC cc own nL rt d u X PV PX S) {x : Int32} (hd : decode cc pc = .ok (.i2l, 1)) (k : S n σ τ (pc + 1) L (.long x.toInt64 :: st)) : S n σ τ pc L (.int x :: st) := by
  obtain ⟨p, e, s, m, args, below, meth, c, Q, hx, hb, hml, hown, hts, hr, hlk, hK, hN, hI, hQ, hX, rfl⟩ := C
  intro H locs ls hP hS hl
  exact lv_i2l hx hb hd rfl (k H locs ls hP hS hl)
theorem r_l2i (C : Cx l D ad aC cc own nL rt d u X PV PX S) {x : Int64} (hd : decode cc pc = .ok (.l2i, 1)) (k : S n σ τ (pc + 1) L (.int x.toInt32 :: st)) : S n σ τ pc L (.long x :: st) := by
  obtain ⟨p, e, s, m, args, below, meth, c, Q, hx, hb, hml, hown, hts, hr, hlk, hK, hN, hI, hQ, hX, rfl⟩ := C
  intro H locs ls hP hS hl
  exact lv_l2i hx hb hd rfl (k H locs ls hP hS hl)
theorem r_ladd (C : Cx l D ad aC cc own nL rt d u X PV PX S) {x y : Int64} (hd : decode cc pc = .ok (.ladd, 1)) (k : S n σ τ (pc + 1) L (.long (x + y) :: st)) : S n σ τ pc L (.long y :: .long x :: st) := by
  obtain ⟨p, e, s, m, args, below, meth, c, Q, hx, hb, hml, hown, hts, hr, hlk, hK, hN, hI, hQ, hX, rfl⟩ := C
  intro H locs ls hP hS hl
  exact lv_ladd hx hb hd (k H locs ls hP hS hl)
theorem r_lsub (C : Cx l D ad aC cc own nL rt d u X PV PX S) {x y : Int64} (hd : decode cc pc = .ok (.lsub, 1)) (k : S n σ τ (pc + 1) L (.long (x - y) :: st)) : S n σ τ pc L (.long y :: .long x :: st) := by
  obtain ⟨p, e, s, m, args, below, meth, c, Q, hx, hb, hml, hown, hts, hr, hlk, hK, hN, hI, hQ, hX, rfl⟩ := C
  intro H locs ls hP hS hl
  exact lv_lsub hx hb hd (k H locs ls hP hS hl)
theorem r_lmul (C : Cx l D ad aC cc own nL rt d u X PV PX S) {x y : Int64} (hd : decode cc pc = .ok (.lmul, 1)) (k : S n σ τ (pc + 1) L (.long (x * y) :: st)) : S n σ τ pc L (.long y :: .long x :: st) := by
  obtain ⟨p, e, s, m, args, below, meth, c, Q, hx, hb, hml, hown, hts, hr, hlk, hK, hN, hI, hQ, hX, rfl⟩ := C
  intro H locs ls hP hS hl
  exact lv_lmul hx hb hd (k H locs ls hP hS hl)
theorem r_lcmp (C : Cx l D ad aC cc own nL rt d u X PV PX S) {x y : Int64} (hd : decode cc pc = .ok (.lcmp, 1)) (k : S n σ τ (pc + 1) L (.int (lg_cmp x y) :: st)) : S n σ τ pc L (.long y :: .long x :: st) := by
  obtain ⟨p, e, s, m, args, below, meth, c, Q, hx, hb, hml, hown, hts, hr, hlk, hK, hN, hI, hQ, hX, rfl⟩ := C
  intro H locs ls hP hS hl
  exact W.lcmp hx hb hd (k H locs ls hP hS hl)
theorem r_dup (C : Cx l D ad aC cc own nL rt d u X PV PX S) {v : Value} (hd : decode cc pc = .ok (.dup, 1)) (hc : v.category = 1) (k : S n σ τ (pc + 1) L (v :: v :: st)) : S n σ τ pc L (v :: st) := by
  obtain ⟨p, e, s, m, args, below, meth, c, Q, hx, hb, hml, hown, hts, hr, hlk, hK, hN, hI, hQ, hX, rfl⟩ := C
  intro H locs ls hP hS hl
  exact lv_dup hx hb hd hc (k H locs ls hP hS hl)
theorem r_dup2 (C : Cx l D ad aC cc own nL rt d u X PV PX S) {v w : Value} (hd : decode cc pc = .ok (.dup2, 1)) (hc : v.category = 1) (hc2 : w.category = 1) (k : S n σ τ (pc + 1) L (v :: w :: v :: w :: st)) : S n σ τ pc L (v :: w :: st) := by
  obtain ⟨p, e, s, m, args, below, meth, c, Q, hx, hb, hml, hown, hts, hr, hlk, hK, hN, hI, hQ, hX, rfl⟩ := C
  intro H locs ls hP hS hl
  exact lv_dup2_11 hx hb hd hc hc2 (k H locs ls hP hS hl)
theorem r_dup_x1 (C : Cx l D ad aC cc own nL rt d u X PV PX S) {v w : Value} (hd : decode cc pc = .ok (.dup_x1, 1)) (hc : v.category = 1) (hc2 : w.category = 1) (k : S n σ τ (pc + 1) L (v :: w :: v :: st)) : S n σ τ pc L (v :: w :: st) := by
  obtain ⟨p, e, s, m, args, below, meth, c, Q, hx, hb, hml, hown, hts, hr, hlk, hK, hN, hI, hQ, hX, rfl⟩ := C
  intro H locs ls hP hS hl
  exact lv_dup_x1 hx hb hd hc hc2 (k H locs ls hP hS hl)
theorem r_pop (C : Cx l D ad aC cc own nL rt d u X PV PX S) {v : Value} (hd : decode cc pc = .ok (.pop, 1)) (hc : v.category = 1) (k : S n σ τ (pc + 1) L st) : S n σ τ pc L (v :: st) := by
  obtain ⟨p, e, s, m, args, below, meth, c, Q, hx, hb, hml, hown, hts, hr, hlk, hK, hN, hI, hQ, hX, rfl⟩ := C
  intro H locs ls hP hS hl
  exact lv_pop hx hb hd hc (k H locs ls hP hS hl)
theorem r_ifeq (C : Cx l D ad aC cc own nL rt d u X PV PX S) {x : Int32} {off : Int} {tgt : Nat} (hd : decode cc pc = .ok (.ifCond .eq off, 3)) (ht : (pc : Int) + off = (tgt : Int)) (kt : x = 0 → S n σ τ tgt L st) (kf : ¬ x = 0 → S n σ τ (pc + 3) L st) : S n σ τ pc L (.int x :: st) := by
  obtain ⟨p, e, s, m, args, below, meth, c, Q, hx, hb, hml, hown, hts, hr, hlk, hK, hN, hI, hQ, hX, rfl⟩ := C
  intro H locs ls hP hS hl
  exact lv_if_eq hx hb hd ht (fun q => kt q H locs ls hP hS hl) (fun q => kf q H locs ls hP hS hl)
theorem r_icmpeq (C : Cx l D ad aC cc own nL rt d u X PV PX S) {x y : Int32} {off : Int} {tgt : Nat} (hd : decode cc pc = .ok (.if_icmp .eq off, 3)) (ht : (pc : Int) + off = (tgt : Int)) (kt : x = y → S n σ τ tgt L st) (kf : ¬ x = y → S n σ τ (pc + 3) L st) : S n σ τ pc L (.int y :: .int x :: st) := by
  obtain ⟨p, e, s, m, args, below, meth, c, Q, hx, hb, hml, hown, hts, hr, hlk, hK, hN, hI, hQ, hX, rfl⟩ := C
  intro H locs ls hP hS hl
  exact lv_icmp_eq hx hb hd ht (fun q => kt q H locs ls hP hS hl) (fun q => kf q H locs ls hP hS hl)
theorem r_ifne (C : Cx l D ad aC cc own nL rt d u X PV PX S) {x : Int32} {off : Int} {tgt : Nat} (hd : decode cc pc = .ok (.ifCond .ne off, 3)) (ht : (pc : Int) + off = (tgt : Int)) (kt : ¬ x = 0 → S n σ τ tgt L st) (kf : x = 0 → S n σ τ (pc + 3) L st) : S n σ τ pc L (.int x :: st) := by
  obtain ⟨p, e, s, m, args, below, meth, c, Q, hx, hb, hml, hown, hts, hr, hlk, hK, hN, hI, hQ, hX, rfl⟩ := C
  intro H locs ls hP hS hl
  exact lv_if_ne hx hb hd ht (fun q => kt q H locs ls hP hS hl) (fun q => kf q H locs ls hP hS hl)
theorem r_icmpne (C : Cx l D ad aC cc own nL rt d u X PV PX S) {x y : Int32} {off : Int} {tgt : Nat} (hd : decode cc pc = .ok (.if_icmp .ne off, 3)) (ht : (pc : Int) + off = (tgt : Int)) (kt : ¬ x = y → S n σ τ tgt L st) (kf : x = y → S n σ τ (pc + 3) L st) : S n σ τ pc L (.int y :: .int x :: st) := by
  obtain ⟨p, e, s, m, args, below, meth, c, Q, hx, hb, hml, hown, hts, hr, hlk, hK, hN, hI, hQ, hX, rfl⟩ := C
  intro H locs ls hP hS hl
  exact lv_icmp_ne hx hb hd ht (fun q => kt q H locs ls hP hS hl) (fun q => kf q H locs ls hP hS hl)
theorem r_iflt (C : Cx l D ad aC cc own nL rt d u X PV PX S) {x : Int32} {off : Int} {tgt : Nat} (hd : decode cc pc = .ok (.ifCond .lt off, 3)) (ht : (pc : Int) + off = (tgt : Int)) (kt : x < 0 → S n σ τ tgt L st) (kf : ¬ x < 0 → S n σ τ (pc + 3) L st) : S n σ τ pc L (.int x :: st) := by
  obtain ⟨p, e, s, m, args, below, meth, c, Q, hx, hb, hml, hown, hts, hr, hlk, hK, hN, hI, hQ, hX, rfl⟩ := C
  intro H locs ls hP hS hl
  exact lv_if_lt hx hb hd ht (fun q => kt q H locs ls hP hS hl) (fun q => kf q H locs ls hP hS hl)
theorem r_icmplt (C : Cx l D ad aC cc own nL rt d u X PV PX S) {x y : Int32} {off : Int} {tgt : Nat} (hd : decode cc pc = .ok (.if_icmp .lt off, 3)) (ht : (pc : Int) + off = (tgt : Int)) (kt : x < y → S n σ τ tgt L st) (kf : ¬ x < y → S n σ τ (pc + 3) L st) : S n σ τ pc L (.int y :: .int x :: st) := by
  obtain ⟨p, e, s, m, args, below, meth, c, Q, hx, hb, hml, hown, hts, hr, hlk, hK, hN, hI, hQ, hX, rfl⟩ := C
  intro H locs ls hP hS hl
  exact lv_icmp_lt hx hb hd ht (fun q => kt q H locs ls hP hS hl) (fun q => kf q H locs ls hP hS hl)
theorem r_ifge (C : Cx l D ad aC cc own nL rt d u X PV PX S) {x : Int32} {off : Int} {tgt : Nat} (hd : decode cc pc = .ok (.ifCond .ge off, 3)) (ht : (pc : Int) + off = (tgt : Int)) (kt : 0 ≤ x → S n σ τ tgt L st) (kf : ¬ 0 ≤ x → S n σ τ (pc + 3) L st) : S n σ τ pc L (.int x :: st) := by
  obtain ⟨p, e, s, m, args, below, meth, c, Q, hx, hb, hml, hown, hts, hr, hlk, hK, hN, hI, hQ, hX, rfl⟩ := C
  intro H locs ls hP hS hl
  exact lv_if_ge hx hb hd ht (fun q => kt q H locs ls hP hS hl) (fun q => kf q H locs ls hP hS hl)
theorem r_icmpge (C : Cx l D ad aC cc own nL rt d u X PV PX S) {x y : Int32} {off : Int} {tgt : Nat} (hd : decode cc pc = .ok (.if_icmp .ge off, 3)) (ht : (pc : Int) + off = (tgt : Int)) (kt : y ≤ x → S n σ τ tgt L st) (kf : ¬ y ≤ x → S n σ τ (pc + 3) L st) : S n σ τ pc L (.int y :: .int x :: st) := by
  obtain ⟨p, e, s, m, args, below, meth, c, Q, hx, hb, hml, hown, hts, hr, hlk, hK, hN, hI, hQ, hX, rfl⟩ := C
  intro H locs ls hP hS hl
  exact lv_icmp_ge hx hb hd ht (fun q => kt q H locs ls hP hS hl) (fun q => kf q H locs ls hP hS hl)
theorem r_ifgt (C : Cx l D ad aC cc own nL rt d u X PV PX S) {x : Int32} {off : Int} {tgt : Nat} (hd : decode cc pc = .ok (.ifCond .gt off, 3)) (ht : (pc : Int) + off = (tgt : Int)) (kt : 0 < x → S n σ τ tgt L st) (kf : ¬ 0 < x → S n σ τ (pc + 3) L st) : S n σ τ pc L (.int x :: st) := by
  obtain ⟨p, e, s, m, args, below, meth, c, Q, hx, hb, hml, hown, hts, hr, hlk, hK, hN, hI, hQ, hX, rfl⟩ := C
  intro H locs ls hP hS hl
  exact lv_if_gt hx hb hd ht (fun q => kt q H locs ls hP hS hl) (fun q => kf q H locs ls hP hS hl)
theorem r_icmpgt (C : Cx l D ad aC cc own nL rt d u X PV PX S) {x y : Int32} {off : Int} {tgt : Nat} (hd : decode cc pc = .ok (.if_icmp .gt off, 3)) (ht : (pc : Int) + off = (tgt : Int)) (kt : y < x → S n σ τ tgt L st) (kf : ¬ y < x → S n σ τ (pc + 3) L st) : S n σ τ pc L (.int y :: .int x :: st) := by
  obtain ⟨p, e, s, m, args, below, meth, c, Q, hx, hb, hml, hown, hts, hr, hlk, hK, hN, hI, hQ, hX, rfl⟩ := C
  intro H locs ls hP hS hl
  exact lv_icmp_gt hx hb hd ht (fun q => kt q H locs ls hP hS hl) (fun q => kf q H locs ls hP hS hl)
theorem r_ifle (C : Cx l D ad aC cc own nL rt d u X PV PX S) {x : Int32} {off : Int} {tgt : Nat} (hd : decode cc pc = .ok (.ifCond .le off, 3)) (ht : (pc : Int) + off = (tgt : Int)) (kt : x ≤ 0 → S n σ τ tgt L st) (kf : ¬ x ≤ 0 → S n σ τ (pc + 3) L st) : S n σ τ pc L (.int x :: st) := by
  obtain ⟨p, e, s, m, args, below, meth, c, Q, hx, hb, hml, hown, hts, hr, hlk, hK, hN, hI, hQ, hX, rfl⟩ := C
  intro H locs ls hP hS hl
  exact lv_if_le hx hb hd ht (fun q => kt q H locs ls hP hS hl) (fun q => kf q H locs ls hP hS hl)
theorem r_icmple (C : Cx l D ad aC cc own nL rt d u X PV PX S) {x y : Int32} {off : Int} {tgt : Nat} (hd : decode cc pc = .ok (.if_icmp .le off, 3)) (ht : (pc : Int) + off = (tgt : Int)) (kt : x ≤ y → S n σ τ tgt L st) (kf : ¬ x ≤ y → S n σ τ (pc + 3) L st) : S n σ τ pc L (.int y :: .int x :: st) := by
  obtain ⟨p, e, s, m, args, below, meth, c, Q, hx, hb, hml, hown, hts, hr, hlk, hK, hN, hI, hQ, hX, rfl⟩ := C
  intro H locs ls hP hS hl
  exact lv_icmp_le hx hb hd ht (fun q => kt q H locs ls hP hS hl) (fun q => kf q H locs ls hP hS hl)
theorem r_goto (C : Cx l D ad aC cc own nL rt d u X PV PX S) {off : Int} {tgt : Nat} (hd : decode cc pc = .ok (.goto off, 3)) (ht : (pc : Int) + off = (tgt : Int)) (k : S n σ τ tgt L st) : S n σ τ pc L st := by
  obtain ⟨p, e, s, m, args, below, meth, c, Q, hx, hb, hml, hown, hts, hr, hlk, hK, hN, hI, hQ, hX, rfl⟩ := C
  intro H locs ls hP hS hl
  exact lv_goto hx hb hd ht (k H locs ls hP hS hl)
theorem r_swIn (C : Cx l D ad aC cc own nL rt d u X PV PX S) {dflt lo hi : Int} {offs : Array Int} {len : Nat} {x : Int32} {off : Int} {tgt : Nat} (hd : decode cc pc = .ok (.tableswitch dflt lo hi offs, len)) (h1 : ¬ x.toInt < lo) (h2 : ¬ hi < x.toInt) (ho : offs[(x.toInt - lo).toNat]? = some off) (ht : (pc : Int) + off = (tgt : Int)) (k : S n σ τ tgt L st) : S n σ τ pc L (.int x :: st) := by
  obtain ⟨p, e, s, m, args, below, meth, c, Q, hx, hb, hml, hown, hts, hr, hlk, hK, hN, hI, hQ, hX, rfl⟩ := C
  intro H locs ls hP hS hl
  exact lv_tableIn hx hb hd h1 h2 ho ht (k H locs ls hP hS hl)
theorem r_swOut (C : Cx l D ad aC cc own nL rt d u X PV PX S) {dflt lo hi : Int} {offs : Array Int} {len : Nat} {x : Int32} {tgt : Nat} (hd : decode cc pc = .ok (.tableswitch dflt lo hi offs, len)) (h1 : x.toInt < lo ∨ hi < x.toInt) (ht : (pc : Int) + dflt = (tgt : Int)) (k : S n σ τ tgt L st) : S n σ τ pc L (.int x :: st) := by
  obtain ⟨p, e, s, m, args, below, meth, c, Q, hx, hb, hml, hown, hts, hr, hlk, hK, hN, hI, hQ, hX, rfl⟩ := C
  intro H locs ls hP hS hl
  exact lv_tableOut hx hb hd h1 ht (k H locs ls hP hS hl)
theorem r_get (C : Cx l D ad aC cc own nL rt d u X PV PX S) {ci : Nat} {C0 : String} {T : u_T} {N : Nat} {ref : String} {fm c0 f index : Nat} {fs : List Value} {v : Value} (hd : decode cc pc = .ok (.getfield index, 3)) (hok : gok fm c0) (hcel : cel ad aC σ τ fm c0 = .inr (ci, fs)) (hc : gcl[ci]? = some (C0, T, N)) (hin : ∀ w ∈ u_ws C0 T N, w ∈ wsG) (hf : f < N) (hw : Jvm.Cond.fieldLink own index ref (T f).2.1 (T f).2.2.1 ∈ wsG) (hsame : (T f).1 = ref) (hv : fs[f]? = some v) (k : S n σ τ (pc + 3) L (v :: st)) : S n σ τ pc L (.ref (ad fm c0) :: st) := by
  obtain ⟨p, e, s, m, args, below, meth, c, Q, hx, hb, hml, hown, hts, hr, hlk, hK, hN, hI, hQ, hX, rfl⟩ := C
  intro H locs ls hP hS hl
  obtain ⟨q0, hg, hst⟩ := Wd_get (ad := ad) (aC := aC) hok
  have he := hg σ τ
  rw [hcel] at he
  exact va_get hx hb hts hin hown hK hP q0 he hc f hf (hts _ hw) (fun x h9 => by rw [← hsame]; exact h9) hv hd (k H locs ls hP hS hl)
theorem r_getN (C : Cx l D ad aC cc own nL rt d u X PV PX S) {host : String} {ci : Nat} {C0 : String} {T : u_T} {N : Nat} {ref : String} {fm c0 f index : Nat} {fs : List Value} {v : Value} (hd : decode cc pc = .ok (.getfield index, 3)) (hok : gok fm c0) (hcel : cel ad aC σ τ fm c0 = .inr (ci, fs)) (hc : gcl[ci]? = some (C0, T, N)) (hin : ∀ w ∈ u_ws C0 T N, w ∈ wsG) (hf : f < N) (hw : Jvm.Cond.fieldLinkNest own index ref (T f).2.1 (T f).2.2.1 host ∈ wsG) (hsame : (T f).1 = ref) (hv : fs[f]? = some v) (k : S n σ τ (pc + 3) L (v :: st)) : S n σ τ pc L (.ref (ad fm c0) :: st) := by
  obtain ⟨p, e, s, m, args, below, meth, c, Q, hx, hb, hml, hown, hts, hr, hlk, hK, hN, hI, hQ, hX, rfl⟩ := C
  intro H locs ls hP hS hl
  obtain ⟨q0, hg, hst⟩ := Wd_get (ad := ad) (aC := aC) hok
  have he := hg σ τ
  rw [hcel] at he
  exact va_getN hx hb hts hin hown hK hP q0 he hc f hf (hts _ hw) (fun x h9 => by rw [← hsame]; exact h9) hv hd (k H locs ls hP hS hl)
/-- an int field written: the cell's row for it is asked for -/
theorem r_put (C : Cx l D ad aC cc own nL rt d u X PV PX S) {ci : Nat} {C0 : String} {T : u_T} {N : Nat} {ref : String} {fm c0 f index : Nat} {fs : List Value} {v : Int32} (hd : decode cc pc = .ok (.putfield index, 3)) (hok : gok fm c0) (hcel : cel ad aC σ τ fm c0 = .inr (ci, fs)) (hc : gcl[ci]? = some (C0, T, N)) (hin : ∀ w ∈ u_ws C0 T N, w ∈ wsG) (ty0 : Nat → FieldType) (hty : ∀ k, k < N → parseFieldDescriptor (T k).2.2.1 = some (ty0 k)) (hnm : ∀ a, a < N → ∀ b, b < N → a ≠ b → (T a).2.1 ≠ (T b).2.1) (hf : f < N) (hw : Jvm.Cond.fieldLink own index ref (T f).2.1 (T f).2.2.1 ∈ wsG) (hsame : (T f).1 = ref) (hfin : (T f).2.2.2 = false) (hde : parseFieldDescriptor (T f).2.2.1 = some .int) (hlen : f < fs.length) (hset : cel ad aC (up3 σ fm c0 f v) τ fm c0 = .inr (ci, fs.set f (.int v))) (k : S n (up3 σ fm c0 f v) τ (pc + 3) L st) : S n σ τ pc L (.int v :: .ref (ad fm c0) :: st) := by
  obtain ⟨p, e, s, m, args, below, meth, c, Q, hx, hb, hml, hown, hts, hr, hlk, hK, hN, hI, hQ, hX, rfl⟩ := C
  intro H locs ls hP hS hl
  obtain ⟨q0, hg, hst⟩ := Wd_get (ad := ad) (aC := aC) hok
  have he := hg σ τ
  rw [hcel] at he
  refine va_put hx hb hts hin ty0 hty hnm hown hK hP (gD_of hI aC σ τ _) hS q0 he hc f hf (hts _ hw) (fun x h9 => by rw [← hsame]; exact h9) hfin hde rfl rfl hlen hd (fun H1 locs1 hP1 _ hS1 => ?_)
  rw [hst σ (up3 σ fm c0 f v) τ τ _ (fun f' c' hne => up3_ne σ fm c0 f v hne) (fun _ _ => rfl) (Or.inl rfl) hset] at hP1
  exact k H1 locs1 ls hP1 hS1 hl
theorem r_iald (C : Cx l D ad aC cc own nL rt d u X PV PX S) {fm c0 len : Nat} {i : Int32} (hd : decode cc pc = .ok (.iaload, 1)) (hok : gok fm c0) (hcel : cel ad aC σ τ fm c0 = .inl (aC 0, len, .inl (σ fm c0))) (hin : vp_in i len) (k : S n σ τ (pc + 1) L (.int (σ fm c0 i.toNatClampNeg) :: st)) : S n σ τ pc L (.int i :: .ref (ad fm c0) :: st) := by
  obtain ⟨p, e, s, m, args, below, meth, c, Q, hx, hb, hml, hown, hts, hr, hlk, hK, hN, hI, hQ, hX, rfl⟩ := C
  intro H locs ls hP hS hl
  obtain ⟨q0, hg, hst⟩ := Wd_get (ad := ad) (aC := aC) hok
  have he := hg σ τ
  rw [hcel] at he
  exact va_iald hx hb hK hP q0 0 he rfl hin hd (k H locs ls hP hS hl)
theorem r_zald (C : Cx l D ad aC cc own nL rt d u X PV PX S) {fm c0 len : Nat} {i : Int32} (hd : decode cc pc = .ok (.baload, 1)) (hok : gok fm c0) (hcel : cel ad aC σ τ fm c0 = .inl (aC 2, len, .inl (σ fm c0))) (hin : vp_in i len) (k : S n σ τ (pc + 1) L (.int (σ fm c0 i.toNatClampNeg) :: st)) : S n σ τ pc L (.int i :: .ref (ad fm c0) :: st) := by
  obtain ⟨p, e, s, m, args, below, meth, c, Q, hx, hb, hml, hown, hts, hr, hlk, hK, hN, hI, hQ, hX, rfl⟩ := C
  intro H locs ls hP hS hl
  obtain ⟨q0, hg, hst⟩ := Wd_get (ad := ad) (aC := aC) hok
  have he := hg σ τ
  rw [hcel] at he
  exact va_zald hx hb hK hP q0 2 he rfl hin hd (k H locs ls hP hS hl)
theorem r_lald (C : Cx l D ad aC cc own nL rt d u X PV PX S) {fm c0 len : Nat} {i : Int32} (hd : decode cc pc = .ok (.laload, 1)) (hok : gok fm c0) (hcel : cel ad aC σ τ fm c0 = .inl (aC 1, len, .inr (.inl (τ fm)))) (hin : vp_in i len) (k : S n σ τ (pc + 1) L (.long (τ fm i.toNatClampNeg) :: st)) : S n σ τ pc L (.int i :: .ref (ad fm c0) :: st) := by
  obtain ⟨p, e, s, m, args, below, meth, c, Q, hx, hb, hml, hown, hts, hr, hlk, hK, hN, hI, hQ, hX, rfl⟩ := C
  intro H locs ls hP hS hl
  obtain ⟨q0, hg, hst⟩ := Wd_get (ad := ad) (aC := aC) hok
  have he := hg σ τ
  rw [hcel] at he
  exact va_lald hx hb hK hP q0 1 he rfl hin hd (k H locs ls hP hS hl)
theorem r_alen (C : Cx l D ad aC cc own nL rt d u X PV PX S) {fm c0 t0 : Nat} {x : vp_A} {ct : ClassId} {ty : FieldType} {v : Int32} (hd : decode cc pc = .ok (.arraylength, 1)) (hok : gok fm c0) (hcel : cel ad aC σ τ fm c0 = .inl (ct, x)) (ht : (gty aC)[t0]? = some (ct, ty)) (hv : Int32.ofNat x.1 = v) (k : S n σ τ (pc + 1) L (.int v :: st)) : S n σ τ pc L (.ref (ad fm c0) :: st) := by
  obtain ⟨p, e, s, m, args, below, meth, c, Q, hx, hb, hml, hown, hts, hr, hlk, hK, hN, hI, hQ, hX, rfl⟩ := C
  intro H locs ls hP hS hl
  obtain ⟨q0, hg, hst⟩ := Wd_get (ad := ad) (aC := aC) hok
  have he := hg σ τ
  rw [hcel] at he
  exact va_alen hx hb hK hP q0 t0 he ht hv hd (k H locs ls hP hS hl)
/-- a reference out of a row of references of a class -/
theorem r_aald (C : Cx l D ad aC cc own nL rt d u X PV PX S) {fm c0 t0 len fa : Nat} {ct : ClassId} {E : String} {i : Int32} (hd : decode cc pc = .ok (.aaload, 1)) (hok : gok fm c0) (hcel : cel ad aC σ τ fm c0 = .inl (ct, len, .inr (.inr (.inr (.inr (fun j => some (ad fa j))))))) (ht : (gty aC)[t0]? = some (ct, .object E)) (hin : vp_in i len) (k : S n σ τ (pc + 1) L (.ref (ad fa i.toNatClampNeg) :: st)) : S n σ τ pc L (.int i :: .ref (ad fm c0) :: st) := by
  obtain ⟨p, e, s, m, args, below, meth, c, Q, hx, hb, hml, hown, hts, hr, hlk, hK, hN, hI, hQ, hX, rfl⟩ := C
  intro H locs ls hP hS hl
  obtain ⟨q0, hg, hst⟩ := Wd_get (ad := ad) (aC := aC) hok
  have he := hg σ τ
  rw [hcel] at he
  exact va_aldq hx hb hK hP q0 t0 he ht hin hd (k H locs ls hP hS hl)
theorem r_iast (C : Cx l D ad aC cc own nL rt d u X PV PX S) {fm c0 len : Nat} {i x : Int32} (hd : decode cc pc = .ok (.iastore, 1)) (hok : gok fm c0) (hcel : ∀ σ' : gSig, cel ad aC σ' τ fm c0 = .inl (aC 0, len, .inl (σ' fm c0))) (hin : vp_in i len) (k : S n (up3 σ fm c0 i.toNatClampNeg x) τ (pc + 1) L st) : S n σ τ pc L (.int x :: .int i :: .ref (ad fm c0) :: st) := by
  obtain ⟨p, e, s, m, args, below, meth, c, Q, hx, hb, hml, hown, hts, hr, hlk, hK, hN, hI, hQ, hX, rfl⟩ := C
  intro H locs ls hP hS hl
  obtain ⟨q0, hg, hst⟩ := Wd_get (ad := ad) (aC := aC) hok
  have he := hg σ τ
  rw [hcel σ] at he
  refine va_iast hx hb hK hP (gD_of hI aC σ τ _) hS q0 0 he rfl hin hd (fun H1 locs1 hP1 _ hS1 => ?_)
  rw [hst σ (up3 σ fm c0 i.toNatClampNeg x) τ τ _ (fun f' c' hne => up3_ne σ fm c0 _ x hne) (fun _ _ => rfl) (Or.inl rfl) (by rw [hcel, up3_self])] at hP1
  exact k H1 locs1 ls hP1 hS1 hl
theorem r_zast (C : Cx l D ad aC cc own nL rt d u X PV PX S) {fm c0 len : Nat} {i x : Int32} (hd : decode cc pc = .ok (.bastore, 1)) (hok : gok fm c0) (hcel : ∀ σ' : gSig, cel ad aC σ' τ fm c0 = .inl (aC 2, len, .inl (σ' fm c0))) (hin : vp_in i len) (hb1 : x = 0 ∨ x = 1) (k : S n (up3 σ fm c0 i.toNatClampNeg x) τ (pc + 1) L st) : S n σ τ pc L (.int x :: .int i :: .ref (ad fm c0) :: st) := by
  obtain ⟨p, e, s, m, args, below, meth, c, Q, hx, hb, hml, hown, hts, hr, hlk, hK, hN, hI, hQ, hX, rfl⟩ := C
  intro H locs ls hP hS hl
  obtain ⟨q0, hg, hst⟩ := Wd_get (ad := ad) (aC := aC) hok
  have he := hg σ τ
  rw [hcel σ] at he
  refine va_zast hx hb hK hP (gD_of hI aC σ τ _) hS q0 2 he rfl hin hd (fun H1 locs1 hP1 _ hS1 => ?_)
  have hnx : vp_nar .boolean x = x := by rcases hb1 with rfl | rfl <;> rfl
  rw [hnx] at hP1
  rw [hst σ (up3 σ fm c0 i.toNatClampNeg x) τ τ _ (fun f' c' hne => up3_ne σ fm c0 _ x hne) (fun _ _ => rfl) (Or.inl rfl) (by rw [hcel, up3_self])] at hP1
  exact k H1 locs1 ls hP1 hS1 hl
theorem r_last (C : Cx l D ad aC cc own nL rt d u X PV PX S) {fm len : Nat} {i : Int32} {x : Int64} (hd : decode cc pc = .ok (.lastore, 1)) (hok : gok fm 0) (h1 : gN.getD fm 0 = 1) (hcel : ∀ τ' : gTau, cel ad aC σ τ' fm 0 = .inl (aC 1, len, .inr (.inl (τ' fm)))) (hin : vp_in i len) (k : S n σ (up2 τ fm i.toNatClampNeg x) (pc + 1) L st) : S n σ τ pc L (.long x :: .int i :: .ref (ad fm 0) :: st) := by
  obtain ⟨p, e, s, m, args, below, meth, c, Q, hx, hb, hml, hown, hts, hr, hlk, hK, hN, hI, hQ, hX, rfl⟩ := C
  intro H locs ls hP hS hl
  obtain ⟨q0, hg, hst⟩ := Wd_get (ad := ad) (aC := aC) hok
  have he := hg σ τ
  rw [hcel τ] at he
  refine va_last hx hb hK hP (gD_of hI aC σ τ _) hS q0 1 he rfl hin hd (fun H1 locs1 hP1 _ hS1 => ?_)
  rw [hst σ σ τ (up2 τ fm i.toNatClampNeg x) _ (fun _ _ _ => rfl) (fun f' hne => up2_ne τ fm _ x hne) (Or.inr ⟨rfl, h1⟩) (by rw [hcel, up2_self])] at hP1
  exact k H1 locs1 ls hP1 hS1 hl
theorem r_iret (C : Cx l D ad aC cc own nL rt d u X PV PX S) {v : Int32} (hd : decode cc pc = .ok (.ireturn, 1)) (hrt : rt = some .int) (hn : n ≤ u) (hv : PV (some (.int v)) σ τ) : S n σ τ pc L [.int v] := by
  obtain ⟨p, e, s, m, args, below, meth, c, Q, hx, hb, hml, hown, hts, hr, hlk, hK, hN, hI, hQ, hX, rfl⟩ := C
  intro H locs ls hP hS hl
  refine W.imp hQ (W.widen (k := u) (n := 6 * u) hn (Nat.mul_le_mul_left 6 hn) ?_)
  exact W.iret hx hb (by rw [hr, hrt]) (fun t ht hW => ⟨⟨_, σ, τ, rfl, hv, by rw [ht]; exact hP, va_K.moved hW.alike hK⟩, hS.F ht⟩) hS.2.2 hd hlk
theorem r_zret (C : Cx l D ad aC cc own nL rt d u X PV PX S) {v : Int32} (hd : decode cc pc = .ok (.ireturn, 1)) (hrt : rt = some .boolean) (hn : n ≤ u) (hb1 : v = 0 ∨ v = 1) (hv : PV (some (.int v)) σ τ) : S n σ τ pc L [.int v] := by
  obtain ⟨p, e, s, m, args, below, meth, c, Q, hx, hb, hml, hown, hts, hr, hlk, hK, hN, hI, hQ, hX, rfl⟩ := C
  intro H locs ls hP hS hl
  refine W.imp hQ (W.widen (k := u) (n := 6 * u) hn (Nat.mul_le_mul_left 6 hn) ?_)
  exact W.zret hx hb (by rw [hr, hrt]) (by rcases hb1 with rfl | rfl <;> rfl) (fun t ht hW => ⟨⟨_, σ, τ, rfl, hv, by rw [ht]; exact hP, va_K.moved hW.alike hK⟩, hS.F ht⟩) hS.2.2 hd hlk
theorem r_lret (C : Cx l D ad aC cc own nL rt d u X PV PX S) {v : Int64} (hd : decode cc pc = .ok (.lreturn, 1)) (hrt : rt = some .long) (hn : n ≤ u) (hv : PV (some (.long v)) σ τ) : S n σ τ pc L [.long v] := by
  obtain ⟨p, e, s, m, args, below, meth, c, Q, hx, hb, hml, hown, hts, hr, hlk, hK, hN, hI, hQ, hX, rfl⟩ := C
  intro H locs ls hP hS hl
  refine W.imp hQ (W.widen (k := u) (n := 6 * u) hn (Nat.mul_le_mul_left 6 hn) ?_)
  exact W.lret hx hb (by rw [hr, hrt]) (fun t ht hW => ⟨⟨_, σ, τ, rfl, hv, by rw [ht]; exact hP, va_K.moved hW.alike hK⟩, hS.F ht⟩) hS.2.2 hd hlk
theorem r_ret (C : Cx l D ad aC cc own nL rt d u X PV PX S) (hd : decode cc pc = .ok (.return_, 1)) (hrt : rt = none) (hn : n ≤ u) (hv : PV none σ τ) : S n σ τ pc L [] := by
  obtain ⟨p, e, s, m, args, below, meth, c, Q, hx, hb, hml, hown, hts, hr, hlk, hK, hN, hI, hQ, hX, rfl⟩ := C
  intro H locs ls hP hS hl
  refine W.imp hQ (W.widen (k := u) (n := 6 * u) hn (Nat.mul_le_mul_left 6 hn) ?_)
  exact W.vret hx hb (by rw [hr, hrt]) (fun t ht hW => ⟨⟨_, σ, τ, rfl, hv, by rw [ht]; exact hP, va_K.moved hW.alike hK⟩, hS.F ht⟩) hS.2.2 hd hlk
end GRULES
end
section
/-! ===== contracts out of walks, and calls of what has a contract ===== -/
/-- what the tables say of a method that is called -/
def BOK (y : MethodName) (bytes : ByteArray) (nL : Nat) (ret : Option FieldType) (a : Nat) : Prop :=
  Cond.code y bytes nL ret ∈ wsG ∧ Cond.initialized y.cls ∈ wsG ∧ (y.cls ≠ "java/lang/invoke/MethodHandle" ∧ y.cls ≠ "java/lang/invoke/VarHandle") ∧ (parseMethodDescriptor y.desc).map (fun d => d.parameters.length) = some a ∧ nL ≤ 40
theorem BOK.len {y : MethodName} {bytes : ByteArray} {nL : Nat} {ret : Option FieldType} {a : Nat} (h : BOK y bytes nL ret a) : ∀ sig, parseMethodDescriptor y.desc = some sig → a = sig.parameters.length := fun sig hs => by
  have h2 := h.2.2.2.1
  rw [hs] at h2
  exact (Option.some.inj h2).symm
theorem BOK.pay {y : MethodName} {bytes : ByteArray} {nL : Nat} {ret : Option FieldType} {a : Nat} (h : BOK y bytes nL ret a) {args : Array Value} {s : State} (hts : ∀ w ∈ wsG, w.before args s = true) : ∀ w ∈ gws y bytes nL ret, ∀ (a' : Array Value) (U : State), s.WarmedH U.vm → w.before a' U = true := pay_in hts (gws_good h.1)
theorem rmz_ok {d d' nL u u' : Nat} (h : d' + 1 ≤ d) (h2 : nL ≤ 40) : (rmz d' u').frames + 1 ≤ (rmz d u).frames ∧ 8 + (nL + 11) + (rmz d' u').locals ≤ (rmz d u).locals := by
  refine ⟨h, ?_⟩
  show 8 + (nL + 11) + 64 * d' ≤ 64 * d
  omega
theorem BOK.callB {y : MethodName} {bytes : ByteArray} {nL : Nat} {ret : Option FieldType} {a : Nat} (h : BOK y bytes nL ret a) {args : Array Value} {s : State} (hts : ∀ w ∈ wsG, w.before args s = true) {own : String} {index d d' u u' : Nat} (hl : Cond.methodLink own index y ∈ wsG) (hd : d' + 1 ≤ d) :
    CallB (rmz d u) s args own index y bytes nL ret (gws y bytes nL ret) (rmz d' u') u' (6 * u') a :=
  ⟨rfl, rfl, (rmz_ok hd h.2.2.2.2).1, (rmz_ok (u := u) (u' := u') hd h.2.2.2.2).2, h.pay hts, List.mem_cons_self, hts _ h.1, hts _ h.2.1, h.2.2.1, h.len, hts _ hl⟩
theorem BOK.callN {y : MethodName} {bytes : ByteArray} {nL : Nat} {ret : Option FieldType} {a : Nat} (h : BOK y bytes nL ret a) {args : Array Value} {s : State} (hts : ∀ w ∈ wsG, w.before args s = true) (hN : Nx s) {own host : String} {index d d' u u' : Nat} (hl : Cond.methodLinkNest own index y host ∈ gNw) (hd : d' + 1 ≤ d) :
    va_CN (rmz d u) s args own index y host bytes nL ret (gws y bytes nL ret) (rmz d' u') u' (6 * u') a :=
  ⟨⟨rfl, rfl, (rmz_ok hd h.2.2.2.2).1, (rmz_ok (u := u) (u' := u') hd h.2.2.2.2).2, h.pay hts, List.mem_cons_self⟩, hts _ h.1, hts _ h.2.1, h.2.2.1, h.len, hN.use hl⟩
theorem blindZ {av : List Value} {D : va_G} {ad : Nat → Nat → Nat} {aC : Nat → ClassId} {σ : gSig} {τ : gTau} {sz : Nat} : FrameBlind (va_Pc av (PreZ D ad aC σ τ sz)) := fun a U g mk q => by
  obtain ⟨q0, q1, ⟨qP, qK⟩, qN⟩ := q
  exact ⟨q0, q1, ⟨qP, va_K.moved (u := U) (U := U.calling g mk a) (Vm.Alike.refl U.vm) qK⟩, qN.same (u := U) (U := U.calling g mk a) rfl⟩
theorem blindT {av : List Value} {D : va_G} {ad : Nat → Nat → Nat} {aC : Nat → ClassId} {σ : gSig} {τ : gTau} {sz : Nat} {A : Nat → Prop} : FrameBlind (va_Pc av (fun U => PreZ D ad aC σ τ sz U ∧ Sx A U)) := fun a U g mk q => by
  obtain ⟨q0, ⟨q1, ⟨qP, qK⟩, qN⟩, s1, s2, s3⟩ := q
  exact ⟨q0, ⟨q1, ⟨qP, va_K.moved (u := U) (U := U.calling g mk a) (Vm.Alike.refl U.vm) qK⟩, qN.same (u := U) (U := U.calling g mk a) rfl⟩, vx_Zq.moved (u := U) (U := U.calling g mk a) (Vm.Alike.refl U.vm) s1, vx_Zq.moved (u := U) (U := U.calling g mk a) (Vm.Alike.refl U.vm) s2, fun x hx => by
    obtain ⟨sa, hs⟩ := s3 x hx
    exact ⟨sa, hs.same (u := U) (U := U.calling g mk a) rfl⟩⟩
section GCALLS
variable {p : Program} {l : Launch} {e : Env} {R : Room} {s : State} {m : MethodId} {args : Array Value} {below : List Frame} {meth : Method} {c : Code} {H : Heap} {locs : List Loc} {cells slots : Nat} {Q : State → Prop}
variable {D : va_G} {ad : Nat → Nat → Nat} {aC : Nat → ClassId} {pc mc ms : Nat} {ls : Array Slot} {rest st0 : List Value} {a : Array Value} {PV : Option Value → gSig → gTau → Prop} {PX : String → gSig → gTau → Prop}
theorem vx_Wimp {Q' : State → Prop} {g : JFrame} {q : Addr} (h : ∀ t, Q t → Q' t) (k : vx_W p l e R s m args below meth c H locs cells slots Q g q) : vx_W p l e R s m args below meth c H locs cells slots Q' g q := fun T hT X => by
  obtain ⟨t, a1, b⟩ := k T hT X
  exact ⟨t, a1, h t b⟩
theorem g_S {H1 : Heap} {L : List Loc} (hS : va_S (gA ad s.heap.size) s.heap H locs) (hF1 : H.size ≤ H1.size) (hF2 : ∀ q : Nat, q < H.size → ¬ gA ad H.size q → H1[q]? = H[q]?) (hL : ∀ q ∈ L, gA ad H.size q.base) : va_S (gA ad s.heap.size) s.heap H1 (locs ++ L) :=
  ⟨Nat.le_trans hS.1 hF1, fun q h1 h2 => by
    rw [hF2 q (Nat.lt_of_lt_of_le h1 hS.1) (fun z => h2 (gA_sub hS.1 z))]
    exact hS.2.1 q h1 h2, fun q hq => by
      rcases List.mem_append.mp hq with h | h
      · exact hS.2.2 q h
      · exact gA_sub hS.1 (hL q h)⟩
theorem g_call (hr : va_Run p l e R s m args below meth c H locs cells slots mc ms (F0 m pc ls st0) rest (QcZ D ad aC H.size PV a) (gA ad H.size)) (hS : va_S (gA ad s.heap.size) s.heap H locs)
    (kk : ∀ (r : Option Value) (σ' : gSig) (τ' : gTau) (H1 : Heap) (locs1 : List Loc), PV r σ' τ' → va_P D gcl (Wd ad aC σ' τ') H1 → va_S (gA ad s.heap.size) s.heap H1 locs1 → W p l e R s m args below meth c H1 locs1 (cells + mc) (slots + ms) Q (F0 m (pc + 3) ls (r.toList ++ rest))) : W p l e R s m args below meth c H locs cells slots Q (F0 m pc ls st0) := by
  intro T hT X
  obtain ⟨v, st₀, t, T', L, h0, X', hL, e1, e2, ⟨⟨r, σ', τ', hv, hp, hpic⟩, hz, hk⟩, st⟩ := hr T hT X
  cases hv
  rw [h0] at hz hk
  obtain ⟨t2, a1, b1⟩ := kk v σ' τ' T'.heap (locs ++ L) hp (by rw [e1]; exact hpic.1) (g_S hS (by rw [e1]; exact hz) (fun q h1 h2 => by rw [e1]; exact hk q h1 h2) hL) T' rfl X'
  exact ⟨t2, st t2 a1, b1⟩
theorem g_callX (hr : vx_Run p l e R s m args below meth c H locs cells slots mc ms (F0 m pc ls st0) rest (QcZ D ad aC H.size PV a) (XcZ D ad aC H.size PX) (gA ad H.size)) (hS : va_S (gA ad s.heap.size) s.heap H locs)
    (kx : ∀ (E : String) (ce : Cell) (q9 : Addr) (σ' : gSig) (τ' : gTau) (H1 : Heap) (locs1 : List Loc), PX E σ' τ' → va_P D gcl (Wd ad aC σ' τ') H1 → va_S (gA ad s.heap.size) s.heap H1 locs1 → H1[q9]? = some ce → ce.vm = .none → s.vm.findClass E = some ce.cls → vx_W p l e R s m args below meth c H1 locs1 (cells + mc) (slots + ms) Q (F0 m pc ls rest) q9)
    (kk : ∀ (r : Option Value) (σ' : gSig) (τ' : gTau) (H1 : Heap) (locs1 : List Loc), PV r σ' τ' → va_P D gcl (Wd ad aC σ' τ') H1 → va_S (gA ad s.heap.size) s.heap H1 locs1 → W p l e R s m args below meth c H1 locs1 (cells + mc) (slots + ms) Q (F0 m (pc + 3) ls (r.toList ++ rest))) : W p l e R s m args below meth c H locs cells slots Q (F0 m pc ls st0) := by
  intro T hT X
  rcases hr T hT X with ⟨v, st₀, t, T', L, h0, X', hL, e1, e2, ⟨⟨r, σ', τ', hv, hp, hpic⟩, hz, hk⟩, st⟩ | ⟨q, st₀, t, T', L, E, ce, h0, X', hL, e1, e2, ⟨⟨σ', τ', hp, hpic⟩, hz, hk⟩, hq, hvm, hcl, st⟩
  · cases hv
    rw [h0] at hz hk
    obtain ⟨t2, a1, b1⟩ := kk v σ' τ' T'.heap (locs ++ L) hp (by rw [e1]; exact hpic.1) (g_S hS (by rw [e1]; exact hz) (fun q h1 h2 => by rw [e1]; exact hk q h1 h2) hL) T' rfl X'
    exact ⟨t2, st t2 a1, b1⟩
  · rw [h0] at hz hk
    obtain ⟨t2, a1, b1⟩ := kx E ce q σ' τ' T'.heap (locs ++ L) hp (by rw [e1]; exact hpic.1) (g_S hS (by rw [e1]; exact hz) (fun q h1 h2 => by rw [e1]; exact hk q h1 h2) hL) (by rw [e1]; exact hq) hvm hcl T' rfl X'
    exact ⟨t2, st.trans a1, b1⟩
end GCALLS
section GRULES2
variable {l : Launch} {D : va_G} {ad : Nat → Nat → Nat} {aC : Nat → ClassId} {cc : ByteArray} {own : String} {nL : Nat} {rt : Option FieldType} {d u : Nat} {X : Prop} {PV : Option Value → gSig → gTau → Prop} {PX : String → gSig → gTau → Prop} {S : gS}
variable {n : Nat} {σ : gSig} {τ : gTau} {pc : Nat} {L : gLoc} {st0 As rest : List Value}
variable {y : MethodName} {bytes : ByteArray} {nL' : Nat} {ret : Option FieldType} {d' u' index na : Nat} {PV' : Option Value → gSig → gTau → Prop} {PX' : String → gSig → gTau → Prop}
variable {fm c0 ci N : Nat} {T : u_T} {fs : List Value} {C0 : String}
/-- a call of a method that returns: on an object -/
theorem r_callV (C : Cx l D ad aC cc own nL rt d u X PV PX S) (hd : decode cc pc = .ok (.invokevirtual index, 3)) (hM : CZ l D ad aC y bytes nL' ret d' (.ref (ad fm c0) :: As) σ τ PV') (hst : st0 = As.reverse ++ .ref (ad fm c0) :: rest) (hok : gok fm c0) (hcel : cel ad aC σ τ fm c0 = .inr (ci, fs)) (hc : gcl[ci]? = some (C0, T, N)) (hB : BOK y bytes nL' ret na) (hna : As.length = na) (hi : Cond.instanceMethod y ∈ wsG) (hs : Cond.selects C0 y y ∈ wsG) (hl : Cond.methodLink own index y ∈ wsG) (hdd : d' + 1 ≤ d) (hcat : (rest.map fun v => v.category).sum ≤ 8) (hn : n ≤ u)
    (k : ∀ (r : Option Value) (σ' : gSig) (τ' : gTau), PV' r σ' τ' → S n σ' τ' (pc + 3) L (r.toList ++ rest)) : S n σ τ pc L st0 := by
  obtain ⟨p, e, s, m, args, below, meth, c, Q, hx, hb, hml, hown, hts, hr, hlk, hK, hN, hI, hQ, hX, rfl⟩ := C
  intro H locs ls hP hS hl2
  obtain ⟨q0, hg, -⟩ := Wd_get (ad := ad) (aC := aC) hok
  have he := hg σ τ
  rw [hcel] at he
  refine g_call (mc := 0) (ms := 0) (va_runV (As := As) (rest := rest) (C := C0) ⟨hx, hb, hml, hown, hts⟩ (hM hI H.size) ⟨hB.callB hts hl hdd, hts _ hi, hts _ hs⟩ ⟨blindZ, va_recv hK hP hc he, fun U hU hW => ⟨rfl, by rw [hU], ⟨by rw [hU]; exact hP, va_K.moved hW.alike hK⟩, hN.warm hW⟩⟩ rfl hna hl2.1 hst (lv_room hcat) hd ⟨hn, Nat.mul_le_mul_left 6 hn⟩) hS ?_
  intro r σ' τ' H1 locs1 hp hP1 hS1
  exact k r σ' τ' hp H1 locs1 ls hP1 hS1 hl2
/-- .. a private one of a class that nests with this one -/
theorem r_callVN (C : Cx l D ad aC cc own nL rt d u X PV PX S) {host : String} (hd : decode cc pc = .ok (.invokevirtual index, 3)) (hM : CZ l D ad aC y bytes nL' ret d' (.ref (ad fm c0) :: As) σ τ PV') (hst : st0 = As.reverse ++ .ref (ad fm c0) :: rest) (hok : gok fm c0) (hcel : cel ad aC σ τ fm c0 = .inr (ci, fs)) (hc : gcl[ci]? = some (C0, T, N)) (hB : BOK y bytes nL' ret na) (hna : As.length = na) (hi : Cond.instanceMethod y ∈ wsG) (hs : Cond.selects C0 y y ∈ wsG) (hl : Cond.methodLinkNest own index y host ∈ gNw) (hdd : d' + 1 ≤ d) (hcat : (rest.map fun v => v.category).sum ≤ 8) (hn : n ≤ u)
    (k : ∀ (r : Option Value) (σ' : gSig) (τ' : gTau), PV' r σ' τ' → S n σ' τ' (pc + 3) L (r.toList ++ rest)) : S n σ τ pc L st0 := by
  obtain ⟨p, e, s, m, args, below, meth, c, Q, hx, hb, hml, hown, hts, hr, hlk, hK, hN, hI, hQ, hX, rfl⟩ := C
  intro H locs ls hP hS hl2
  obtain ⟨q0, hg, -⟩ := Wd_get (ad := ad) (aC := aC) hok
  have he := hg σ τ
  rw [hcel] at he
  refine g_call (mc := 0) (ms := 0) (va_runVN (As := As) (rest := rest) (C := C0) ⟨hx, hb, hml, hown, hts⟩ (hM hI H.size) ⟨hB.callN hts hN hl hdd, hts _ hi, hts _ hs⟩ ⟨blindZ, va_recv hK hP hc he, fun U hU hW => ⟨rfl, by rw [hU], ⟨by rw [hU]; exact hP, va_K.moved hW.alike hK⟩, hN.warm hW⟩⟩ rfl hna hl2.1 hst (lv_room hcat) hd ⟨hn, Nat.mul_le_mul_left 6 hn⟩) hS ?_
  intro r σ' τ' H1 locs1 hp hP1 hS1
  exact k r σ' τ' hp H1 locs1 ls hP1 hS1 hl2
/-- a static one -/
theorem r_callS (C : Cx l D ad aC cc own nL rt d u X PV PX S) (hd : decode cc pc = .ok (.invokestatic index, 3)) (hM : CZ l D ad aC y bytes nL' ret d' As σ τ PV') (hst : st0 = As.reverse ++ rest) (hB : BOK y bytes nL' ret na) (hna : As.length = na) (hs : Cond.static y ∈ wsG) (hl : Cond.methodLink own index y ∈ wsG) (hdd : d' + 1 ≤ d) (hcat : (rest.map fun v => v.category).sum ≤ 8) (hn : n ≤ u)
    (k : ∀ (r : Option Value) (σ' : gSig) (τ' : gTau), PV' r σ' τ' → S n σ' τ' (pc + 3) L (r.toList ++ rest)) : S n σ τ pc L st0 := by
  obtain ⟨p, e, s, m, args, below, meth, c, Q, hx, hb, hml, hown, hts, hr, hlk, hK, hN, hI, hQ, hX, rfl⟩ := C
  intro H locs ls hP hS hl2
  refine g_call (mc := 0) (ms := 0) (va_runS (As := As) (rest := rest) ⟨hx, hb, hml, hown, hts⟩ (hM hI H.size) ⟨hB.callB hts hl hdd, hts _ hs⟩ ⟨blindZ, fun U hU hW => ⟨rfl, by rw [hU], ⟨by rw [hU]; exact hP, va_K.moved hW.alike hK⟩, hN.warm hW⟩⟩ rfl hna hl2.1 hst (lv_room hcat) hd ⟨hn, Nat.mul_le_mul_left 6 hn⟩) hS ?_
  intro r σ' τ' H1 locs1 hp hP1 hS1
  exact k r σ' τ' hp H1 locs1 ls hP1 hS1 hl2
theorem r_callSN (C : Cx l D ad aC cc own nL rt d u X PV PX S) {host : String} (hd : decode cc pc = .ok (.invokestatic index, 3)) (hM : CZ l D ad aC y bytes nL' ret d' As σ τ PV') (hst : st0 = As.reverse ++ rest) (hB : BOK y bytes nL' ret na) (hna : As.length = na) (hs : Cond.static y ∈ wsG) (hl : Cond.methodLinkNest own index y host ∈ gNw) (hdd : d' + 1 ≤ d) (hcat : (rest.map fun v => v.category).sum ≤ 8) (hn : n ≤ u)
    (k : ∀ (r : Option Value) (σ' : gSig) (τ' : gTau), PV' r σ' τ' → S n σ' τ' (pc + 3) L (r.toList ++ rest)) : S n σ τ pc L st0 := by
  obtain ⟨p, e, s, m, args, below, meth, c, Q, hx, hb, hml, hown, hts, hr, hlk, hK, hN, hI, hQ, hX, rfl⟩ := C
  intro H locs ls hP hS hl2
  refine g_call (mc := 0) (ms := 0) (va_runSN (As := As) (rest := rest) ⟨hx, hb, hml, hown, hts⟩ (hM hI H.size) ⟨hB.callN hts hN hl hdd, hts _ hs, trivial⟩ ⟨blindZ, fun U hU hW => ⟨rfl, by rw [hU], ⟨by rw [hU]; exact hP, va_K.moved hW.alike hK⟩, hN.warm hW⟩⟩ rfl hna hl2.1 hst (lv_room hcat) hd ⟨hn, Nat.mul_le_mul_left 6 hn⟩) hS ?_
  intro r σ' τ' H1 locs1 hp hP1 hS1
  exact k r σ' τ' hp H1 locs1 ls hP1 hS1 hl2
/-- a static one that may throw, out of one that may throw, without a handler -/
theorem r_callSX (C : Cx l D ad aC cc own nL rt d u X PV PX S) (hx0 : X) (hd : decode cc pc = .ok (.invokestatic index, 3)) (hM : CT l D ad aC y bytes nL' ret d' u' As σ τ PV' PX') (hst : st0 = As.reverse ++ rest) (hB : BOK y bytes nL' ret na) (hna : As.length = na) (hs : Cond.static y ∈ wsG) (hl : Cond.methodLink own index y ∈ wsG) (hdd : d' + 1 ≤ d) (hcat : (rest.map fun v => v.category).sum ≤ 8) (hn : n + u' ≤ u)
    (kx : ∀ (E : String) (σ' : gSig) (τ' : gTau), PX' E σ' τ' → PX E σ' τ')
    (k : ∀ (r : Option Value) (σ' : gSig) (τ' : gTau), PV' r σ' τ' → S (n + u') σ' τ' (pc + 3) L (r.toList ++ rest)) : S n σ τ pc L st0 := by
  obtain ⟨p, e, s, m, args, below, meth, c, Q, hx, hb, hml, hown, hts, hr, hlk, hK, hN, hI, hQ, hX, rfl⟩ := C
  obtain ⟨htr, hnt, hsx, hQx⟩ := hX hx0
  intro H locs ls hP hS hl2
  have h6 : 6 * n + 6 * u' = 6 * (n + u') := (Nat.mul_add 6 n u').symm
  have h7 : 6 * n + 6 * u' ≤ 6 * u := by rw [h6]; exact Nat.mul_le_mul_left 6 hn
  refine g_callX (mc := u') (ms := 6 * u') (vx_runS (As := As) (rest := rest) ⟨hx, hb, hml, hown, hts⟩ (hM hI htr H.size) ⟨hB.callB hts hl hdd, hts _ hs⟩ ⟨blindT, fun U hU hW => ⟨rfl, ⟨by rw [hU], ⟨by rw [hU]; exact hP, va_K.moved hW.alike hK⟩, hN.warm hW⟩, hsx.narrow (fun q hq => gA_sub hS.1 hq) (fun q h1 h2 => by rw [hU]; exact hS.2.1 q h1 h2) hW⟩⟩ rfl hna hl2.1 hst (lv_room hcat) hd ⟨hn, h7⟩) hS ?_ ?_
  · intro E ce q9 σ' τ' H1 locs1 hp hP1 hS1 h1 h2 h3
    refine vx_Wimp hQx (vx_out (fun x hx9 => (hnt x hx9).elim) hlk h1 h2 h3 (fun t ht hv => ⟨⟨σ', τ', kx E σ' τ' hp, by rw [ht]; exact hP1, va_K.moved hv hK⟩, hS1.F ht⟩) hS1.2.2 hn h7)
  · intro r σ' τ' H1 locs1 hp hP1 hS1
    have hk := k r σ' τ' hp H1 locs1 ls hP1 hS1 hl2
    rw [h6]
    exact hk
/-- throw new X(text) -/
theorem r_throw (C : Cx l D ad aC cc own nL rt d u X PV PX S) (hx0 : X) {cls text : String} {names : List String} {ik is ic : Nat} (hcls : Bundle.fit cls = true) (hnames : ∀ n ∈ names, Bundle.fit n = true) (hk : Cond.classLink own ik cls ∈ wsG) (hini : Cond.initialized cls ∈ wsG) (hstr : (own, is, text) ∈ gStr) (hat : ∀ w ∈ vx_atS own ic cls names, (goodWord w = true ∧ w ∈ lw_tbl) ∨ w ∈ gNw)
    (d0 : decode cc pc = .ok (.new ik, 3)) (d3 : decode cc (pc + 3) = .ok (.dup, 1)) (d4 : decode cc (pc + 4) = .ok (.ldc is, 2)) (d6 : decode cc (pc + 6) = .ok (.invokespecial ic, 3)) (d9 : decode cc (pc + 9) = .ok (.athrow, 1))
    (hdf : names.length + 3 < d) (hcat : (rest.map fun v => v.category).sum ≤ 8) (hn : n + 1 ≤ u) (hgood : ∀ w ∈ Cond.classLink own ik cls :: Cond.initialized cls :: vx_atS own ic cls names, vx_ot w = true) (hp : PX cls σ τ) : S n σ τ pc L rest := by
  obtain ⟨p, e, s, m, args, below, meth, c, Q, hx, hb, hml, hown, hts, hr, hlk, hK, hN, hI, hQ, hX, rfl⟩ := C
  obtain ⟨htr, hnt, hsx, hQx⟩ := hX hx0
  intro H locs ls hP hS hl2
  obtain ⟨sa, hsa⟩ := hsx.2.2 _ hstr
  refine W.imp hQx (vx_throwS hx hb htr hown hcls hnames (hts _ hk) (hts _ hini) hsa (fun w hw => by
    rcases hat w hw with h9 | h9
    · exact hts _ (wsG_of h9.2 h9.1)
    · exact hN.use h9) hgood hsx.1 hsx.2.1 hS (hl2.1.trans hml.symm) d0 d3 d4 d6 d9 (fun x hx9 => (hnt x hx9).elim) hdf ?_ ?_ ?_ hlk (fun t hv hz hq => ⟨⟨σ, τ, hp, hP.kept (fun k q hkq => hq q.1 (hP k q hkq).lt), va_K.moved hv hK⟩, Nat.le_trans hS.1 hz, fun q h1 h2 => by rw [hq q (Nat.lt_of_lt_of_le h1 hS.1)]; exact hS.2.1 q h1 h2⟩) hS.2.2 hn ?_)
  · show (rest.map fun v => v.category).sum + (13 * (names.length + 1) + 43) ≤ 64 * d
    omega
  · exact hn
  · show 6 * n + 6 ≤ 6 * u
    omega
  · omega
end GRULES2
/-- a contract out of a walk -/
theorem CZ.of {l : Launch} {D : va_G} {ad : Nat → Nat → Nat} {aC : Nat → ClassId} {y : MethodName} {cc : ByteArray} {nL : Nat} {rt : Option FieldType} {d : Nat} {av : List Value} {σ : gSig} {τ : gTau} {PV : Option Value → gSig → gTau → Prop} {own : String} (hy : plainName y.cls = true) (hown : y.cls = own) (hav : (lg_sl av).length ≤ nL)
    (body : ∀ S : gS, Cx l D ad aC cc own nL rt d 0 False PV (fun _ _ _ => False) S → S 0 σ τ 0 (mkL nL av) []) : CZ l D ad aC y cc nL rt d av σ τ PV := by
  intro hI sz
  refine Met.ofW (cc := cc) (maxL := nL) (ret := rt) hy rfl ?_
  intro p e s m args below meth c s₁ B hml hv
  obtain ⟨rfl, hsz, ⟨hP, hK⟩, hN⟩ := hv
  subst hown
  subst hsz
  have hts := atoms_spec (ws := gws y cc nL rt) B.pre
  have hl := lv_entry av (n := nL) hav
  rw [lg_entry_eq]
  exact body _ ⟨p, e, s, m, av.toArray, below, meth, c, _, B.exec, B.bytes, hml, findClass_of_methodNamed B.named, fun w hw => hts w (List.mem_cons_of_mem _ hw), B.returns, B.notSynchronized, hK, hN, hI, fun t h => h, fun h => h.elim, rfl⟩ s.heap [] _ hP va_S.rf (mkL_has hl)
theorem CT.of {l : Launch} {D : va_G} {ad : Nat → Nat → Nat} {aC : Nat → ClassId} {y : MethodName} {cc : ByteArray} {nL : Nat} {rt : Option FieldType} {d u : Nat} {av : List Value} {σ : gSig} {τ : gTau} {PV : Option Value → gSig → gTau → Prop} {PX : String → gSig → gTau → Prop} {own : String} (hy : plainName y.cls = true) (hown : y.cls = own) (hav : (lg_sl av).length ≤ nL)
    (body : ∀ S : gS, Cx l D ad aC cc own nL rt d u True PV PX S → S 0 σ τ 0 (mkL nL av) []) : CT l D ad aC y cc nL rt d u av σ τ PV PX := by
  intro hI htr sz
  refine vx_ofW (cc := cc) (maxL := nL) (ret := rt) hy rfl ?_
  intro p e s m args below meth c s₁ B hml hnt hv
  obtain ⟨rfl, ⟨hsz, ⟨hP, hK⟩, hN⟩, hsx⟩ := hv
  subst hown
  subst hsz
  have hts := atoms_spec (ws := gws y cc nL rt) B.pre
  have hl := lv_entry av (n := nL) hav
  rw [lg_entry_eq]
  exact body _ ⟨p, e, s, m, av.toArray, below, meth, c, _, B.exec, B.bytes, hml, findClass_of_methodNamed B.named, fun w hw => hts w (List.mem_cons_of_mem _ hw), B.returns, B.notSynchronized, hK, hN, hI, fun t h => by
    obtain ⟨o, h1, h2, h3, h4⟩ := h
    exact ⟨o, h1, h2, Or.inl ⟨h3, h4⟩⟩, fun _ => ⟨htr, hnt, hsx, fun t h => h⟩, rfl⟩ s.heap [] _ hP va_S.rf (mkL_has hl)
/-- weaker ends -/
theorem CZ.imp {l : Launch} {D : va_G} {ad : Nat → Nat → Nat} {aC : Nat → ClassId} {y : MethodName} {cc : ByteArray} {nL : Nat} {rt : Option FieldType} {d : Nat} {av : List Value} {σ : gSig} {τ : gTau} {PV PV' : Option Value → gSig → gTau → Prop} (h : CZ l D ad aC y cc nL rt d av σ τ PV) (hi : ∀ r σ' τ', PV r σ' τ' → PV' r σ' τ') : CZ l D ad aC y cc nL rt d av σ τ PV' := by
  intro hI sz
  have hm := h hI sz
  intro p e ha hc hk s m args below hf hfit hP hK
  obtain ⟨t, o, a1, b1, b2, ⟨⟨⟨r, σ', τ', q1, q2, q3⟩, q4⟩, q5⟩⟩ := hm p e ha hc hk s m args below hf hfit hP hK
  exact ⟨t, o, a1, b1, b2, ⟨⟨r, σ', τ', q1, hi _ _ _ q2, q3⟩, q4⟩, q5⟩
end
section
/-! ===== printed by gen_words.py: what the tables say at each field, call and throw ===== -/
theorem kU0 : ∀ w ∈ u_ws RX0 TX0 5, w ∈ wsG := wsG_all (by decide +kernel) (by decide +kernel)
theorem kU1 : ∀ w ∈ u_ws RX1 TX1 5, w ∈ wsG := wsG_all (by decide +kernel) (by decide +kernel)
theorem kU2 : ∀ w ∈ u_ws RX2 TX2 3, w ∈ wsG := wsG_all (by decide +kernel) (by decide +kernel)
theorem kU3 : ∀ w ∈ u_ws RX3 TX3 9, w ∈ wsG := wsG_all (by decide +kernel) (by decide +kernel)
theorem kU4 : ∀ w ∈ u_ws RX4 TX4 8, w ∈ wsG := wsG_all (by decide +kernel) (by decide +kernel)
theorem kU5 : ∀ w ∈ u_ws RX5 TX5 5, w ∈ wsG := wsG_all (by decide +kernel) (by decide +kernel)
theorem kU6 : ∀ w ∈ u_ws RX6 TX6 30, w ∈ wsG := wsG_all (by decide +kernel) (by decide +kernel)
theorem kl_X5_9 : Jvm.Cond.methodLinkNest RX5 9 yX0_init "Gridprobe" ∈ gNw := by decide +kernel
theorem kB_X0_init : BOK yX0_init cX0_init 1 none 0 := ⟨wsG_i 57 (by decide +kernel) rfl, wsG_i 26 (by decide +kernel) rfl, by decide +kernel, by decide +kernel, by decide +kernel⟩
theorem kI_X0_init : Jvm.Cond.instanceMethod yX0_init ∈ wsG := wsG_i 56 (by decide +kernel) rfl
theorem kf_X5_10 : Jvm.Cond.fieldLink RX5 10 RX5 (TX5 0).2.1 (TX5 0).2.2.1 ∈ wsG := wsG_i 210 (by decide +kernel) rfl
theorem kl_X5_18 : Jvm.Cond.methodLink RX5 18 yX3_init ∈ wsG := wsG_i 80 (by decide +kernel) rfl
theorem kB_X3_init : BOK yX3_init cX3_init 2 none 0 := ⟨wsG_i 82 (by decide +kernel) rfl, wsG_i 27 (by decide +kernel) rfl, by decide +kernel, by decide +kernel, by decide +kernel⟩
theorem kI_X3_init : Jvm.Cond.instanceMethod yX3_init ∈ wsG := wsG_i 81 (by decide +kernel) rfl
theorem kf_X5_19 : Jvm.Cond.fieldLink RX5 19 RX5 (TX5 1).2.1 (TX5 1).2.2.1 ∈ wsG := wsG_i 211 (by decide +kernel) rfl
theorem kf_X5_25 : Jvm.Cond.fieldLink RX5 25 RX5 (TX5 2).2.1 (TX5 2).2.2.1 ∈ wsG := wsG_i 212 (by decide +kernel) rfl
theorem kl_X5_29 : Jvm.Cond.methodLinkNest RX5 29 yX2_init "Gridprobe" ∈ gNw := by decide +kernel
theorem kB_X2_init : BOK yX2_init cX2_init 1 none 0 := ⟨wsG_i 131 (by decide +kernel) rfl, wsG_i 28 (by decide +kernel) rfl, by decide +kernel, by decide +kernel, by decide +kernel⟩
theorem kI_X2_init : Jvm.Cond.instanceMethod yX2_init ∈ wsG := wsG_i 130 (by decide +kernel) rfl
theorem kl_X5_32 : Jvm.Cond.methodLinkNest RX5 32 yX4_init "Gridprobe" ∈ gNw := by decide +kernel
theorem kB_X4_init : BOK yX4_init cX4_init 1 none 0 := ⟨wsG_i 148 (by decide +kernel) rfl, wsG_i 29 (by decide +kernel) rfl, by decide +kernel, by decide +kernel, by decide +kernel⟩
theorem kI_X4_init : Jvm.Cond.instanceMethod yX4_init ∈ wsG := wsG_i 147 (by decide +kernel) rfl
theorem kf_X5_33 : Jvm.Cond.fieldLink RX5 33 RX5 (TX5 3).2.1 (TX5 3).2.2.1 ∈ wsG := wsG_i 213 (by decide +kernel) rfl
theorem kl_X5_39 : Jvm.Cond.methodLink RX5 39 yX1_init ∈ wsG := wsG_i 185 (by decide +kernel) rfl
theorem kB_X1_init : BOK yX1_init cX1_init 2 none 0 := ⟨wsG_i 187 (by decide +kernel) rfl, wsG_i 30 (by decide +kernel) rfl, by decide +kernel, by decide +kernel, by decide +kernel⟩
theorem kI_X1_init : Jvm.Cond.instanceMethod yX1_init ∈ wsG := wsG_i 186 (by decide +kernel) rfl
theorem kf_X5_40 : Jvm.Cond.fieldLink RX5 40 RX5 (TX5 4).2.1 (TX5 4).2.2.1 ∈ wsG := wsG_i 214 (by decide +kernel) rfl
theorem kl_X5_44 : Jvm.Cond.methodLink RX5 44 yX0_put ∈ wsG := wsG_i 279 (by decide +kernel) rfl
theorem kB_X0_put : BOK yX0_put cX0_put 4 (some .boolean) 2 := ⟨wsG_i 282 (by decide +kernel) rfl, wsG_i 26 (by decide +kernel) rfl, by decide +kernel, by decide +kernel, by decide +kernel⟩
theorem kI_X0_put : Jvm.Cond.instanceMethod yX0_put ∈ wsG := wsG_i 280 (by decide +kernel) rfl
theorem kV_X0_put : Jvm.Cond.selects RX0 yX0_put yX0_put ∈ wsG := wsG_i 281 (by decide +kernel) rfl
theorem kf_X5_55 : Jvm.Cond.fieldLink RX5 55 RX0 (TX0 4).2.1 (TX0 4).2.2.1 ∈ wsG := wsG_i 65 (by decide +kernel) rfl
theorem kl_X5_59 : Jvm.Cond.methodLink RX5 59 yX5_needCell ∈ wsG := wsG_i 385 (by decide +kernel) rfl
theorem kB_X5_needCell : BOK yX5_needCell cX5_needCell 1 none 1 := ⟨wsG_i 387 (by decide +kernel) rfl, wsG_i 25 (by decide +kernel) rfl, by decide +kernel, by decide +kernel, by decide +kernel⟩
theorem kS_X5_needCell : Jvm.Cond.static yX5_needCell ∈ wsG := wsG_i 386 (by decide +kernel) rfl
theorem kf_X5_70 : Jvm.Cond.fieldLink RX5 70 RX0 (TX0 3).2.1 (TX0 3).2.2.1 ∈ wsG := wsG_i 63 (by decide +kernel) rfl
theorem kl_X5_73 : Jvm.Cond.methodLink RX5 73 yX0_clear ∈ wsG := wsG_i 230 (by decide +kernel) rfl
theorem kB_X0_clear : BOK yX0_clear cX0_clear 1 none 0 := ⟨wsG_i 233 (by decide +kernel) rfl, wsG_i 26 (by decide +kernel) rfl, by decide +kernel, by decide +kernel, by decide +kernel⟩
theorem kI_X0_clear : Jvm.Cond.instanceMethod yX0_clear ∈ wsG := wsG_i 231 (by decide +kernel) rfl
theorem kV_X0_clear : Jvm.Cond.selects RX0 yX0_clear yX0_clear ∈ wsG := wsG_i 232 (by decide +kernel) rfl
theorem kl_X5_78 : Jvm.Cond.methodLink RX5 78 yX3_wouldRestOnItself ∈ wsG := wsG_i 434 (by decide +kernel) rfl
theorem kB_X3_wouldRestOnItself : BOK yX3_wouldRestOnItself cX3_wouldRestOnItself 3 (some .boolean) 2 := ⟨wsG_i 437 (by decide +kernel) rfl, wsG_i 27 (by decide +kernel) rfl, by decide +kernel, by decide +kernel, by decide +kernel⟩
theorem kI_X3_wouldRestOnItself : Jvm.Cond.instanceMethod yX3_wouldRestOnItself ∈ wsG := wsG_i 435 (by decide +kernel) rfl
theorem kV_X3_wouldRestOnItself : Jvm.Cond.selects RX3 yX3_wouldRestOnItself yX3_wouldRestOnItself ∈ wsG := wsG_i 436 (by decide +kernel) rfl
theorem kl_X5_84 : Jvm.Cond.methodLink RX5 84 yX3_makeFormula ∈ wsG := wsG_i 447 (by decide +kernel) rfl
theorem kB_X3_makeFormula : BOK yX3_makeFormula cX3_makeFormula 3 none 2 := ⟨wsG_i 450 (by decide +kernel) rfl, wsG_i 27 (by decide +kernel) rfl, by decide +kernel, by decide +kernel, by decide +kernel⟩
theorem kI_X3_makeFormula : Jvm.Cond.instanceMethod yX3_makeFormula ∈ wsG := wsG_i 448 (by decide +kernel) rfl
theorem kV_X3_makeFormula : Jvm.Cond.selects RX3 yX3_makeFormula yX3_makeFormula ∈ wsG := wsG_i 449 (by decide +kernel) rfl
theorem kl_X5_88 : Jvm.Cond.methodLink RX5 88 yX5_followChange ∈ wsG := wsG_i 462 (by decide +kernel) rfl
theorem kB_X5_followChange : BOK yX5_followChange cX5_followChange 2 (some .int) 1 := ⟨wsG_i 465 (by decide +kernel) rfl, wsG_i 25 (by decide +kernel) rfl, by decide +kernel, by decide +kernel, by decide +kernel⟩
theorem kI_X5_followChange : Jvm.Cond.instanceMethod yX5_followChange ∈ wsG := wsG_i 464 (by decide +kernel) rfl
theorem kV_X5_followChange : Jvm.Cond.selects RX5 yX5_followChange yX5_followChange ∈ wsG := wsG_i 4 (by decide +kernel) rfl
theorem kc_X5_92 : Jvm.Cond.constant RX5 92 (-1000000) ∈ wsG := wsG_i 482 (by decide +kernel) rfl
theorem kc_X5_93 : Jvm.Cond.constant RX5 93 (1000000) ∈ wsG := wsG_i 483 (by decide +kernel) rfl
theorem kl_X5_96 : Jvm.Cond.methodLink RX5 96 yX3_makeInput ∈ wsG := wsG_i 485 (by decide +kernel) rfl
theorem kB_X3_makeInput : BOK yX3_makeInput cX3_makeInput 4 none 3 := ⟨wsG_i 488 (by decide +kernel) rfl, wsG_i 27 (by decide +kernel) rfl, by decide +kernel, by decide +kernel, by decide +kernel⟩
theorem kI_X3_makeInput : Jvm.Cond.instanceMethod yX3_makeInput ∈ wsG := wsG_i 486 (by decide +kernel) rfl
theorem kV_X3_makeInput : Jvm.Cond.selects RX3 yX3_makeInput yX3_makeInput ∈ wsG := wsG_i 487 (by decide +kernel) rfl
theorem kl_X5_100 : Jvm.Cond.methodLink RX5 100 yX3_isInput ∈ wsG := wsG_i 496 (by decide +kernel) rfl
theorem kB_X3_isInput : BOK yX3_isInput cX3_isInput 2 (some .boolean) 1 := ⟨wsG_i 499 (by decide +kernel) rfl, wsG_i 27 (by decide +kernel) rfl, by decide +kernel, by decide +kernel, by decide +kernel⟩
theorem kI_X3_isInput : Jvm.Cond.instanceMethod yX3_isInput ∈ wsG := wsG_i 497 (by decide +kernel) rfl
theorem kV_X3_isInput : Jvm.Cond.selects RX3 yX3_isInput yX3_isInput ∈ wsG := wsG_i 498 (by decide +kernel) rfl
theorem kf_X5_106 : Jvm.Cond.fieldLink RX5 106 RX3 (TX3 1).2.1 (TX3 1).2.2.1 ∈ wsG := wsG_i 91 (by decide +kernel) rfl
theorem kf_X5_110 : Jvm.Cond.fieldLink RX5 110 RX3 (TX3 2).2.1 (TX3 2).2.2.1 ∈ wsG := wsG_i 95 (by decide +kernel) rfl
theorem kf_X5_115 : Jvm.Cond.fieldLink RX5 115 RX3 (TX3 3).2.1 (TX3 3).2.2.1 ∈ wsG := wsG_i 97 (by decide +kernel) rfl
theorem kl_X5_120 : Jvm.Cond.methodLink RX5 120 yX2_add ∈ wsG := wsG_i 510 (by decide +kernel) rfl
theorem kB_X2_add : BOK yX2_add cX2_add 3 (some .boolean) 2 := ⟨wsG_i 513 (by decide +kernel) rfl, wsG_i 28 (by decide +kernel) rfl, by decide +kernel, by decide +kernel, by decide +kernel⟩
theorem kI_X2_add : Jvm.Cond.instanceMethod yX2_add ∈ wsG := wsG_i 511 (by decide +kernel) rfl
theorem kV_X2_add : Jvm.Cond.selects RX2 yX2_add yX2_add ∈ wsG := wsG_i 512 (by decide +kernel) rfl
theorem kl_X5_125 : Jvm.Cond.methodLink RX5 125 yX4_untry ∈ wsG := wsG_i 470 (by decide +kernel) rfl
theorem kB_X4_untry : BOK yX4_untry cX4_untry 3 (some .int) 1 := ⟨wsG_i 473 (by decide +kernel) rfl, wsG_i 29 (by decide +kernel) rfl, by decide +kernel, by decide +kernel, by decide +kernel⟩
theorem kI_X4_untry : Jvm.Cond.instanceMethod yX4_untry ∈ wsG := wsG_i 471 (by decide +kernel) rfl
theorem kV_X4_untry : Jvm.Cond.selects RX4 yX4_untry yX4_untry ∈ wsG := wsG_i 472 (by decide +kernel) rfl
theorem kf_X5_128 : Jvm.Cond.fieldLink RX5 128 RX2 (TX2 2).2.1 (TX2 2).2.2.1 ∈ wsG := wsG_i 136 (by decide +kernel) rfl
theorem kf_X5_133 : Jvm.Cond.fieldLink RX5 133 RX1 (TX1 0).2.1 (TX1 0).2.2.1 ∈ wsG := wsG_i 190 (by decide +kernel) rfl
theorem kf_X5_138 : Jvm.Cond.fieldLink RX5 138 RX4 (TX4 6).2.1 (TX4 6).2.2.1 ∈ wsG := wsG_i 164 (by decide +kernel) rfl
theorem kl_X5_141 : Jvm.Cond.methodLink RX5 141 yX5_has ∈ wsG := wsG_i 538 (by decide +kernel) rfl
theorem kB_X5_has : BOK yX5_has cX5_has 2 (some .boolean) 2 := ⟨wsG_i 260 (by decide +kernel) rfl, wsG_i 25 (by decide +kernel) rfl, by decide +kernel, by decide +kernel, by decide +kernel⟩
theorem kS_X5_has : Jvm.Cond.static yX5_has ∈ wsG := wsG_i 259 (by decide +kernel) rfl
theorem kl_X5_144 : Jvm.Cond.methodLink RX5 144 yX5_lockedCells ∈ wsG := wsG_i 246 (by decide +kernel) rfl
theorem kB_X5_lockedCells : BOK yX5_lockedCells cX5_lockedCells 1 (some .int) 0 := ⟨wsG_i 249 (by decide +kernel) rfl, wsG_i 25 (by decide +kernel) rfl, by decide +kernel, by decide +kernel, by decide +kernel⟩
theorem kI_X5_lockedCells : Jvm.Cond.instanceMethod yX5_lockedCells ∈ wsG := wsG_i 248 (by decide +kernel) rfl
theorem kV_X5_lockedCells : Jvm.Cond.selects RX5 yX5_lockedCells yX5_lockedCells ∈ wsG := wsG_i 0 (by decide +kernel) rfl
theorem kl_X5_148 : Jvm.Cond.methodLink RX5 148 yX4_run ∈ wsG := wsG_i 539 (by decide +kernel) rfl
theorem kB_X4_run : BOK yX4_run cX4_run 8 (some .int) 5 := ⟨wsG_i 542 (by decide +kernel) rfl, wsG_i 29 (by decide +kernel) rfl, by decide +kernel, by decide +kernel, by decide +kernel⟩
theorem kI_X4_run : Jvm.Cond.instanceMethod yX4_run ∈ wsG := wsG_i 540 (by decide +kernel) rfl
theorem kV_X4_run : Jvm.Cond.selects RX4 yX4_run yX4_run ∈ wsG := wsG_i 541 (by decide +kernel) rfl
theorem kl_X5_152 : Jvm.Cond.methodLink RX5 152 yX1_keepUnlocked ∈ wsG := wsG_i 609 (by decide +kernel) rfl
theorem kB_X1_keepUnlocked : BOK yX1_keepUnlocked cX1_keepUnlocked 7 none 3 := ⟨wsG_i 612 (by decide +kernel) rfl, wsG_i 30 (by decide +kernel) rfl, by decide +kernel, by decide +kernel, by decide +kernel⟩
theorem kI_X1_keepUnlocked : Jvm.Cond.instanceMethod yX1_keepUnlocked ∈ wsG := wsG_i 610 (by decide +kernel) rfl
theorem kV_X1_keepUnlocked : Jvm.Cond.selects RX1 yX1_keepUnlocked yX1_keepUnlocked ∈ wsG := wsG_i 611 (by decide +kernel) rfl
theorem kf_X5_160 : Jvm.Cond.fieldLink RX5 160 RX1 (TX1 1).2.1 (TX1 1).2.2.1 ∈ wsG := wsG_i 192 (by decide +kernel) rfl
theorem kf_X5_163 : Jvm.Cond.fieldLink RX5 163 RX1 (TX1 3).2.1 (TX1 3).2.2.1 ∈ wsG := wsG_i 196 (by decide +kernel) rfl
theorem kl_X5_166 : Jvm.Cond.methodLink RX5 166 yJ6_bitCount_0f7a4 ∈ wsG := wsG_i 261 (by decide +kernel) rfl
theorem kB_J6_bitCount_0f7a4 : BOK yJ6_bitCount_0f7a4 cJ6_bitCount_0f7a4 1 (some .int) 1 := ⟨wsG_i 263 (by decide +kernel) rfl, wsG_i 41 (by decide +kernel) rfl, by decide +kernel, by decide +kernel, by decide +kernel⟩
theorem kS_J6_bitCount_0f7a4 : Jvm.Cond.static yJ6_bitCount_0f7a4 ∈ wsG := wsG_i 262 (by decide +kernel) rfl
theorem kf_X5_175 : Jvm.Cond.fieldLink RX5 175 RX3 (TX3 4).2.1 (TX3 4).2.2.1 ∈ wsG := wsG_i 99 (by decide +kernel) rfl
theorem kf_X5_178 : Jvm.Cond.fieldLink RX5 178 RX3 (TX3 5).2.1 (TX3 5).2.2.1 ∈ wsG := wsG_i 101 (by decide +kernel) rfl
theorem kl_X5_183 : Jvm.Cond.methodLink RX5 183 yX3_reckon ∈ wsG := wsG_i 672 (by decide +kernel) rfl
theorem kB_X3_reckon : BOK yX3_reckon cX3_reckon 6 (some .long) 2 := ⟨wsG_i 566 (by decide +kernel) rfl, wsG_i 27 (by decide +kernel) rfl, by decide +kernel, by decide +kernel, by decide +kernel⟩
theorem kI_X3_reckon : Jvm.Cond.instanceMethod yX3_reckon ∈ wsG := wsG_i 564 (by decide +kernel) rfl
theorem kV_X3_reckon : Jvm.Cond.selects RX3 yX3_reckon yX3_reckon ∈ wsG := wsG_i 565 (by decide +kernel) rfl
theorem kc_X5_187 : Jvm.Cond.constantLong RX5 187 (4294967296) ∈ wsG := wsG_i 673 (by decide +kernel) rfl
theorem kf_X5_194 : Jvm.Cond.fieldLink RX5 194 RX4 (TX4 5).2.1 (TX4 5).2.2.1 ∈ wsG := wsG_i 162 (by decide +kernel) rfl
theorem kf_X5_197 : Jvm.Cond.fieldLink RX5 197 RX4 (TX4 1).2.1 (TX4 1).2.2.1 ∈ wsG := wsG_i 154 (by decide +kernel) rfl
theorem kf_X5_200 : Jvm.Cond.fieldLink RX5 200 RX4 (TX4 3).2.1 (TX4 3).2.2.1 ∈ wsG := wsG_i 158 (by decide +kernel) rfl
theorem kf_X5_208 : Jvm.Cond.fieldLink RX5 208 RX4 (TX4 4).2.1 (TX4 4).2.2.1 ∈ wsG := wsG_i 160 (by decide +kernel) rfl
theorem kf_X5_212 : Jvm.Cond.fieldLink RX5 212 RX4 (TX4 2).2.1 (TX4 2).2.2.1 ∈ wsG := wsG_i 156 (by decide +kernel) rfl
theorem kl_X5_215 : Jvm.Cond.methodLink RX5 215 yX1_waivedCells ∈ wsG := wsG_i 250 (by decide +kernel) rfl
theorem kB_X1_waivedCells : BOK yX1_waivedCells cX1_waivedCells 3 (some .int) 0 := ⟨wsG_i 253 (by decide +kernel) rfl, wsG_i 30 (by decide +kernel) rfl, by decide +kernel, by decide +kernel, by decide +kernel⟩
theorem kI_X1_waivedCells : Jvm.Cond.instanceMethod yX1_waivedCells ∈ wsG := wsG_i 251 (by decide +kernel) rfl
theorem kV_X1_waivedCells : Jvm.Cond.selects RX1 yX1_waivedCells yX1_waivedCells ∈ wsG := wsG_i 252 (by decide +kernel) rfl
theorem kl_X5_218 : Jvm.Cond.methodLink RX5 218 yX3_reachedFrom ∈ wsG := wsG_i 736 (by decide +kernel) rfl
theorem kB_X3_reachedFrom : BOK yX3_reachedFrom cX3_reachedFrom 6 (some .int) 2 := ⟨wsG_i 739 (by decide +kernel) rfl, wsG_i 27 (by decide +kernel) rfl, by decide +kernel, by decide +kernel, by decide +kernel⟩
theorem kI_X3_reachedFrom : Jvm.Cond.instanceMethod yX3_reachedFrom ∈ wsG := wsG_i 737 (by decide +kernel) rfl
theorem kV_X3_reachedFrom : Jvm.Cond.selects RX3 yX3_reachedFrom yX3_reachedFrom ∈ wsG := wsG_i 738 (by decide +kernel) rfl
theorem kf_X5_222 : Jvm.Cond.fieldLink RX5 222 RX1 (TX1 4).2.1 (TX1 4).2.2.1 ∈ wsG := wsG_i 198 (by decide +kernel) rfl
theorem kf_X5_230 : Jvm.Cond.fieldLink RX5 230 RX1 (TX1 2).2.1 (TX1 2).2.2.1 ∈ wsG := wsG_i 194 (by decide +kernel) rfl
theorem kl_X5_235 : Jvm.Cond.methodLink RX5 235 yX3_lockedCells ∈ wsG := wsG_i 254 (by decide +kernel) rfl
theorem kB_X3_lockedCells : BOK yX3_lockedCells cX3_lockedCells 6 (some .int) 2 := ⟨wsG_i 257 (by decide +kernel) rfl, wsG_i 27 (by decide +kernel) rfl, by decide +kernel, by decide +kernel, by decide +kernel⟩
theorem kI_X3_lockedCells : Jvm.Cond.instanceMethod yX3_lockedCells ∈ wsG := wsG_i 255 (by decide +kernel) rfl
theorem kV_X3_lockedCells : Jvm.Cond.selects RX3 yX3_lockedCells yX3_lockedCells ∈ wsG := wsG_i 256 (by decide +kernel) rfl
theorem kl_X5_237 : Jvm.Cond.methodLink RX5 237 yX3_cellsRestingOn ∈ wsG := wsG_i 466 (by decide +kernel) rfl
theorem kB_X3_cellsRestingOn : BOK yX3_cellsRestingOn cX3_cellsRestingOn 4 (some .int) 1 := ⟨wsG_i 469 (by decide +kernel) rfl, wsG_i 27 (by decide +kernel) rfl, by decide +kernel, by decide +kernel, by decide +kernel⟩
theorem kI_X3_cellsRestingOn : Jvm.Cond.instanceMethod yX3_cellsRestingOn ∈ wsG := wsG_i 467 (by decide +kernel) rfl
theorem kV_X3_cellsRestingOn : Jvm.Cond.selects RX3 yX3_cellsRestingOn yX3_cellsRestingOn ∈ wsG := wsG_i 468 (by decide +kernel) rfl
theorem kf_X6_7 : Jvm.Cond.fieldLink RX6 7 RX6 (TX6 4).2.1 (TX6 4).2.2.1 ∈ wsG := wsG_i 765 (by decide +kernel) rfl
theorem kf_X6_13 : Jvm.Cond.fieldLink RX6 13 RX6 (TX6 5).2.1 (TX6 5).2.2.1 ∈ wsG := wsG_i 766 (by decide +kernel) rfl
theorem kf_X6_16 : Jvm.Cond.fieldLink RX6 16 RX6 (TX6 6).2.1 (TX6 6).2.2.1 ∈ wsG := wsG_i 767 (by decide +kernel) rfl
theorem kf_X6_19 : Jvm.Cond.fieldLink RX6 19 RX6 (TX6 7).2.1 (TX6 7).2.2.1 ∈ wsG := wsG_i 768 (by decide +kernel) rfl
theorem kf_X6_22 : Jvm.Cond.fieldLink RX6 22 RX6 (TX6 8).2.1 (TX6 8).2.2.1 ∈ wsG := wsG_i 769 (by decide +kernel) rfl
theorem kf_X6_25 : Jvm.Cond.fieldLink RX6 25 RX6 (TX6 9).2.1 (TX6 9).2.2.1 ∈ wsG := wsG_i 770 (by decide +kernel) rfl
theorem kf_X6_28 : Jvm.Cond.fieldLink RX6 28 RX6 (TX6 10).2.1 (TX6 10).2.2.1 ∈ wsG := wsG_i 771 (by decide +kernel) rfl
theorem kf_X6_31 : Jvm.Cond.fieldLink RX6 31 RX6 (TX6 11).2.1 (TX6 11).2.2.1 ∈ wsG := wsG_i 772 (by decide +kernel) rfl
theorem kf_X6_34 : Jvm.Cond.fieldLink RX6 34 RX6 (TX6 12).2.1 (TX6 12).2.2.1 ∈ wsG := wsG_i 773 (by decide +kernel) rfl
theorem kf_X6_37 : Jvm.Cond.fieldLink RX6 37 RX6 (TX6 13).2.1 (TX6 13).2.2.1 ∈ wsG := wsG_i 774 (by decide +kernel) rfl
theorem kf_X6_40 : Jvm.Cond.fieldLink RX6 40 RX6 (TX6 14).2.1 (TX6 14).2.2.1 ∈ wsG := wsG_i 775 (by decide +kernel) rfl
theorem kf_X6_43 : Jvm.Cond.fieldLink RX6 43 RX6 (TX6 15).2.1 (TX6 15).2.2.1 ∈ wsG := wsG_i 776 (by decide +kernel) rfl
theorem kf_X6_46 : Jvm.Cond.fieldLink RX6 46 RX6 (TX6 16).2.1 (TX6 16).2.2.1 ∈ wsG := wsG_i 777 (by decide +kernel) rfl
theorem kf_X6_49 : Jvm.Cond.fieldLink RX6 49 RX6 (TX6 17).2.1 (TX6 17).2.2.1 ∈ wsG := wsG_i 778 (by decide +kernel) rfl
theorem kf_X6_52 : Jvm.Cond.fieldLink RX6 52 RX6 (TX6 18).2.1 (TX6 18).2.2.1 ∈ wsG := wsG_i 779 (by decide +kernel) rfl
theorem kf_X6_55 : Jvm.Cond.fieldLink RX6 55 RX6 (TX6 19).2.1 (TX6 19).2.2.1 ∈ wsG := wsG_i 780 (by decide +kernel) rfl
theorem kf_X6_58 : Jvm.Cond.fieldLink RX6 58 RX6 (TX6 20).2.1 (TX6 20).2.2.1 ∈ wsG := wsG_i 781 (by decide +kernel) rfl
theorem kf_X6_61 : Jvm.Cond.fieldLink RX6 61 RX6 (TX6 21).2.1 (TX6 21).2.2.1 ∈ wsG := wsG_i 782 (by decide +kernel) rfl
theorem kf_X6_64 : Jvm.Cond.fieldLink RX6 64 RX6 (TX6 23).2.1 (TX6 23).2.2.1 ∈ wsG := wsG_i 784 (by decide +kernel) rfl
theorem kf_X6_67 : Jvm.Cond.fieldLink RX6 67 RX6 (TX6 24).2.1 (TX6 24).2.2.1 ∈ wsG := wsG_i 785 (by decide +kernel) rfl
theorem kf_X6_70 : Jvm.Cond.fieldLink RX6 70 RX6 (TX6 25).2.1 (TX6 25).2.2.1 ∈ wsG := wsG_i 786 (by decide +kernel) rfl
theorem kf_X6_73 : Jvm.Cond.fieldLink RX6 73 RX6 (TX6 26).2.1 (TX6 26).2.2.1 ∈ wsG := wsG_i 787 (by decide +kernel) rfl
theorem kf_X6_77 : Jvm.Cond.fieldLink RX6 77 RX6 (TX6 27).2.1 (TX6 27).2.2.1 ∈ wsG := wsG_i 788 (by decide +kernel) rfl
theorem kf_X6_80 : Jvm.Cond.fieldLink RX6 80 RX6 (TX6 28).2.1 (TX6 28).2.2.1 ∈ wsG := wsG_i 789 (by decide +kernel) rfl
theorem kf_X6_83 : Jvm.Cond.fieldLink RX6 83 RX6 (TX6 29).2.1 (TX6 29).2.2.1 ∈ wsG := wsG_i 790 (by decide +kernel) rfl
theorem kf_X6_86 : Jvm.Cond.fieldLink RX6 86 RX6 (TX6 0).2.1 (TX6 0).2.2.1 ∈ wsG := wsG_i 761 (by decide +kernel) rfl
theorem kl_X6_90 : Jvm.Cond.methodLink RX6 90 yX6_in ∈ wsG := wsG_i 872 (by decide +kernel) rfl
theorem kB_X6_in : BOK yX6_in cX6_in 3 (some .boolean) 3 := ⟨wsG_i 874 (by decide +kernel) rfl, wsG_i 31 (by decide +kernel) rfl, by decide +kernel, by decide +kernel, by decide +kernel⟩
theorem kS_X6_in : Jvm.Cond.static yX6_in ∈ wsG := wsG_i 873 (by decide +kernel) rfl
theorem kf_X6_94 : Jvm.Cond.fieldLink RX6 94 RX6 (TX6 2).2.1 (TX6 2).2.2.1 ∈ wsG := wsG_i 763 (by decide +kernel) rfl
theorem kf_X6_97 : Jvm.Cond.fieldLink RX6 97 RX6 (TX6 3).2.1 (TX6 3).2.2.1 ∈ wsG := wsG_i 764 (by decide +kernel) rfl
theorem kl_X6_100 : Jvm.Cond.methodLink RX6 100 yX6_adds ∈ wsG := wsG_i 861 (by decide +kernel) rfl
theorem kB_X6_adds : BOK yX6_adds cX6_adds 4 (some .int) 3 := ⟨wsG_i 864 (by decide +kernel) rfl, wsG_i 31 (by decide +kernel) rfl, by decide +kernel, by decide +kernel, by decide +kernel⟩
theorem kI_X6_adds : Jvm.Cond.instanceMethod yX6_adds ∈ wsG := wsG_i 863 (by decide +kernel) rfl
theorem kV_X6_adds : Jvm.Cond.selects RX6 yX6_adds yX6_adds ∈ wsG := wsG_i 10 (by decide +kernel) rfl
theorem kl_X6_104 : Jvm.Cond.methodLink RX6 104 yX6_isCell ∈ wsG := wsG_i 869 (by decide +kernel) rfl
theorem kB_X6_isCell : BOK yX6_isCell cX6_isCell 1 (some .boolean) 1 := ⟨wsG_i 871 (by decide +kernel) rfl, wsG_i 31 (by decide +kernel) rfl, by decide +kernel, by decide +kernel, by decide +kernel⟩
theorem kS_X6_isCell : Jvm.Cond.static yX6_isCell ∈ wsG := wsG_i 870 (by decide +kernel) rfl
theorem kl_X6_108 : Jvm.Cond.methodLink RX6 108 yX6_readBy ∈ wsG := wsG_i 895 (by decide +kernel) rfl
theorem kB_X6_readBy : BOK yX6_readBy cX6_readBy 4 (some .int) 1 := ⟨wsG_i 898 (by decide +kernel) rfl, wsG_i 31 (by decide +kernel) rfl, by decide +kernel, by decide +kernel, by decide +kernel⟩
theorem kI_X6_readBy : Jvm.Cond.instanceMethod yX6_readBy ∈ wsG := wsG_i 897 (by decide +kernel) rfl
theorem kV_X6_readBy : Jvm.Cond.selects RX6 yX6_readBy yX6_readBy ∈ wsG := wsG_i 13 (by decide +kernel) rfl
theorem kl_X6_112 : Jvm.Cond.methodLink RX6 112 yX6_orders ∈ wsG := wsG_i 903 (by decide +kernel) rfl
theorem kB_X6_orders : BOK yX6_orders cX6_orders 5 none 0 := ⟨wsG_i 906 (by decide +kernel) rfl, wsG_i 31 (by decide +kernel) rfl, by decide +kernel, by decide +kernel, by decide +kernel⟩
theorem kI_X6_orders : Jvm.Cond.instanceMethod yX6_orders ∈ wsG := wsG_i 905 (by decide +kernel) rfl
theorem kV_X6_orders : Jvm.Cond.selects RX6 yX6_orders yX6_orders ∈ wsG := wsG_i 15 (by decide +kernel) rfl
theorem kl_X6_115 : Jvm.Cond.methodLink RX6 115 yX6_under ∈ wsG := wsG_i 891 (by decide +kernel) rfl
theorem kB_X6_under : BOK yX6_under cX6_under 5 (some .int) 1 := ⟨wsG_i 894 (by decide +kernel) rfl, wsG_i 31 (by decide +kernel) rfl, by decide +kernel, by decide +kernel, by decide +kernel⟩
theorem kI_X6_under : Jvm.Cond.instanceMethod yX6_under ∈ wsG := wsG_i 893 (by decide +kernel) rfl
theorem kV_X6_under : Jvm.Cond.selects RX6 yX6_under yX6_under ∈ wsG := wsG_i 12 (by decide +kernel) rfl
theorem kl_X6_118 : Jvm.Cond.methodLink RX6 118 yX6_fails ∈ wsG := wsG_i 887 (by decide +kernel) rfl
theorem kB_X6_fails : BOK yX6_fails cX6_fails 2 (some .int) 1 := ⟨wsG_i 890 (by decide +kernel) rfl, wsG_i 31 (by decide +kernel) rfl, by decide +kernel, by decide +kernel, by decide +kernel⟩
theorem kI_X6_fails : Jvm.Cond.instanceMethod yX6_fails ∈ wsG := wsG_i 889 (by decide +kernel) rfl
theorem kV_X6_fails : Jvm.Cond.selects RX6 yX6_fails yX6_fails ∈ wsG := wsG_i 11 (by decide +kernel) rfl
theorem kl_X6_121 : Jvm.Cond.methodLink RX6 121 yX6_changes ∈ wsG := wsG_i 899 (by decide +kernel) rfl
theorem kB_X6_changes : BOK yX6_changes cX6_changes 5 (some .int) 1 := ⟨wsG_i 902 (by decide +kernel) rfl, wsG_i 31 (by decide +kernel) rfl, by decide +kernel, by decide +kernel, by decide +kernel⟩
theorem kI_X6_changes : Jvm.Cond.instanceMethod yX6_changes ∈ wsG := wsG_i 901 (by decide +kernel) rfl
theorem kV_X6_changes : Jvm.Cond.selects RX6 yX6_changes yX6_changes ∈ wsG := wsG_i 14 (by decide +kernel) rfl
theorem kc_X6_124 : Jvm.Cond.constant RX6 124 (-1000000) ∈ wsG := wsG_i 911 (by decide +kernel) rfl
theorem kc_X6_125 : Jvm.Cond.constant RX6 125 (1000000) ∈ wsG := wsG_i 912 (by decide +kernel) rfl
theorem kl_X6_126 : Jvm.Cond.methodLink RX6 126 yX6_of ∈ wsG := wsG_i 945 (by decide +kernel) rfl
theorem kB_X6_of : BOK yX6_of cX6_of 3 (some .int) 3 := ⟨wsG_i 947 (by decide +kernel) rfl, wsG_i 31 (by decide +kernel) rfl, by decide +kernel, by decide +kernel, by decide +kernel⟩
theorem kS_X6_of : Jvm.Cond.static yX6_of ∈ wsG := wsG_i 946 (by decide +kernel) rfl
theorem kl_X6_129 : Jvm.Cond.methodLink RX6 129 yX6_reckons ∈ wsG := wsG_i 941 (by decide +kernel) rfl
theorem kB_X6_reckons : BOK yX6_reckons cX6_reckons 6 none 1 := ⟨wsG_i 944 (by decide +kernel) rfl, wsG_i 31 (by decide +kernel) rfl, by decide +kernel, by decide +kernel, by decide +kernel⟩
theorem kI_X6_reckons : Jvm.Cond.instanceMethod yX6_reckons ∈ wsG := wsG_i 943 (by decide +kernel) rfl
theorem kV_X6_reckons : Jvm.Cond.selects RX6 yX6_reckons yX6_reckons ∈ wsG := wsG_i 18 (by decide +kernel) rfl
theorem kl_X6_133 : Jvm.Cond.methodLink RX6 133 yX6_reckonsAll ∈ wsG := wsG_i 937 (by decide +kernel) rfl
theorem kB_X6_reckonsAll : BOK yX6_reckonsAll cX6_reckonsAll 4 none 1 := ⟨wsG_i 940 (by decide +kernel) rfl, wsG_i 31 (by decide +kernel) rfl, by decide +kernel, by decide +kernel, by decide +kernel⟩
theorem kI_X6_reckonsAll : Jvm.Cond.instanceMethod yX6_reckonsAll ∈ wsG := wsG_i 939 (by decide +kernel) rfl
theorem kV_X6_reckonsAll : Jvm.Cond.selects RX6 yX6_reckonsAll yX6_reckonsAll ∈ wsG := wsG_i 17 (by decide +kernel) rfl
theorem kf_X6_137 : Jvm.Cond.fieldLink RX6 137 RX6 (TX6 1).2.1 (TX6 1).2.2.1 ∈ wsG := wsG_i 762 (by decide +kernel) rfl
theorem kl_X6_140 : Jvm.Cond.methodLink RX6 140 yX6_isWaived ∈ wsG := wsG_i 960 (by decide +kernel) rfl
theorem kB_X6_isWaived : BOK yX6_isWaived cX6_isWaived 2 (some .boolean) 1 := ⟨wsG_i 963 (by decide +kernel) rfl, wsG_i 31 (by decide +kernel) rfl, by decide +kernel, by decide +kernel, by decide +kernel⟩
theorem kI_X6_isWaived : Jvm.Cond.instanceMethod yX6_isWaived ∈ wsG := wsG_i 962 (by decide +kernel) rfl
theorem kV_X6_isWaived : Jvm.Cond.selects RX6 yX6_isWaived yX6_isWaived ∈ wsG := wsG_i 22 (by decide +kernel) rfl
theorem kl_X6_143 : Jvm.Cond.methodLink RX6 143 yX6_holds ∈ wsG := wsG_i 933 (by decide +kernel) rfl
theorem kB_X6_holds : BOK yX6_holds cX6_holds 7 (some .boolean) 2 := ⟨wsG_i 936 (by decide +kernel) rfl, wsG_i 31 (by decide +kernel) rfl, by decide +kernel, by decide +kernel, by decide +kernel⟩
theorem kI_X6_holds : Jvm.Cond.instanceMethod yX6_holds ∈ wsG := wsG_i 935 (by decide +kernel) rfl
theorem kV_X6_holds : Jvm.Cond.selects RX6 yX6_holds yX6_holds ∈ wsG := wsG_i 16 (by decide +kernel) rfl
theorem kl_X6_147 : Jvm.Cond.methodLink RX6 147 yX6_shrinks ∈ wsG := wsG_i 952 (by decide +kernel) rfl
theorem kB_X6_shrinks : BOK yX6_shrinks cX6_shrinks 5 (some .boolean) 2 := ⟨wsG_i 955 (by decide +kernel) rfl, wsG_i 31 (by decide +kernel) rfl, by decide +kernel, by decide +kernel, by decide +kernel⟩
theorem kI_X6_shrinks : Jvm.Cond.instanceMethod yX6_shrinks ∈ wsG := wsG_i 954 (by decide +kernel) rfl
theorem kV_X6_shrinks : Jvm.Cond.selects RX6 yX6_shrinks yX6_shrinks ∈ wsG := wsG_i 20 (by decide +kernel) rfl
theorem kl_X6_150 : Jvm.Cond.methodLink RX6 150 yX6_locks ∈ wsG := wsG_i 956 (by decide +kernel) rfl
theorem kB_X6_locks : BOK yX6_locks cX6_locks 5 (some .int) 0 := ⟨wsG_i 959 (by decide +kernel) rfl, wsG_i 31 (by decide +kernel) rfl, by decide +kernel, by decide +kernel, by decide +kernel⟩
theorem kI_X6_locks : Jvm.Cond.instanceMethod yX6_locks ∈ wsG := wsG_i 958 (by decide +kernel) rfl
theorem kV_X6_locks : Jvm.Cond.selects RX6 yX6_locks yX6_locks ∈ wsG := wsG_i 21 (by decide +kernel) rfl
theorem kf_X6_154 : Jvm.Cond.fieldLink RX6 154 RX6 (TX6 22).2.1 (TX6 22).2.2.1 ∈ wsG := wsG_i 783 (by decide +kernel) rfl
theorem kl_X6_157 : Jvm.Cond.methodLink RX6 157 yX6_exemplifies ∈ wsG := wsG_i 948 (by decide +kernel) rfl
theorem kB_X6_exemplifies : BOK yX6_exemplifies cX6_exemplifies 5 none 2 := ⟨wsG_i 951 (by decide +kernel) rfl, wsG_i 31 (by decide +kernel) rfl, by decide +kernel, by decide +kernel, by decide +kernel⟩
theorem kI_X6_exemplifies : Jvm.Cond.instanceMethod yX6_exemplifies ∈ wsG := wsG_i 950 (by decide +kernel) rfl
theorem kV_X6_exemplifies : Jvm.Cond.selects RX6 yX6_exemplifies yX6_exemplifies ∈ wsG := wsG_i 19 (by decide +kernel) rfl
theorem kl_X6_161 : Jvm.Cond.methodLink RX6 161 yX6_unlocks ∈ wsG := wsG_i 964 (by decide +kernel) rfl
theorem kB_X6_unlocks : BOK yX6_unlocks cX6_unlocks 9 none 2 := ⟨wsG_i 967 (by decide +kernel) rfl, wsG_i 31 (by decide +kernel) rfl, by decide +kernel, by decide +kernel, by decide +kernel⟩
theorem kI_X6_unlocks : Jvm.Cond.instanceMethod yX6_unlocks ∈ wsG := wsG_i 966 (by decide +kernel) rfl
theorem kV_X6_unlocks : Jvm.Cond.selects RX6 yX6_unlocks yX6_unlocks ∈ wsG := wsG_i 23 (by decide +kernel) rfl
theorem kl_X6_164 : Jvm.Cond.methodLink RX6 164 yX6_bits ∈ wsG := wsG_i 972 (by decide +kernel) rfl
theorem kB_X6_bits : BOK yX6_bits cX6_bits 3 (some .int) 1 := ⟨wsG_i 974 (by decide +kernel) rfl, wsG_i 31 (by decide +kernel) rfl, by decide +kernel, by decide +kernel, by decide +kernel⟩
theorem kS_X6_bits : Jvm.Cond.static yX6_bits ∈ wsG := wsG_i 973 (by decide +kernel) rfl
theorem kl_X6_167 : Jvm.Cond.methodLink RX6 167 yX6_isLocked ∈ wsG := wsG_i 1023 (by decide +kernel) rfl
theorem kB_X6_isLocked : BOK yX6_isLocked cX6_isLocked 2 (some .boolean) 1 := ⟨wsG_i 1018 (by decide +kernel) rfl, wsG_i 31 (by decide +kernel) rfl, by decide +kernel, by decide +kernel, by decide +kernel⟩
theorem kI_X6_isLocked : Jvm.Cond.instanceMethod yX6_isLocked ∈ wsG := wsG_i 1016 (by decide +kernel) rfl
theorem kV_X6_isLocked : Jvm.Cond.selects RX6 yX6_isLocked yX6_isLocked ∈ wsG := wsG_i 1017 (by decide +kernel) rfl
theorem kf_X0_9 : Jvm.Cond.fieldLink RX0 9 RX0 (TX0 0).2.1 (TX0 0).2.2.1 ∈ wsG := wsG_i 59 (by decide +kernel) rfl
theorem kf_X0_15 : Jvm.Cond.fieldLink RX0 15 RX0 (TX0 1).2.1 (TX0 1).2.2.1 ∈ wsG := wsG_i 60 (by decide +kernel) rfl
theorem kf_X0_18 : Jvm.Cond.fieldLink RX0 18 RX0 (TX0 2).2.1 (TX0 2).2.2.1 ∈ wsG := wsG_i 61 (by decide +kernel) rfl
theorem kf_X0_21 : Jvm.Cond.fieldLink RX0 21 RX0 (TX0 3).2.1 (TX0 3).2.2.1 ∈ wsG := wsG_i 62 (by decide +kernel) rfl
theorem kf_X0_25 : Jvm.Cond.fieldLink RX0 25 RX0 (TX0 4).2.1 (TX0 4).2.2.1 ∈ wsG := wsG_i 64 (by decide +kernel) rfl
theorem kl_X0_34 : Jvm.Cond.methodLink RX0 34 yX0_leaf ∈ wsG := wsG_i 573 (by decide +kernel) rfl
theorem kB_X0_leaf : BOK yX0_leaf cX0_leaf 3 (some .long) 3 := ⟨wsG_i 575 (by decide +kernel) rfl, wsG_i 26 (by decide +kernel) rfl, by decide +kernel, by decide +kernel, by decide +kernel⟩
theorem kS_X0_leaf : Jvm.Cond.static yX0_leaf ∈ wsG := wsG_i 574 (by decide +kernel) rfl
theorem kl_X0_38 : Jvm.Cond.methodLink RX0 38 yX0_operate ∈ wsG := wsG_i 577 (by decide +kernel) rfl
theorem kB_X0_operate : BOK yX0_operate cX0_operate 3 (some .long) 3 := ⟨wsG_i 579 (by decide +kernel) rfl, wsG_i 26 (by decide +kernel) rfl, by decide +kernel, by decide +kernel, by decide +kernel⟩
theorem kS_X0_operate : Jvm.Cond.static yX0_operate ∈ wsG := wsG_i 578 (by decide +kernel) rfl
theorem kc_X0_42 : Jvm.Cond.constantLong RX0 42 (4294967296) ∈ wsG := wsG_i 576 (by decide +kernel) rfl
theorem kl_X0_44 : Jvm.Cond.methodLink RX0 44 yX0_divide ∈ wsG := wsG_i 580 (by decide +kernel) rfl
theorem kB_X0_divide : BOK yX0_divide cX0_divide 2 (some .int) 2 := ⟨wsG_i 582 (by decide +kernel) rfl, wsG_i 26 (by decide +kernel) rfl, by decide +kernel, by decide +kernel, by decide +kernel⟩
theorem kS_X0_divide : Jvm.Cond.static yX0_divide ∈ wsG := wsG_i 581 (by decide +kernel) rfl
theorem kl_X0_48 : Jvm.Cond.methodLink RX0 48 Lib.Math.min.name ∈ wsG := wsG_i 583 (by decide +kernel) rfl
theorem kS_Math_min : Jvm.Cond.static Lib.Math.min.name ∈ wsG := wsG_i 584 (by decide +kernel) rfl
theorem kl_X0_53 : Jvm.Cond.methodLink RX0 53 Lib.Math.max.name ∈ wsG := wsG_i 586 (by decide +kernel) rfl
theorem kS_Math_max : Jvm.Cond.static Lib.Math.max.name ∈ wsG := wsG_i 587 (by decide +kernel) rfl
theorem kl_X0_56 : Jvm.Cond.methodLink RX0 56 yJ9_floorMod_7cf53 ∈ wsG := wsG_i 589 (by decide +kernel) rfl
theorem kB_J9_floorMod_7cf53 : BOK yJ9_floorMod_7cf53 cJ9_floorMod_7cf53 3 (some .int) 2 := ⟨wsG_i 554 (by decide +kernel) rfl, wsG_i 42 (by decide +kernel) rfl, by decide +kernel, by decide +kernel, by decide +kernel⟩
theorem kS_J9_floorMod_7cf53 : Jvm.Cond.static yJ9_floorMod_7cf53 ∈ wsG := wsG_i 553 (by decide +kernel) rfl
theorem kf_X1_9 : Jvm.Cond.fieldLink RX1 9 RX1 (TX1 0).2.1 (TX1 0).2.2.1 ∈ wsG := wsG_i 189 (by decide +kernel) rfl
theorem kf_X1_15 : Jvm.Cond.fieldLink RX1 15 RX1 (TX1 1).2.1 (TX1 1).2.2.1 ∈ wsG := wsG_i 191 (by decide +kernel) rfl
theorem kf_X1_18 : Jvm.Cond.fieldLink RX1 18 RX1 (TX1 2).2.1 (TX1 2).2.2.1 ∈ wsG := wsG_i 193 (by decide +kernel) rfl
theorem kf_X1_21 : Jvm.Cond.fieldLink RX1 21 RX1 (TX1 3).2.1 (TX1 3).2.2.1 ∈ wsG := wsG_i 195 (by decide +kernel) rfl
theorem kl_X1_25 : Jvm.Cond.methodLink RX1 25 yX3_lineUpReaders ∈ wsG := wsG_i 613 (by decide +kernel) rfl
theorem kB_X3_lineUpReaders : BOK yX3_lineUpReaders cX3_lineUpReaders 7 (some .int) 2 := ⟨wsG_i 616 (by decide +kernel) rfl, wsG_i 27 (by decide +kernel) rfl, by decide +kernel, by decide +kernel, by decide +kernel⟩
theorem kI_X3_lineUpReaders : Jvm.Cond.instanceMethod yX3_lineUpReaders ∈ wsG := wsG_i 614 (by decide +kernel) rfl
theorem kV_X3_lineUpReaders : Jvm.Cond.selects RX3 yX3_lineUpReaders yX3_lineUpReaders ∈ wsG := wsG_i 615 (by decide +kernel) rfl
theorem kf_X1_31 : Jvm.Cond.fieldLink RX1 31 RX1 (TX1 4).2.1 (TX1 4).2.2.1 ∈ wsG := wsG_i 197 (by decide +kernel) rfl
theorem kl_X1_34 : Jvm.Cond.methodLinkNest RX1 34 yX5_has "Gridprobe" ∈ gNw := by decide +kernel
theorem kf_X2_9 : Jvm.Cond.fieldLink RX2 9 RX2 (TX2 0).2.1 (TX2 0).2.2.1 ∈ wsG := wsG_i 133 (by decide +kernel) rfl
theorem kf_X2_15 : Jvm.Cond.fieldLink RX2 15 RX2 (TX2 1).2.1 (TX2 1).2.2.1 ∈ wsG := wsG_i 134 (by decide +kernel) rfl
theorem kf_X2_18 : Jvm.Cond.fieldLink RX2 18 RX2 (TX2 2).2.1 (TX2 2).2.2.1 ∈ wsG := wsG_i 135 (by decide +kernel) rfl
theorem kl_X2_22 : Jvm.Cond.methodLink RX2 22 yX2_holds ∈ wsG := wsG_i 559 (by decide +kernel) rfl
theorem kB_X2_holds : BOK yX2_holds cX2_holds 8 (some .boolean) 4 := ⟨wsG_i 562 (by decide +kernel) rfl, wsG_i 28 (by decide +kernel) rfl, by decide +kernel, by decide +kernel, by decide +kernel⟩
theorem kI_X2_holds : Jvm.Cond.instanceMethod yX2_holds ∈ wsG := wsG_i 560 (by decide +kernel) rfl
theorem kV_X2_holds : Jvm.Cond.selects RX2 yX2_holds yX2_holds ∈ wsG := wsG_i 561 (by decide +kernel) rfl
theorem kl_X2_26 : Jvm.Cond.methodLink RX2 26 yX3_reckon ∈ wsG := wsG_i 563 (by decide +kernel) rfl
theorem kc_X2_32 : Jvm.Cond.constantLong RX2 32 (4294967296) ∈ wsG := wsG_i 590 (by decide +kernel) rfl
theorem kl_X2_34 : Jvm.Cond.methodLink RX2 34 yX2_rises ∈ wsG := wsG_i 591 (by decide +kernel) rfl
theorem kB_X2_rises : BOK yX2_rises cX2_rises 8 (some .boolean) 5 := ⟨wsG_i 593 (by decide +kernel) rfl, wsG_i 28 (by decide +kernel) rfl, by decide +kernel, by decide +kernel, by decide +kernel⟩
theorem kS_X2_rises : Jvm.Cond.static yX2_rises ∈ wsG := wsG_i 592 (by decide +kernel) rfl
theorem kl_X2_38 : Jvm.Cond.methodLink RX2 38 yX3_isInput ∈ wsG := wsG_i 594 (by decide +kernel) rfl
theorem kf_X2_42 : Jvm.Cond.fieldLink RX2 42 RX3 (TX3 2).2.1 (TX3 2).2.2.1 ∈ wsG := wsG_i 93 (by decide +kernel) rfl
theorem kf_X3_11 : Jvm.Cond.fieldLink RX3 11 RX3 (TX3 0).2.1 (TX3 0).2.2.1 ∈ wsG := wsG_i 88 (by decide +kernel) rfl
theorem kf_X3_17 : Jvm.Cond.fieldLink RX3 17 RX3 (TX3 1).2.1 (TX3 1).2.2.1 ∈ wsG := wsG_i 89 (by decide +kernel) rfl
theorem kf_X3_21 : Jvm.Cond.fieldLink RX3 21 RX3 (TX3 2).2.1 (TX3 2).2.2.1 ∈ wsG := wsG_i 92 (by decide +kernel) rfl
theorem kf_X3_24 : Jvm.Cond.fieldLink RX3 24 RX3 (TX3 3).2.1 (TX3 3).2.2.1 ∈ wsG := wsG_i 96 (by decide +kernel) rfl
theorem kf_X3_27 : Jvm.Cond.fieldLink RX3 27 RX3 (TX3 4).2.1 (TX3 4).2.2.1 ∈ wsG := wsG_i 98 (by decide +kernel) rfl
theorem kf_X3_30 : Jvm.Cond.fieldLink RX3 30 RX3 (TX3 5).2.1 (TX3 5).2.2.1 ∈ wsG := wsG_i 100 (by decide +kernel) rfl
theorem kf_X3_33 : Jvm.Cond.fieldLink RX3 33 RX3 (TX3 6).2.1 (TX3 6).2.2.1 ∈ wsG := wsG_i 102 (by decide +kernel) rfl
theorem kf_X3_36 : Jvm.Cond.fieldLink RX3 36 RX3 (TX3 7).2.1 (TX3 7).2.2.1 ∈ wsG := wsG_i 103 (by decide +kernel) rfl
theorem kc_X3_40 : Jvm.Cond.constant RX3 40 (65535) ∈ wsG := wsG_i 86 (by decide +kernel) rfl
theorem kf_X3_41 : Jvm.Cond.fieldLink RX3 41 RX3 (TX3 8).2.1 (TX3 8).2.2.1 ∈ wsG := wsG_i 104 (by decide +kernel) rfl
theorem kl_X3_45 : Jvm.Cond.methodLinkNest RX3 45 yX0_init "Gridprobe" ∈ gNw := by decide +kernel
theorem kl_X3_46 : Jvm.Cond.methodLinkNest RX3 46 yX5_has "Gridprobe" ∈ gNw := by decide +kernel
theorem kl_X3_50 : Jvm.Cond.methodLink RX3 50 yX3_arrange ∈ wsG := wsG_i 458 (by decide +kernel) rfl
theorem kB_X3_arrange : BOK yX3_arrange cX3_arrange 5 none 0 := ⟨wsG_i 461 (by decide +kernel) rfl, wsG_i 27 (by decide +kernel) rfl, by decide +kernel, by decide +kernel, by decide +kernel⟩
theorem kI_X3_arrange : Jvm.Cond.instanceMethod yX3_arrange ∈ wsG := wsG_i 460 (by decide +kernel) rfl
theorem kV_X3_arrange : Jvm.Cond.selects RX3 yX3_arrange yX3_arrange ∈ wsG := wsG_i 3 (by decide +kernel) rfl
theorem kl_X3_53 : Jvm.Cond.methodLink RX3 53 yX0_copyFrom ∈ wsG := wsG_i 451 (by decide +kernel) rfl
theorem kB_X0_copyFrom : BOK yX0_copyFrom cX0_copyFrom 2 none 1 := ⟨wsG_i 454 (by decide +kernel) rfl, wsG_i 26 (by decide +kernel) rfl, by decide +kernel, by decide +kernel, by decide +kernel⟩
theorem kI_X0_copyFrom : Jvm.Cond.instanceMethod yX0_copyFrom ∈ wsG := wsG_i 452 (by decide +kernel) rfl
theorem kV_X0_copyFrom : Jvm.Cond.selects RX0 yX0_copyFrom yX0_copyFrom ∈ wsG := wsG_i 453 (by decide +kernel) rfl
theorem kl_X3_57 : Jvm.Cond.methodLink RX3 57 yX0_readSet ∈ wsG := wsG_i 438 (by decide +kernel) rfl
theorem kB_X0_readSet : BOK yX0_readSet cX0_readSet 3 (some .int) 0 := ⟨wsG_i 441 (by decide +kernel) rfl, wsG_i 26 (by decide +kernel) rfl, by decide +kernel, by decide +kernel, by decide +kernel⟩
theorem kI_X0_readSet : Jvm.Cond.instanceMethod yX0_readSet ∈ wsG := wsG_i 439 (by decide +kernel) rfl
theorem kV_X0_readSet : Jvm.Cond.selects RX0 yX0_readSet yX0_readSet ∈ wsG := wsG_i 440 (by decide +kernel) rfl
theorem kl_X3_61 : Jvm.Cond.methodLink RX3 61 yX3_restedOnThrough ∈ wsG := wsG_i 442 (by decide +kernel) rfl
theorem kB_X3_restedOnThrough : BOK yX3_restedOnThrough cX3_restedOnThrough 4 (some .int) 1 := ⟨wsG_i 445 (by decide +kernel) rfl, wsG_i 27 (by decide +kernel) rfl, by decide +kernel, by decide +kernel, by decide +kernel⟩
theorem kI_X3_restedOnThrough : Jvm.Cond.instanceMethod yX3_restedOnThrough ∈ wsG := wsG_i 444 (by decide +kernel) rfl
theorem kV_X3_restedOnThrough : Jvm.Cond.selects RX3 yX3_restedOnThrough yX3_restedOnThrough ∈ wsG := wsG_i 2 (by decide +kernel) rfl
theorem kc_X3_65 : Jvm.Cond.constantLong RX3 65 (4294967296) ∈ wsG := wsG_i 567 (by decide +kernel) rfl
theorem kl_X3_67 : Jvm.Cond.methodLink RX3 67 yX3_isInput ∈ wsG := wsG_i 568 (by decide +kernel) rfl
theorem kl_X3_71 : Jvm.Cond.methodLink RX3 71 yX0_reckon ∈ wsG := wsG_i 569 (by decide +kernel) rfl
theorem kB_X0_reckon : BOK yX0_reckon cX0_reckon 6 (some .long) 1 := ⟨wsG_i 572 (by decide +kernel) rfl, wsG_i 26 (by decide +kernel) rfl, by decide +kernel, by decide +kernel, by decide +kernel⟩
theorem kI_X0_reckon : Jvm.Cond.instanceMethod yX0_reckon ∈ wsG := wsG_i 570 (by decide +kernel) rfl
theorem kV_X0_reckon : Jvm.Cond.selects RX0 yX0_reckon yX0_reckon ∈ wsG := wsG_i 571 (by decide +kernel) rfl
theorem kf_X4_9 : Jvm.Cond.fieldLink RX4 9 RX4 (TX4 0).2.1 (TX4 0).2.2.1 ∈ wsG := wsG_i 152 (by decide +kernel) rfl
theorem kf_X4_15 : Jvm.Cond.fieldLink RX4 15 RX4 (TX4 1).2.1 (TX4 1).2.2.1 ∈ wsG := wsG_i 153 (by decide +kernel) rfl
theorem kf_X4_18 : Jvm.Cond.fieldLink RX4 18 RX4 (TX4 2).2.1 (TX4 2).2.2.1 ∈ wsG := wsG_i 155 (by decide +kernel) rfl
theorem kf_X4_21 : Jvm.Cond.fieldLink RX4 21 RX4 (TX4 3).2.1 (TX4 3).2.2.1 ∈ wsG := wsG_i 157 (by decide +kernel) rfl
theorem kf_X4_26 : Jvm.Cond.fieldLink RX4 26 RX4 (TX4 4).2.1 (TX4 4).2.2.1 ∈ wsG := wsG_i 159 (by decide +kernel) rfl
theorem kf_X4_29 : Jvm.Cond.fieldLink RX4 29 RX4 (TX4 5).2.1 (TX4 5).2.2.1 ∈ wsG := wsG_i 161 (by decide +kernel) rfl
theorem kl_X4_33 : Jvm.Cond.methodLink RX4 33 yJ6_bitCount_0f7a4 ∈ wsG := wsG_i 474 (by decide +kernel) rfl
theorem kf_X4_39 : Jvm.Cond.fieldLink RX4 39 RX4 (TX4 7).2.1 (TX4 7).2.2.1 ∈ wsG := wsG_i 165 (by decide +kernel) rfl
theorem kl_X4_42 : Jvm.Cond.methodLink RX4 42 yX4_fillRow ∈ wsG := wsG_i 543 (by decide +kernel) rfl
theorem kB_X4_fillRow : BOK yX4_fillRow cX4_fillRow 4 none 2 := ⟨wsG_i 546 (by decide +kernel) rfl, wsG_i 29 (by decide +kernel) rfl, by decide +kernel, by decide +kernel, by decide +kernel⟩
theorem kI_X4_fillRow : Jvm.Cond.instanceMethod yX4_fillRow ∈ wsG := wsG_i 545 (by decide +kernel) rfl
theorem kV_X4_fillRow : Jvm.Cond.selects RX4 yX4_fillRow yX4_fillRow ∈ wsG := wsG_i 5 (by decide +kernel) rfl
theorem kl_X4_46 : Jvm.Cond.methodLink RX4 46 yX2_firstBroken ∈ wsG := wsG_i 555 (by decide +kernel) rfl
theorem kB_X2_firstBroken : BOK yX2_firstBroken cX2_firstBroken 5 (some .int) 3 := ⟨wsG_i 558 (by decide +kernel) rfl, wsG_i 28 (by decide +kernel) rfl, by decide +kernel, by decide +kernel, by decide +kernel⟩
theorem kI_X2_firstBroken : Jvm.Cond.instanceMethod yX2_firstBroken ∈ wsG := wsG_i 556 (by decide +kernel) rfl
theorem kV_X2_firstBroken : Jvm.Cond.selects RX2 yX2_firstBroken yX2_firstBroken ∈ wsG := wsG_i 557 (by decide +kernel) rfl
theorem kl_X4_52 : Jvm.Cond.methodLink RX4 52 yX4_makeSmaller ∈ wsG := wsG_i 595 (by decide +kernel) rfl
theorem kB_X4_makeSmaller : BOK yX4_makeSmaller cX4_makeSmaller 6 (some .int) 4 := ⟨wsG_i 598 (by decide +kernel) rfl, wsG_i 29 (by decide +kernel) rfl, by decide +kernel, by decide +kernel, by decide +kernel⟩
theorem kI_X4_makeSmaller : Jvm.Cond.instanceMethod yX4_makeSmaller ∈ wsG := wsG_i 597 (by decide +kernel) rfl
theorem kV_X4_makeSmaller : Jvm.Cond.selects RX4 yX4_makeSmaller yX4_makeSmaller ∈ wsG := wsG_i 7 (by decide +kernel) rfl
theorem kf_X4_56 : Jvm.Cond.fieldLink RX4 56 RX3 (TX3 8).2.1 (TX3 8).2.2.1 ∈ wsG := wsG_i 105 (by decide +kernel) rfl
theorem kl_X4_61 : Jvm.Cond.methodLink RX4 61 yX4_keepFailed ∈ wsG := wsG_i 604 (by decide +kernel) rfl
theorem kB_X4_keepFailed : BOK yX4_keepFailed cX4_keepFailed 5 none 4 := ⟨wsG_i 607 (by decide +kernel) rfl, wsG_i 29 (by decide +kernel) rfl, by decide +kernel, by decide +kernel, by decide +kernel⟩
theorem kI_X4_keepFailed : Jvm.Cond.instanceMethod yX4_keepFailed ∈ wsG := wsG_i 606 (by decide +kernel) rfl
theorem kV_X4_keepFailed : Jvm.Cond.selects RX4 yX4_keepFailed yX4_keepFailed ∈ wsG := wsG_i 9 (by decide +kernel) rfl
theorem kf_X4_65 : Jvm.Cond.fieldLink RX4 65 RX4 (TX4 6).2.1 (TX4 6).2.2.1 ∈ wsG := wsG_i 163 (by decide +kernel) rfl
theorem kl_X4_74 : Jvm.Cond.methodLink RX4 74 yX3_isInput ∈ wsG := wsG_i 547 (by decide +kernel) rfl
theorem kf_X4_78 : Jvm.Cond.fieldLink RX4 78 RX3 (TX3 1).2.1 (TX3 1).2.2.1 ∈ wsG := wsG_i 90 (by decide +kernel) rfl
theorem kf_X4_81 : Jvm.Cond.fieldLink RX4 81 RX3 (TX3 2).2.1 (TX3 2).2.2.1 ∈ wsG := wsG_i 94 (by decide +kernel) rfl
theorem kl_X4_84 : Jvm.Cond.methodLink RX4 84 yX4_rowValue ∈ wsG := wsG_i 548 (by decide +kernel) rfl
theorem kB_X4_rowValue : BOK yX4_rowValue cX4_rowValue 5 (some .int) 3 := ⟨wsG_i 551 (by decide +kernel) rfl, wsG_i 29 (by decide +kernel) rfl, by decide +kernel, by decide +kernel, by decide +kernel⟩
theorem kI_X4_rowValue : Jvm.Cond.instanceMethod yX4_rowValue ∈ wsG := wsG_i 550 (by decide +kernel) rfl
theorem kV_X4_rowValue : Jvm.Cond.selects RX4 yX4_rowValue yX4_rowValue ∈ wsG := wsG_i 6 (by decide +kernel) rfl
theorem kl_X4_88 : Jvm.Cond.methodLink RX4 88 yJ9_floorMod_7cf53 ∈ wsG := wsG_i 552 (by decide +kernel) rfl
theorem kl_X4_94 : Jvm.Cond.methodLink RX4 94 yX4_stepSmaller ∈ wsG := wsG_i 599 (by decide +kernel) rfl
theorem kB_X4_stepSmaller : BOK yX4_stepSmaller cX4_stepSmaller 7 (some .boolean) 4 := ⟨wsG_i 602 (by decide +kernel) rfl, wsG_i 29 (by decide +kernel) rfl, by decide +kernel, by decide +kernel, by decide +kernel⟩
theorem kI_X4_stepSmaller : Jvm.Cond.instanceMethod yX4_stepSmaller ∈ wsG := wsG_i 601 (by decide +kernel) rfl
theorem kV_X4_stepSmaller : Jvm.Cond.selects RX4 yX4_stepSmaller yX4_stepSmaller ∈ wsG := wsG_i 8 (by decide +kernel) rfl
theorem kl_X4_98 : Jvm.Cond.methodLink RX4 98 yX2_holds ∈ wsG := wsG_i 603 (by decide +kernel) rfl
theorem kl_L_7 : Jvm.Cond.methodLink RL 7 yX5_number ∈ wsG := wsG_i 275 (by decide +kernel) rfl
theorem kB_X5_number : BOK yX5_number cX5_number 2 (some .int) 1 := ⟨wsG_i 278 (by decide +kernel) rfl, wsG_i 25 (by decide +kernel) rfl, by decide +kernel, by decide +kernel, by decide +kernel⟩
theorem kI_X5_number : Jvm.Cond.instanceMethod yX5_number ∈ wsG := wsG_i 276 (by decide +kernel) rfl
theorem kV_X5_number : Jvm.Cond.selects RX5 yX5_number yX5_number ∈ wsG := wsG_i 277 (by decide +kernel) rfl
theorem kl_L_15 : Jvm.Cond.methodLink RL 15 yX5_cell ∈ wsG := wsG_i 381 (by decide +kernel) rfl
theorem kB_X5_cell : BOK yX5_cell cX5_cell 2 (some .int) 1 := ⟨wsG_i 384 (by decide +kernel) rfl, wsG_i 25 (by decide +kernel) rfl, by decide +kernel, by decide +kernel, by decide +kernel⟩
theorem kI_X5_cell : Jvm.Cond.instanceMethod yX5_cell ∈ wsG := wsG_i 382 (by decide +kernel) rfl
theorem kV_X5_cell : Jvm.Cond.selects RX5 yX5_cell yX5_cell ∈ wsG := wsG_i 383 (by decide +kernel) rfl
theorem kl_L_20 : Jvm.Cond.methodLink RL 20 yX5_apply ∈ wsG := wsG_i 405 (by decide +kernel) rfl
theorem kB_X5_apply : BOK yX5_apply cX5_apply 2 (some .int) 1 := ⟨wsG_i 408 (by decide +kernel) rfl, wsG_i 25 (by decide +kernel) rfl, by decide +kernel, by decide +kernel, by decide +kernel⟩
theorem kI_X5_apply : Jvm.Cond.instanceMethod yX5_apply ∈ wsG := wsG_i 406 (by decide +kernel) rfl
theorem kV_X5_apply : Jvm.Cond.selects RX5 yX5_apply yX5_apply ∈ wsG := wsG_i 407 (by decide +kernel) rfl
theorem kl_L_25 : Jvm.Cond.methodLink RL 25 yX5_enter ∈ wsG := wsG_i 429 (by decide +kernel) rfl
theorem kB_X5_enter : BOK yX5_enter cX5_enter 2 (some .int) 1 := ⟨wsG_i 432 (by decide +kernel) rfl, wsG_i 25 (by decide +kernel) rfl, by decide +kernel, by decide +kernel, by decide +kernel⟩
theorem kI_X5_enter : Jvm.Cond.instanceMethod yX5_enter ∈ wsG := wsG_i 430 (by decide +kernel) rfl
theorem kV_X5_enter : Jvm.Cond.selects RX5 yX5_enter yX5_enter ∈ wsG := wsG_i 431 (by decide +kernel) rfl
theorem kl_L_28 : Jvm.Cond.methodLink RL 28 yX5_input ∈ wsG := wsG_i 478 (by decide +kernel) rfl
theorem kB_X5_input : BOK yX5_input cX5_input 4 (some .int) 3 := ⟨wsG_i 481 (by decide +kernel) rfl, wsG_i 25 (by decide +kernel) rfl, by decide +kernel, by decide +kernel, by decide +kernel⟩
theorem kI_X5_input : Jvm.Cond.instanceMethod yX5_input ∈ wsG := wsG_i 479 (by decide +kernel) rfl
theorem kV_X5_input : Jvm.Cond.selects RX5 yX5_input yX5_input ∈ wsG := wsG_i 480 (by decide +kernel) rfl
theorem kl_L_32 : Jvm.Cond.methodLink RL 32 yX5_set ∈ wsG := wsG_i 492 (by decide +kernel) rfl
theorem kB_X5_set : BOK yX5_set cX5_set 4 (some .int) 2 := ⟨wsG_i 495 (by decide +kernel) rfl, wsG_i 25 (by decide +kernel) rfl, by decide +kernel, by decide +kernel, by decide +kernel⟩
theorem kI_X5_set : Jvm.Cond.instanceMethod yX5_set ∈ wsG := wsG_i 493 (by decide +kernel) rfl
theorem kV_X5_set : Jvm.Cond.selects RX5 yX5_set yX5_set ∈ wsG := wsG_i 494 (by decide +kernel) rfl
theorem kl_L_36 : Jvm.Cond.methodLink RL 36 yX5_tell ∈ wsG := wsG_i 505 (by decide +kernel) rfl
theorem kB_X5_tell : BOK yX5_tell cX5_tell 4 (some .int) 3 := ⟨wsG_i 508 (by decide +kernel) rfl, wsG_i 25 (by decide +kernel) rfl, by decide +kernel, by decide +kernel, by decide +kernel⟩
theorem kI_X5_tell : Jvm.Cond.instanceMethod yX5_tell ∈ wsG := wsG_i 506 (by decide +kernel) rfl
theorem kV_X5_tell : Jvm.Cond.selects RX5 yX5_tell yX5_tell ∈ wsG := wsG_i 507 (by decide +kernel) rfl
theorem kl_L_39 : Jvm.Cond.methodLink RL 39 yX5_drop ∈ wsG := wsG_i 518 (by decide +kernel) rfl
theorem kB_X5_drop : BOK yX5_drop cX5_drop 3 (some .int) 1 := ⟨wsG_i 521 (by decide +kernel) rfl, wsG_i 25 (by decide +kernel) rfl, by decide +kernel, by decide +kernel, by decide +kernel⟩
theorem kI_X5_drop : Jvm.Cond.instanceMethod yX5_drop ∈ wsG := wsG_i 519 (by decide +kernel) rfl
theorem kV_X5_drop : Jvm.Cond.selects RX5 yX5_drop yX5_drop ∈ wsG := wsG_i 520 (by decide +kernel) rfl
theorem kl_L_42 : Jvm.Cond.methodLink RL 42 yX5_own ∈ wsG := wsG_i 525 (by decide +kernel) rfl
theorem kB_X5_own : BOK yX5_own cX5_own 4 (some .int) 2 := ⟨wsG_i 528 (by decide +kernel) rfl, wsG_i 25 (by decide +kernel) rfl, by decide +kernel, by decide +kernel, by decide +kernel⟩
theorem kI_X5_own : Jvm.Cond.instanceMethod yX5_own ∈ wsG := wsG_i 526 (by decide +kernel) rfl
theorem kV_X5_own : Jvm.Cond.selects RX5 yX5_own yX5_own ∈ wsG := wsG_i 527 (by decide +kernel) rfl
theorem kl_L_45 : Jvm.Cond.methodLink RL 45 yX5_attempt ∈ wsG := wsG_i 533 (by decide +kernel) rfl
theorem kB_X5_attempt : BOK yX5_attempt cX5_attempt 7 (some .int) 3 := ⟨wsG_i 536 (by decide +kernel) rfl, wsG_i 25 (by decide +kernel) rfl, by decide +kernel, by decide +kernel, by decide +kernel⟩
theorem kI_X5_attempt : Jvm.Cond.instanceMethod yX5_attempt ∈ wsG := wsG_i 534 (by decide +kernel) rfl
theorem kV_X5_attempt : Jvm.Cond.selects RX5 yX5_attempt yX5_attempt ∈ wsG := wsG_i 535 (by decide +kernel) rfl
theorem kl_L_48 : Jvm.Cond.methodLink RL 48 yX5_waive ∈ wsG := wsG_i 621 (by decide +kernel) rfl
theorem kB_X5_waive : BOK yX5_waive cX5_waive 4 (some .int) 3 := ⟨wsG_i 624 (by decide +kernel) rfl, wsG_i 25 (by decide +kernel) rfl, by decide +kernel, by decide +kernel, by decide +kernel⟩
theorem kI_X5_waive : Jvm.Cond.instanceMethod yX5_waive ∈ wsG := wsG_i 622 (by decide +kernel) rfl
theorem kV_X5_waive : Jvm.Cond.selects RX5 yX5_waive yX5_waive ∈ wsG := wsG_i 623 (by decide +kernel) rfl
theorem kl_L_51 : Jvm.Cond.methodLink RL 51 yX5_pass ∈ wsG := wsG_i 630 (by decide +kernel) rfl
theorem kB_X5_pass : BOK yX5_pass cX5_pass 2 (some .int) 1 := ⟨wsG_i 633 (by decide +kernel) rfl, wsG_i 25 (by decide +kernel) rfl, by decide +kernel, by decide +kernel, by decide +kernel⟩
theorem kI_X5_pass : Jvm.Cond.instanceMethod yX5_pass ∈ wsG := wsG_i 631 (by decide +kernel) rfl
theorem kV_X5_pass : Jvm.Cond.selects RX5 yX5_pass yX5_pass ∈ wsG := wsG_i 632 (by decide +kernel) rfl
theorem kl_L_54 : Jvm.Cond.methodLink RL 54 yX5_reads ∈ wsG := wsG_i 639 (by decide +kernel) rfl
theorem kB_X5_reads : BOK yX5_reads cX5_reads 2 (some .int) 1 := ⟨wsG_i 642 (by decide +kernel) rfl, wsG_i 25 (by decide +kernel) rfl, by decide +kernel, by decide +kernel, by decide +kernel⟩
theorem kI_X5_reads : Jvm.Cond.instanceMethod yX5_reads ∈ wsG := wsG_i 640 (by decide +kernel) rfl
theorem kV_X5_reads : Jvm.Cond.selects RX5 yX5_reads yX5_reads ∈ wsG := wsG_i 641 (by decide +kernel) rfl
theorem kl_L_57 : Jvm.Cond.methodLink RL 57 yX5_rests ∈ wsG := wsG_i 646 (by decide +kernel) rfl
theorem kB_X5_rests : BOK yX5_rests cX5_rests 2 (some .int) 1 := ⟨wsG_i 649 (by decide +kernel) rfl, wsG_i 25 (by decide +kernel) rfl, by decide +kernel, by decide +kernel, by decide +kernel⟩
theorem kI_X5_rests : Jvm.Cond.instanceMethod yX5_rests ∈ wsG := wsG_i 647 (by decide +kernel) rfl
theorem kV_X5_rests : Jvm.Cond.selects RX5 yX5_rests yX5_rests ∈ wsG := wsG_i 648 (by decide +kernel) rfl
theorem kl_L_60 : Jvm.Cond.methodLink RL 60 yX5_show ∈ wsG := wsG_i 667 (by decide +kernel) rfl
theorem kB_X5_show : BOK yX5_show cX5_show 4 (some .int) 1 := ⟨wsG_i 670 (by decide +kernel) rfl, wsG_i 25 (by decide +kernel) rfl, by decide +kernel, by decide +kernel, by decide +kernel⟩
theorem kI_X5_show : Jvm.Cond.instanceMethod yX5_show ∈ wsG := wsG_i 668 (by decide +kernel) rfl
theorem kV_X5_show : Jvm.Cond.selects RX5 yX5_show yX5_show ∈ wsG := wsG_i 669 (by decide +kernel) rfl
theorem kl_L_65 : Jvm.Cond.methodLink RL 65 yX5_verdict ∈ wsG := wsG_i 680 (by decide +kernel) rfl
theorem kB_X5_verdict : BOK yX5_verdict cX5_verdict 2 (some .int) 1 := ⟨wsG_i 683 (by decide +kernel) rfl, wsG_i 25 (by decide +kernel) rfl, by decide +kernel, by decide +kernel, by decide +kernel⟩
theorem kI_X5_verdict : Jvm.Cond.instanceMethod yX5_verdict ∈ wsG := wsG_i 681 (by decide +kernel) rfl
theorem kV_X5_verdict : Jvm.Cond.selects RX5 yX5_verdict yX5_verdict ∈ wsG := wsG_i 682 (by decide +kernel) rfl
theorem kl_L_68 : Jvm.Cond.methodLink RL 68 yX5_failing ∈ wsG := wsG_i 687 (by decide +kernel) rfl
theorem kB_X5_failing : BOK yX5_failing cX5_failing 2 (some .int) 1 := ⟨wsG_i 690 (by decide +kernel) rfl, wsG_i 25 (by decide +kernel) rfl, by decide +kernel, by decide +kernel, by decide +kernel⟩
theorem kI_X5_failing : Jvm.Cond.instanceMethod yX5_failing ∈ wsG := wsG_i 688 (by decide +kernel) rfl
theorem kV_X5_failing : Jvm.Cond.selects RX5 yX5_failing yX5_failing ∈ wsG := wsG_i 689 (by decide +kernel) rfl
theorem kl_L_71 : Jvm.Cond.methodLink RL 71 yX5_example ∈ wsG := wsG_i 695 (by decide +kernel) rfl
theorem kB_X5_example : BOK yX5_example cX5_example 3 (some .int) 2 := ⟨wsG_i 698 (by decide +kernel) rfl, wsG_i 25 (by decide +kernel) rfl, by decide +kernel, by decide +kernel, by decide +kernel⟩
theorem kI_X5_example : Jvm.Cond.instanceMethod yX5_example ∈ wsG := wsG_i 696 (by decide +kernel) rfl
theorem kV_X5_example : Jvm.Cond.selects RX5 yX5_example yX5_example ∈ wsG := wsG_i 697 (by decide +kernel) rfl
theorem kl_L_76 : Jvm.Cond.methodLink RL 76 yX5_smaller ∈ wsG := wsG_i 718 (by decide +kernel) rfl
theorem kB_X5_smaller : BOK yX5_smaller cX5_smaller 2 (some .int) 1 := ⟨wsG_i 721 (by decide +kernel) rfl, wsG_i 25 (by decide +kernel) rfl, by decide +kernel, by decide +kernel, by decide +kernel⟩
theorem kI_X5_smaller : Jvm.Cond.instanceMethod yX5_smaller ∈ wsG := wsG_i 719 (by decide +kernel) rfl
theorem kV_X5_smaller : Jvm.Cond.selects RX5 yX5_smaller yX5_smaller ∈ wsG := wsG_i 720 (by decide +kernel) rfl
theorem kl_L_79 : Jvm.Cond.methodLink RL 79 yX5_isLocked ∈ wsG := wsG_i 725 (by decide +kernel) rfl
theorem kB_X5_isLocked : BOK yX5_isLocked cX5_isLocked 2 (some .boolean) 1 := ⟨wsG_i 728 (by decide +kernel) rfl, wsG_i 25 (by decide +kernel) rfl, by decide +kernel, by decide +kernel, by decide +kernel⟩
theorem kI_X5_isLocked : Jvm.Cond.instanceMethod yX5_isLocked ∈ wsG := wsG_i 726 (by decide +kernel) rfl
theorem kV_X5_isLocked : Jvm.Cond.selects RX5 yX5_isLocked yX5_isLocked ∈ wsG := wsG_i 727 (by decide +kernel) rfl
theorem kl_L_83 : Jvm.Cond.methodLink RL 83 yX5_isLockedByWays ∈ wsG := wsG_i 732 (by decide +kernel) rfl
theorem kB_X5_isLockedByWays : BOK yX5_isLockedByWays cX5_isLockedByWays 2 (some .boolean) 1 := ⟨wsG_i 735 (by decide +kernel) rfl, wsG_i 25 (by decide +kernel) rfl, by decide +kernel, by decide +kernel, by decide +kernel⟩
theorem kI_X5_isLockedByWays : Jvm.Cond.instanceMethod yX5_isLockedByWays ∈ wsG := wsG_i 733 (by decide +kernel) rfl
theorem kV_X5_isLockedByWays : Jvm.Cond.selects RX5 yX5_isLockedByWays yX5_isLockedByWays ∈ wsG := wsG_i 734 (by decide +kernel) rfl
theorem kl_L_86 : Jvm.Cond.methodLink RL 86 yX5_isMarked ∈ wsG := wsG_i 743 (by decide +kernel) rfl
theorem kB_X5_isMarked : BOK yX5_isMarked cX5_isMarked 2 (some .boolean) 1 := ⟨wsG_i 746 (by decide +kernel) rfl, wsG_i 25 (by decide +kernel) rfl, by decide +kernel, by decide +kernel, by decide +kernel⟩
theorem kI_X5_isMarked : Jvm.Cond.instanceMethod yX5_isMarked ∈ wsG := wsG_i 744 (by decide +kernel) rfl
theorem kV_X5_isMarked : Jvm.Cond.selects RX5 yX5_isMarked yX5_isMarked ∈ wsG := wsG_i 745 (by decide +kernel) rfl
theorem kl_L_89 : Jvm.Cond.methodLink RL 89 yX5_unlockedAt ∈ wsG := wsG_i 750 (by decide +kernel) rfl
theorem kB_X5_unlockedAt : BOK yX5_unlockedAt cX5_unlockedAt 2 (some .int) 1 := ⟨wsG_i 753 (by decide +kernel) rfl, wsG_i 25 (by decide +kernel) rfl, by decide +kernel, by decide +kernel, by decide +kernel⟩
theorem kI_X5_unlockedAt : Jvm.Cond.instanceMethod yX5_unlockedAt ∈ wsG := wsG_i 751 (by decide +kernel) rfl
theorem kV_X5_unlockedAt : Jvm.Cond.selects RX5 yX5_unlockedAt yX5_unlockedAt ∈ wsG := wsG_i 752 (by decide +kernel) rfl
theorem kl_L_92 : Jvm.Cond.methodLink RL 92 yX5_init ∈ wsG := wsG_i 47 (by decide +kernel) rfl
theorem kB_X5_init : BOK yX5_init cX5_init 2 none 0 := ⟨wsG_i 49 (by decide +kernel) rfl, wsG_i 25 (by decide +kernel) rfl, by decide +kernel, by decide +kernel, by decide +kernel⟩
theorem kI_X5_init : Jvm.Cond.instanceMethod yX5_init ∈ wsG := wsG_i 48 (by decide +kernel) rfl
theorem kl_L_95 : Jvm.Cond.methodLink RL 95 yX6_init ∈ wsG := wsG_i 757 (by decide +kernel) rfl
theorem kB_X6_init : BOK yX6_init cX6_init 2 none 0 := ⟨wsG_i 759 (by decide +kernel) rfl, wsG_i 31 (by decide +kernel) rfl, by decide +kernel, by decide +kernel, by decide +kernel⟩
theorem kI_X6_init : Jvm.Cond.instanceMethod yX6_init ∈ wsG := wsG_i 758 (by decide +kernel) rfl
theorem kl_L_96 : Jvm.Cond.methodLink RL 96 yL_number ∈ wsG := wsG_i 271 (by decide +kernel) rfl
theorem kl_L_101 : Jvm.Cond.methodLink RL 101 yX6_number ∈ wsG := wsG_i 857 (by decide +kernel) rfl
theorem kB_X6_number : BOK yX6_number cX6_number 2 (some .int) 1 := ⟨wsG_i 860 (by decide +kernel) rfl, wsG_i 31 (by decide +kernel) rfl, by decide +kernel, by decide +kernel, by decide +kernel⟩
theorem kI_X6_number : Jvm.Cond.instanceMethod yX6_number ∈ wsG := wsG_i 858 (by decide +kernel) rfl
theorem kV_X6_number : Jvm.Cond.selects RX6 yX6_number yX6_number ∈ wsG := wsG_i 859 (by decide +kernel) rfl
theorem kl_L_102 : Jvm.Cond.methodLink RL 102 yX6_thrown ∈ wsG := wsG_i 853 (by decide +kernel) rfl
theorem kB_X6_thrown : BOK yX6_thrown cX6_thrown 1 (some .int) 0 := ⟨wsG_i 856 (by decide +kernel) rfl, wsG_i 31 (by decide +kernel) rfl, by decide +kernel, by decide +kernel, by decide +kernel⟩
theorem kI_X6_thrown : Jvm.Cond.instanceMethod yX6_thrown ∈ wsG := wsG_i 854 (by decide +kernel) rfl
theorem kV_X6_thrown : Jvm.Cond.selects RX6 yX6_thrown yX6_thrown ∈ wsG := wsG_i 855 (by decide +kernel) rfl
theorem kl_L_106 : Jvm.Cond.methodLink RL 106 yL_cell ∈ wsG := wsG_i 354 (by decide +kernel) rfl
theorem kl_L_108 : Jvm.Cond.methodLink RL 108 yX6_cell ∈ wsG := wsG_i 865 (by decide +kernel) rfl
theorem kB_X6_cell : BOK yX6_cell cX6_cell 2 (some .int) 1 := ⟨wsG_i 868 (by decide +kernel) rfl, wsG_i 31 (by decide +kernel) rfl, by decide +kernel, by decide +kernel, by decide +kernel⟩
theorem kI_X6_cell : Jvm.Cond.instanceMethod yX6_cell ∈ wsG := wsG_i 866 (by decide +kernel) rfl
theorem kV_X6_cell : Jvm.Cond.selects RX6 yX6_cell yX6_cell ∈ wsG := wsG_i 867 (by decide +kernel) rfl
theorem kl_L_109 : Jvm.Cond.methodLink RL 109 yL_apply ∈ wsG := wsG_i 401 (by decide +kernel) rfl
theorem kl_L_111 : Jvm.Cond.methodLink RL 111 yX6_apply ∈ wsG := wsG_i 875 (by decide +kernel) rfl
theorem kB_X6_apply : BOK yX6_apply cX6_apply 2 (some .int) 1 := ⟨wsG_i 878 (by decide +kernel) rfl, wsG_i 31 (by decide +kernel) rfl, by decide +kernel, by decide +kernel, by decide +kernel⟩
theorem kI_X6_apply : Jvm.Cond.instanceMethod yX6_apply ∈ wsG := wsG_i 876 (by decide +kernel) rfl
theorem kV_X6_apply : Jvm.Cond.selects RX6 yX6_apply yX6_apply ∈ wsG := wsG_i 877 (by decide +kernel) rfl
theorem kl_L_112 : Jvm.Cond.methodLink RL 112 yX5_wipe ∈ wsG := wsG_i 226 (by decide +kernel) rfl
theorem kB_X5_wipe : BOK yX5_wipe cX5_wipe 2 (some .int) 0 := ⟨wsG_i 229 (by decide +kernel) rfl, wsG_i 25 (by decide +kernel) rfl, by decide +kernel, by decide +kernel, by decide +kernel⟩
theorem kI_X5_wipe : Jvm.Cond.instanceMethod yX5_wipe ∈ wsG := wsG_i 227 (by decide +kernel) rfl
theorem kV_X5_wipe : Jvm.Cond.selects RX5 yX5_wipe yX5_wipe ∈ wsG := wsG_i 228 (by decide +kernel) rfl
theorem kl_L_115 : Jvm.Cond.methodLink RL 115 yX6_wipe ∈ wsG := wsG_i 879 (by decide +kernel) rfl
theorem kB_X6_wipe : BOK yX6_wipe cX6_wipe 2 (some .int) 0 := ⟨wsG_i 882 (by decide +kernel) rfl, wsG_i 31 (by decide +kernel) rfl, by decide +kernel, by decide +kernel, by decide +kernel⟩
theorem kI_X6_wipe : Jvm.Cond.instanceMethod yX6_wipe ∈ wsG := wsG_i 880 (by decide +kernel) rfl
theorem kV_X6_wipe : Jvm.Cond.selects RX6 yX6_wipe yX6_wipe ∈ wsG := wsG_i 881 (by decide +kernel) rfl
theorem kl_L_116 : Jvm.Cond.methodLink RL 116 yL_enter ∈ wsG := wsG_i 426 (by decide +kernel) rfl
theorem kl_L_118 : Jvm.Cond.methodLink RL 118 yX6_enter ∈ wsG := wsG_i 883 (by decide +kernel) rfl
theorem kB_X6_enter : BOK yX6_enter cX6_enter 4 (some .int) 1 := ⟨wsG_i 886 (by decide +kernel) rfl, wsG_i 31 (by decide +kernel) rfl, by decide +kernel, by decide +kernel, by decide +kernel⟩
theorem kI_X6_enter : Jvm.Cond.instanceMethod yX6_enter ∈ wsG := wsG_i 884 (by decide +kernel) rfl
theorem kV_X6_enter : Jvm.Cond.selects RX6 yX6_enter yX6_enter ∈ wsG := wsG_i 885 (by decide +kernel) rfl
theorem kl_L_119 : Jvm.Cond.methodLink RL 119 yL_input ∈ wsG := wsG_i 475 (by decide +kernel) rfl
theorem kl_L_122 : Jvm.Cond.methodLink RL 122 yX6_input ∈ wsG := wsG_i 907 (by decide +kernel) rfl
theorem kB_X6_input : BOK yX6_input cX6_input 4 (some .int) 3 := ⟨wsG_i 910 (by decide +kernel) rfl, wsG_i 31 (by decide +kernel) rfl, by decide +kernel, by decide +kernel, by decide +kernel⟩
theorem kI_X6_input : Jvm.Cond.instanceMethod yX6_input ∈ wsG := wsG_i 908 (by decide +kernel) rfl
theorem kV_X6_input : Jvm.Cond.selects RX6 yX6_input yX6_input ∈ wsG := wsG_i 909 (by decide +kernel) rfl
theorem kl_L_123 : Jvm.Cond.methodLink RL 123 yL_set ∈ wsG := wsG_i 489 (by decide +kernel) rfl
theorem kl_L_126 : Jvm.Cond.methodLink RL 126 yX6_set ∈ wsG := wsG_i 913 (by decide +kernel) rfl
theorem kB_X6_set : BOK yX6_set cX6_set 4 (some .int) 2 := ⟨wsG_i 916 (by decide +kernel) rfl, wsG_i 31 (by decide +kernel) rfl, by decide +kernel, by decide +kernel, by decide +kernel⟩
theorem kI_X6_set : Jvm.Cond.instanceMethod yX6_set ∈ wsG := wsG_i 914 (by decide +kernel) rfl
theorem kV_X6_set : Jvm.Cond.selects RX6 yX6_set yX6_set ∈ wsG := wsG_i 915 (by decide +kernel) rfl
theorem kl_L_127 : Jvm.Cond.methodLink RL 127 yL_tell ∈ wsG := wsG_i 502 (by decide +kernel) rfl
theorem kl_L_129 : Jvm.Cond.methodLink RL 129 yX6_tell ∈ wsG := wsG_i 917 (by decide +kernel) rfl
theorem kB_X6_tell : BOK yX6_tell cX6_tell 5 (some .int) 3 := ⟨wsG_i 920 (by decide +kernel) rfl, wsG_i 31 (by decide +kernel) rfl, by decide +kernel, by decide +kernel, by decide +kernel⟩
theorem kI_X6_tell : Jvm.Cond.instanceMethod yX6_tell ∈ wsG := wsG_i 918 (by decide +kernel) rfl
theorem kV_X6_tell : Jvm.Cond.selects RX6 yX6_tell yX6_tell ∈ wsG := wsG_i 919 (by decide +kernel) rfl
theorem kl_L_130 : Jvm.Cond.methodLink RL 130 yL_drop ∈ wsG := wsG_i 515 (by decide +kernel) rfl
theorem kl_L_132 : Jvm.Cond.methodLink RL 132 yX6_drop ∈ wsG := wsG_i 921 (by decide +kernel) rfl
theorem kB_X6_drop : BOK yX6_drop cX6_drop 3 (some .int) 1 := ⟨wsG_i 924 (by decide +kernel) rfl, wsG_i 31 (by decide +kernel) rfl, by decide +kernel, by decide +kernel, by decide +kernel⟩
theorem kI_X6_drop : Jvm.Cond.instanceMethod yX6_drop ∈ wsG := wsG_i 922 (by decide +kernel) rfl
theorem kV_X6_drop : Jvm.Cond.selects RX6 yX6_drop yX6_drop ∈ wsG := wsG_i 923 (by decide +kernel) rfl
theorem kl_L_133 : Jvm.Cond.methodLink RL 133 yL_own ∈ wsG := wsG_i 522 (by decide +kernel) rfl
theorem kl_L_135 : Jvm.Cond.methodLink RL 135 yX6_own ∈ wsG := wsG_i 925 (by decide +kernel) rfl
theorem kB_X6_own : BOK yX6_own cX6_own 4 (some .int) 2 := ⟨wsG_i 928 (by decide +kernel) rfl, wsG_i 31 (by decide +kernel) rfl, by decide +kernel, by decide +kernel, by decide +kernel⟩
theorem kI_X6_own : Jvm.Cond.instanceMethod yX6_own ∈ wsG := wsG_i 926 (by decide +kernel) rfl
theorem kV_X6_own : Jvm.Cond.selects RX6 yX6_own yX6_own ∈ wsG := wsG_i 927 (by decide +kernel) rfl
theorem kl_L_136 : Jvm.Cond.methodLink RL 136 yL_attempt ∈ wsG := wsG_i 530 (by decide +kernel) rfl
theorem kl_L_138 : Jvm.Cond.methodLink RL 138 yX6_attempt ∈ wsG := wsG_i 929 (by decide +kernel) rfl
theorem kB_X6_attempt : BOK yX6_attempt cX6_attempt 7 (some .int) 3 := ⟨wsG_i 932 (by decide +kernel) rfl, wsG_i 31 (by decide +kernel) rfl, by decide +kernel, by decide +kernel, by decide +kernel⟩
theorem kI_X6_attempt : Jvm.Cond.instanceMethod yX6_attempt ∈ wsG := wsG_i 930 (by decide +kernel) rfl
theorem kV_X6_attempt : Jvm.Cond.selects RX6 yX6_attempt yX6_attempt ∈ wsG := wsG_i 931 (by decide +kernel) rfl
theorem kl_L_139 : Jvm.Cond.methodLink RL 139 yL_waive ∈ wsG := wsG_i 618 (by decide +kernel) rfl
theorem kl_L_141 : Jvm.Cond.methodLink RL 141 yX6_waive ∈ wsG := wsG_i 968 (by decide +kernel) rfl
theorem kB_X6_waive : BOK yX6_waive cX6_waive 4 (some .int) 3 := ⟨wsG_i 971 (by decide +kernel) rfl, wsG_i 31 (by decide +kernel) rfl, by decide +kernel, by decide +kernel, by decide +kernel⟩
theorem kI_X6_waive : Jvm.Cond.instanceMethod yX6_waive ∈ wsG := wsG_i 969 (by decide +kernel) rfl
theorem kV_X6_waive : Jvm.Cond.selects RX6 yX6_waive yX6_waive ∈ wsG := wsG_i 970 (by decide +kernel) rfl
theorem kl_L_142 : Jvm.Cond.methodLink RL 142 yL_pass ∈ wsG := wsG_i 627 (by decide +kernel) rfl
theorem kl_L_144 : Jvm.Cond.methodLink RL 144 yX6_pass ∈ wsG := wsG_i 975 (by decide +kernel) rfl
theorem kB_X6_pass : BOK yX6_pass cX6_pass 2 (some .int) 1 := ⟨wsG_i 978 (by decide +kernel) rfl, wsG_i 31 (by decide +kernel) rfl, by decide +kernel, by decide +kernel, by decide +kernel⟩
theorem kI_X6_pass : Jvm.Cond.instanceMethod yX6_pass ∈ wsG := wsG_i 976 (by decide +kernel) rfl
theorem kV_X6_pass : Jvm.Cond.selects RX6 yX6_pass yX6_pass ∈ wsG := wsG_i 977 (by decide +kernel) rfl
theorem kl_L_145 : Jvm.Cond.methodLink RL 145 yX5_drafted ∈ wsG := wsG_i 234 (by decide +kernel) rfl
theorem kB_X5_drafted : BOK yX5_drafted cX5_drafted 1 (some .int) 0 := ⟨wsG_i 237 (by decide +kernel) rfl, wsG_i 25 (by decide +kernel) rfl, by decide +kernel, by decide +kernel, by decide +kernel⟩
theorem kI_X5_drafted : Jvm.Cond.instanceMethod yX5_drafted ∈ wsG := wsG_i 235 (by decide +kernel) rfl
theorem kV_X5_drafted : Jvm.Cond.selects RX5 yX5_drafted yX5_drafted ∈ wsG := wsG_i 236 (by decide +kernel) rfl
theorem kl_L_148 : Jvm.Cond.methodLink RL 148 yX6_drafted ∈ wsG := wsG_i 979 (by decide +kernel) rfl
theorem kB_X6_drafted : BOK yX6_drafted cX6_drafted 1 (some .int) 0 := ⟨wsG_i 982 (by decide +kernel) rfl, wsG_i 31 (by decide +kernel) rfl, by decide +kernel, by decide +kernel, by decide +kernel⟩
theorem kI_X6_drafted : Jvm.Cond.instanceMethod yX6_drafted ∈ wsG := wsG_i 980 (by decide +kernel) rfl
theorem kV_X6_drafted : Jvm.Cond.selects RX6 yX6_drafted yX6_drafted ∈ wsG := wsG_i 981 (by decide +kernel) rfl
theorem kl_L_149 : Jvm.Cond.methodLink RL 149 yX5_today ∈ wsG := wsG_i 238 (by decide +kernel) rfl
theorem kB_X5_today : BOK yX5_today cX5_today 1 (some .int) 0 := ⟨wsG_i 241 (by decide +kernel) rfl, wsG_i 25 (by decide +kernel) rfl, by decide +kernel, by decide +kernel, by decide +kernel⟩
theorem kI_X5_today : Jvm.Cond.instanceMethod yX5_today ∈ wsG := wsG_i 239 (by decide +kernel) rfl
theorem kV_X5_today : Jvm.Cond.selects RX5 yX5_today yX5_today ∈ wsG := wsG_i 240 (by decide +kernel) rfl
theorem kl_L_152 : Jvm.Cond.methodLink RL 152 yX6_today ∈ wsG := wsG_i 983 (by decide +kernel) rfl
theorem kB_X6_today : BOK yX6_today cX6_today 1 (some .int) 0 := ⟨wsG_i 986 (by decide +kernel) rfl, wsG_i 31 (by decide +kernel) rfl, by decide +kernel, by decide +kernel, by decide +kernel⟩
theorem kI_X6_today : Jvm.Cond.instanceMethod yX6_today ∈ wsG := wsG_i 984 (by decide +kernel) rfl
theorem kV_X6_today : Jvm.Cond.selects RX6 yX6_today yX6_today ∈ wsG := wsG_i 985 (by decide +kernel) rfl
theorem kl_L_153 : Jvm.Cond.methodLink RL 153 yL_reads ∈ wsG := wsG_i 636 (by decide +kernel) rfl
theorem kl_L_155 : Jvm.Cond.methodLink RL 155 yX6_reads ∈ wsG := wsG_i 987 (by decide +kernel) rfl
theorem kB_X6_reads : BOK yX6_reads cX6_reads 2 (some .int) 1 := ⟨wsG_i 990 (by decide +kernel) rfl, wsG_i 31 (by decide +kernel) rfl, by decide +kernel, by decide +kernel, by decide +kernel⟩
theorem kI_X6_reads : Jvm.Cond.instanceMethod yX6_reads ∈ wsG := wsG_i 988 (by decide +kernel) rfl
theorem kV_X6_reads : Jvm.Cond.selects RX6 yX6_reads yX6_reads ∈ wsG := wsG_i 989 (by decide +kernel) rfl
theorem kl_L_156 : Jvm.Cond.methodLink RL 156 yL_rests ∈ wsG := wsG_i 643 (by decide +kernel) rfl
theorem kl_L_158 : Jvm.Cond.methodLink RL 158 yX6_rests ∈ wsG := wsG_i 991 (by decide +kernel) rfl
theorem kB_X6_rests : BOK yX6_rests cX6_rests 2 (some .int) 1 := ⟨wsG_i 994 (by decide +kernel) rfl, wsG_i 31 (by decide +kernel) rfl, by decide +kernel, by decide +kernel, by decide +kernel⟩
theorem kI_X6_rests : Jvm.Cond.instanceMethod yX6_rests ∈ wsG := wsG_i 992 (by decide +kernel) rfl
theorem kV_X6_rests : Jvm.Cond.selects RX6 yX6_rests yX6_rests ∈ wsG := wsG_i 993 (by decide +kernel) rfl
theorem kl_L_159 : Jvm.Cond.methodLink RL 159 yL_show ∈ wsG := wsG_i 650 (by decide +kernel) rfl
theorem kl_L_161 : Jvm.Cond.methodLink RL 161 yX6_show ∈ wsG := wsG_i 995 (by decide +kernel) rfl
theorem kB_X6_show : BOK yX6_show cX6_show 2 (some .int) 1 := ⟨wsG_i 998 (by decide +kernel) rfl, wsG_i 31 (by decide +kernel) rfl, by decide +kernel, by decide +kernel, by decide +kernel⟩
theorem kI_X6_show : Jvm.Cond.instanceMethod yX6_show ∈ wsG := wsG_i 996 (by decide +kernel) rfl
theorem kV_X6_show : Jvm.Cond.selects RX6 yX6_show yX6_show ∈ wsG := wsG_i 997 (by decide +kernel) rfl
theorem kl_L_162 : Jvm.Cond.methodLink RL 162 yL_verdict ∈ wsG := wsG_i 677 (by decide +kernel) rfl
theorem kl_L_164 : Jvm.Cond.methodLink RL 164 yX6_verdict ∈ wsG := wsG_i 999 (by decide +kernel) rfl
theorem kB_X6_verdict : BOK yX6_verdict cX6_verdict 2 (some .int) 1 := ⟨wsG_i 1002 (by decide +kernel) rfl, wsG_i 31 (by decide +kernel) rfl, by decide +kernel, by decide +kernel, by decide +kernel⟩
theorem kI_X6_verdict : Jvm.Cond.instanceMethod yX6_verdict ∈ wsG := wsG_i 1000 (by decide +kernel) rfl
theorem kV_X6_verdict : Jvm.Cond.selects RX6 yX6_verdict yX6_verdict ∈ wsG := wsG_i 1001 (by decide +kernel) rfl
theorem kl_L_165 : Jvm.Cond.methodLink RL 165 yL_failing ∈ wsG := wsG_i 684 (by decide +kernel) rfl
theorem kl_L_167 : Jvm.Cond.methodLink RL 167 yX6_failing ∈ wsG := wsG_i 1003 (by decide +kernel) rfl
theorem kB_X6_failing : BOK yX6_failing cX6_failing 2 (some .int) 1 := ⟨wsG_i 1006 (by decide +kernel) rfl, wsG_i 31 (by decide +kernel) rfl, by decide +kernel, by decide +kernel, by decide +kernel⟩
theorem kI_X6_failing : Jvm.Cond.instanceMethod yX6_failing ∈ wsG := wsG_i 1004 (by decide +kernel) rfl
theorem kV_X6_failing : Jvm.Cond.selects RX6 yX6_failing yX6_failing ∈ wsG := wsG_i 1005 (by decide +kernel) rfl
theorem kl_L_168 : Jvm.Cond.methodLink RL 168 yL_example ∈ wsG := wsG_i 691 (by decide +kernel) rfl
theorem kl_L_170 : Jvm.Cond.methodLink RL 170 yX6_example ∈ wsG := wsG_i 1007 (by decide +kernel) rfl
theorem kB_X6_example : BOK yX6_example cX6_example 3 (some .int) 2 := ⟨wsG_i 1010 (by decide +kernel) rfl, wsG_i 31 (by decide +kernel) rfl, by decide +kernel, by decide +kernel, by decide +kernel⟩
theorem kI_X6_example : Jvm.Cond.instanceMethod yX6_example ∈ wsG := wsG_i 1008 (by decide +kernel) rfl
theorem kV_X6_example : Jvm.Cond.selects RX6 yX6_example yX6_example ∈ wsG := wsG_i 1009 (by decide +kernel) rfl
theorem kl_L_171 : Jvm.Cond.methodLink RL 171 yL_smaller ∈ wsG := wsG_i 715 (by decide +kernel) rfl
theorem kl_L_173 : Jvm.Cond.methodLink RL 173 yX6_smaller ∈ wsG := wsG_i 1011 (by decide +kernel) rfl
theorem kB_X6_smaller : BOK yX6_smaller cX6_smaller 2 (some .int) 1 := ⟨wsG_i 1014 (by decide +kernel) rfl, wsG_i 31 (by decide +kernel) rfl, by decide +kernel, by decide +kernel, by decide +kernel⟩
theorem kI_X6_smaller : Jvm.Cond.instanceMethod yX6_smaller ∈ wsG := wsG_i 1012 (by decide +kernel) rfl
theorem kV_X6_smaller : Jvm.Cond.selects RX6 yX6_smaller yX6_smaller ∈ wsG := wsG_i 1013 (by decide +kernel) rfl
theorem kl_L_174 : Jvm.Cond.methodLink RL 174 yL_isLocked ∈ wsG := wsG_i 722 (by decide +kernel) rfl
theorem kl_L_176 : Jvm.Cond.methodLink RL 176 yX6_isLocked ∈ wsG := wsG_i 1015 (by decide +kernel) rfl
theorem kl_L_177 : Jvm.Cond.methodLink RL 177 yL_isLockedByWays ∈ wsG := wsG_i 729 (by decide +kernel) rfl
theorem kl_L_179 : Jvm.Cond.methodLink RL 179 yX6_isLockedByWays ∈ wsG := wsG_i 1019 (by decide +kernel) rfl
theorem kB_X6_isLockedByWays : BOK yX6_isLockedByWays cX6_isLockedByWays 2 (some .boolean) 1 := ⟨wsG_i 1022 (by decide +kernel) rfl, wsG_i 31 (by decide +kernel) rfl, by decide +kernel, by decide +kernel, by decide +kernel⟩
theorem kI_X6_isLockedByWays : Jvm.Cond.instanceMethod yX6_isLockedByWays ∈ wsG := wsG_i 1020 (by decide +kernel) rfl
theorem kV_X6_isLockedByWays : Jvm.Cond.selects RX6 yX6_isLockedByWays yX6_isLockedByWays ∈ wsG := wsG_i 1021 (by decide +kernel) rfl
theorem kl_L_180 : Jvm.Cond.methodLink RL 180 yL_isMarked ∈ wsG := wsG_i 740 (by decide +kernel) rfl
theorem kl_L_182 : Jvm.Cond.methodLink RL 182 yX6_isMarked ∈ wsG := wsG_i 1024 (by decide +kernel) rfl
theorem kB_X6_isMarked : BOK yX6_isMarked cX6_isMarked 5 (some .boolean) 1 := ⟨wsG_i 1027 (by decide +kernel) rfl, wsG_i 31 (by decide +kernel) rfl, by decide +kernel, by decide +kernel, by decide +kernel⟩
theorem kI_X6_isMarked : Jvm.Cond.instanceMethod yX6_isMarked ∈ wsG := wsG_i 1025 (by decide +kernel) rfl
theorem kV_X6_isMarked : Jvm.Cond.selects RX6 yX6_isMarked yX6_isMarked ∈ wsG := wsG_i 1026 (by decide +kernel) rfl
theorem kl_L_183 : Jvm.Cond.methodLink RL 183 yX5_locked ∈ wsG := wsG_i 242 (by decide +kernel) rfl
theorem kB_X5_locked : BOK yX5_locked cX5_locked 1 (some .int) 0 := ⟨wsG_i 245 (by decide +kernel) rfl, wsG_i 25 (by decide +kernel) rfl, by decide +kernel, by decide +kernel, by decide +kernel⟩
theorem kI_X5_locked : Jvm.Cond.instanceMethod yX5_locked ∈ wsG := wsG_i 243 (by decide +kernel) rfl
theorem kV_X5_locked : Jvm.Cond.selects RX5 yX5_locked yX5_locked ∈ wsG := wsG_i 244 (by decide +kernel) rfl
theorem kl_L_186 : Jvm.Cond.methodLink RL 186 yX6_locked ∈ wsG := wsG_i 1028 (by decide +kernel) rfl
theorem kB_X6_locked : BOK yX6_locked cX6_locked 1 (some .int) 0 := ⟨wsG_i 1031 (by decide +kernel) rfl, wsG_i 31 (by decide +kernel) rfl, by decide +kernel, by decide +kernel, by decide +kernel⟩
theorem kI_X6_locked : Jvm.Cond.instanceMethod yX6_locked ∈ wsG := wsG_i 1029 (by decide +kernel) rfl
theorem kV_X6_locked : Jvm.Cond.selects RX6 yX6_locked yX6_locked ∈ wsG := wsG_i 1030 (by decide +kernel) rfl
theorem kl_L_187 : Jvm.Cond.methodLink RL 187 yX5_unlocked ∈ wsG := wsG_i 267 (by decide +kernel) rfl
theorem kB_X5_unlocked : BOK yX5_unlocked cX5_unlocked 1 (some .int) 0 := ⟨wsG_i 270 (by decide +kernel) rfl, wsG_i 25 (by decide +kernel) rfl, by decide +kernel, by decide +kernel, by decide +kernel⟩
theorem kI_X5_unlocked : Jvm.Cond.instanceMethod yX5_unlocked ∈ wsG := wsG_i 268 (by decide +kernel) rfl
theorem kV_X5_unlocked : Jvm.Cond.selects RX5 yX5_unlocked yX5_unlocked ∈ wsG := wsG_i 269 (by decide +kernel) rfl
theorem kl_L_190 : Jvm.Cond.methodLink RL 190 yX6_unlocked ∈ wsG := wsG_i 1032 (by decide +kernel) rfl
theorem kB_X6_unlocked : BOK yX6_unlocked cX6_unlocked 1 (some .int) 0 := ⟨wsG_i 1035 (by decide +kernel) rfl, wsG_i 31 (by decide +kernel) rfl, by decide +kernel, by decide +kernel, by decide +kernel⟩
theorem kI_X6_unlocked : Jvm.Cond.instanceMethod yX6_unlocked ∈ wsG := wsG_i 1033 (by decide +kernel) rfl
theorem kV_X6_unlocked : Jvm.Cond.selects RX6 yX6_unlocked yX6_unlocked ∈ wsG := wsG_i 1034 (by decide +kernel) rfl
theorem kl_L_191 : Jvm.Cond.methodLink RL 191 yL_unlockedAt ∈ wsG := wsG_i 747 (by decide +kernel) rfl
theorem kl_L_193 : Jvm.Cond.methodLink RL 193 yX6_unlockedAt ∈ wsG := wsG_i 1036 (by decide +kernel) rfl
theorem kB_X6_unlockedAt : BOK yX6_unlockedAt cX6_unlockedAt 2 (some .int) 1 := ⟨wsG_i 1039 (by decide +kernel) rfl, wsG_i 31 (by decide +kernel) rfl, by decide +kernel, by decide +kernel, by decide +kernel⟩
theorem kI_X6_unlockedAt : Jvm.Cond.instanceMethod yX6_unlockedAt ∈ wsG := wsG_i 1037 (by decide +kernel) rfl
theorem kV_X6_unlockedAt : Jvm.Cond.selects RX6 yX6_unlockedAt yX6_unlockedAt ∈ wsG := wsG_i 1038 (by decide +kernel) rfl
theorem kc_J6_265 : Jvm.Cond.constant RJ6 265 (1431655765) ∈ wsG := wsG_i 264 (by decide +kernel) rfl
theorem kc_J6_266 : Jvm.Cond.constant RJ6 266 (858993459) ∈ wsG := wsG_i 265 (by decide +kernel) rfl
theorem kc_J6_267 : Jvm.Cond.constant RJ6 267 (252645135) ∈ wsG := wsG_i 266 (by decide +kernel) rfl
theorem kt_X5_48_52 : (Bundle.fit "java/lang/IllegalStateException" = true ∧ (∀ n ∈ ["java/lang/RuntimeException", "java/lang/Exception"], Bundle.fit n = true)) ∧ (Jvm.Cond.classLink RX5 48 "java/lang/IllegalStateException" ∈ wsG ∧ Jvm.Cond.initialized "java/lang/IllegalStateException" ∈ wsG) ∧ (∀ w ∈ vx_atS RX5 52 "java/lang/IllegalStateException" ["java/lang/RuntimeException", "java/lang/Exception"], (goodWord w = true ∧ w ∈ lw_tbl) ∨ w ∈ gNw) ∧ ∀ w ∈ Jvm.Cond.classLink RX5 48 "java/lang/IllegalStateException" :: Jvm.Cond.initialized "java/lang/IllegalStateException" :: vx_atS RX5 52 "java/lang/IllegalStateException" ["java/lang/RuntimeException", "java/lang/Exception"], vx_ot w = true := ⟨by decide +kernel, ⟨wsG_of (by decide +kernel) (by decide +kernel), wsG_of (by decide +kernel) (by decide +kernel)⟩, by decide +kernel, by decide +kernel⟩
theorem kt_X5_63_67 : (Bundle.fit "java/lang/IllegalArgumentException" = true ∧ (∀ n ∈ ["java/lang/RuntimeException", "java/lang/Exception"], Bundle.fit n = true)) ∧ (Jvm.Cond.classLink RX5 63 "java/lang/IllegalArgumentException" ∈ wsG ∧ Jvm.Cond.initialized "java/lang/IllegalArgumentException" ∈ wsG) ∧ (∀ w ∈ vx_atS RX5 67 "java/lang/IllegalArgumentException" ["java/lang/RuntimeException", "java/lang/Exception"], (goodWord w = true ∧ w ∈ lw_tbl) ∨ w ∈ gNw) ∧ ∀ w ∈ Jvm.Cond.classLink RX5 63 "java/lang/IllegalArgumentException" :: Jvm.Cond.initialized "java/lang/IllegalArgumentException" :: vx_atS RX5 67 "java/lang/IllegalArgumentException" ["java/lang/RuntimeException", "java/lang/Exception"], vx_ot w = true := ⟨by decide +kernel, ⟨wsG_of (by decide +kernel) (by decide +kernel), wsG_of (by decide +kernel) (by decide +kernel)⟩, by decide +kernel, by decide +kernel⟩
theorem kt_X5_189_193 : (Bundle.fit "java/lang/ArithmeticException" = true ∧ (∀ n ∈ ["java/lang/RuntimeException", "java/lang/Exception"], Bundle.fit n = true)) ∧ (Jvm.Cond.classLink RX5 189 "java/lang/ArithmeticException" ∈ wsG ∧ Jvm.Cond.initialized "java/lang/ArithmeticException" ∈ wsG) ∧ (∀ w ∈ vx_atS RX5 193 "java/lang/ArithmeticException" ["java/lang/RuntimeException", "java/lang/Exception"], (goodWord w = true ∧ w ∈ lw_tbl) ∨ w ∈ gNw) ∧ ∀ w ∈ Jvm.Cond.classLink RX5 189 "java/lang/ArithmeticException" :: Jvm.Cond.initialized "java/lang/ArithmeticException" :: vx_atS RX5 193 "java/lang/ArithmeticException" ["java/lang/RuntimeException", "java/lang/Exception"], vx_ot w = true := ⟨by decide +kernel, ⟨wsG_of (by decide +kernel) (by decide +kernel), wsG_of (by decide +kernel) (by decide +kernel)⟩, by decide +kernel, by decide +kernel⟩
theorem kt_X5_225_229 : (Bundle.fit "java/lang/IndexOutOfBoundsException" = true ∧ (∀ n ∈ ["java/lang/RuntimeException", "java/lang/Exception"], Bundle.fit n = true)) ∧ (Jvm.Cond.classLink RX5 225 "java/lang/IndexOutOfBoundsException" ∈ wsG ∧ Jvm.Cond.initialized "java/lang/IndexOutOfBoundsException" ∈ wsG) ∧ (∀ w ∈ vx_atS RX5 229 "java/lang/IndexOutOfBoundsException" ["java/lang/RuntimeException", "java/lang/Exception"], (goodWord w = true ∧ w ∈ lw_tbl) ∨ w ∈ gNw) ∧ ∀ w ∈ Jvm.Cond.classLink RX5 225 "java/lang/IndexOutOfBoundsException" :: Jvm.Cond.initialized "java/lang/IndexOutOfBoundsException" :: vx_atS RX5 229 "java/lang/IndexOutOfBoundsException" ["java/lang/RuntimeException", "java/lang/Exception"], vx_ot w = true := ⟨by decide +kernel, ⟨wsG_of (by decide +kernel) (by decide +kernel), wsG_of (by decide +kernel) (by decide +kernel)⟩, by decide +kernel, by decide +kernel⟩
end
section
/-! ===== rules of library methods, and words that contracts use ===== -/
def gEq (r0 : Option Value) (σ0 : gSig) (τ0 : gTau) : Option Value → gSig → gTau → Prop := fun r σ τ => r0 = r ∧ σ0 = σ ∧ τ0 = τ
def b2i (b : Bool) : Int32 := if b then 1 else 0
section GRULES3
variable {l : Launch} {D : va_G} {ad : Nat → Nat → Nat} {aC : Nat → ClassId} {cc : ByteArray} {own : String} {nL : Nat} {rt : Option FieldType} {d u : Nat} {X : Prop} {PV : Option Value → gSig → gTau → Prop} {PX : String → gSig → gTau → Prop} {S : gS}
variable {n : Nat} {σ : gSig} {τ : gTau} {pc index : Nat} {L : gLoc} {rest : List Value}
theorem r_min (C : Cx l D ad aC cc own nL rt d u X PV PX S) {x y : Int32} (hd : decode cc pc = .ok (.invokestatic index, 3)) (hl : Jvm.Cond.methodLink own index Lib.Math.min.name ∈ wsG) (hs : Jvm.Cond.static Lib.Math.min.name ∈ wsG) (hc : Jvm.Cond.code Lib.Math.min.name Lib.Math.min.code 2 (some .int) ∈ wsG ∧ Jvm.Cond.initialized "java/lang/Math" ∈ wsG) (hdd : 1 ≤ d) (hcat : (rest.map fun v => v.category).sum ≤ 8) (hn : n ≤ u)
    (k : S n σ τ (pc + 3) L (.int (if y < x then y else x) :: rest)) : S n σ τ pc L (.int y :: .int x :: rest) := by
  obtain ⟨p, e, s, m, args, below, meth, c, Q, hx, hb, hml, hown, hts, hr, hlk, hK, hN, hI, hQ, hX, rfl⟩ := C
  intro H locs ls hP hS hl2
  exact va_mmin hx hb (hml.trans hl2.1.symm) hown (hts _ hl) (hts _ hs) (hts _ hc.2) (hts _ hc.1) hdd (by show _ + 13 ≤ 64 * d; omega) hn (Nat.mul_le_mul_left 6 hn) hd (k H locs ls hP hS hl2)
theorem r_max (C : Cx l D ad aC cc own nL rt d u X PV PX S) {x y : Int32} (hd : decode cc pc = .ok (.invokestatic index, 3)) (hl : Jvm.Cond.methodLink own index Lib.Math.max.name ∈ wsG) (hs : Jvm.Cond.static Lib.Math.max.name ∈ wsG) (hc : Jvm.Cond.code Lib.Math.max.name Lib.Math.max.code 2 (some .int) ∈ wsG ∧ Jvm.Cond.initialized "java/lang/Math" ∈ wsG) (hdd : 1 ≤ d) (hcat : (rest.map fun v => v.category).sum ≤ 8) (hn : n ≤ u)
    (k : S n σ τ (pc + 3) L (.int (if x < y then y else x) :: rest)) : S n σ τ pc L (.int y :: .int x :: rest) := by
  obtain ⟨p, e, s, m, args, below, meth, c, Q, hx, hb, hml, hown, hts, hr, hlk, hK, hN, hI, hQ, hX, rfl⟩ := C
  intro H locs ls hP hS hl2
  exact va_mmax hx hb (hml.trans hl2.1.symm) hown (hts _ hl) (hts _ hs) (hts _ hc.2) (hts _ hc.1) hdd (by show _ + 13 ≤ 64 * d; omega) hn (Nat.mul_le_mul_left 6 hn) hd (k H locs ls hP hS hl2)
/-- a row of ints written whole -/
def upR (σ : gSig) (f c : Nat) (g : Nat → Int32) : gSig := fun f' c' => if f' = f ∧ c' = c then g else σ f' c'
theorem upR_self (σ : gSig) (f c : Nat) (g : Nat → Int32) : (upR σ f c g) f c = g := by simp [upR]
theorem upR_ne (σ : gSig) (f c : Nat) (g : Nat → Int32) {f' c' : Nat} (h : (f', c') ≠ (f, c)) : (upR σ f c g) f' c' = σ f' c' := by
  unfold upR
  rw [if_neg]
  rintro ⟨h1, h2⟩
  exact h (by rw [h1, h2])
theorem r_copy (C : Cx l D ad aC cc own nL rt d u X PV PX S) {fm c0 fm1 c1 n0 n1 : Nat} {sp dp k9 : Int32} (hd : decode cc pc = .ok (.invokestatic index, 3)) (hl : Jvm.Cond.methodLink own index arraycopyName ∈ wsG) (hna : Jvm.Cond.native arraycopyName ∈ wsG) (hs : Jvm.Cond.static arraycopyName ∈ wsG) (hi : Jvm.Cond.initialized "java/lang/System" ∈ wsG) (hok : gok fm c0) (hok1 : gok fm1 c1) (hcel : cel ad aC σ τ fm c0 = .inl (aC 0, n0, .inl (σ fm c0))) (hcel1 : ∀ σ' : gSig, cel ad aC σ' τ fm1 c1 = .inl (aC 0, n1, .inl (σ' fm1 c1)))
    (h1 : ¬ sp < 0) (h2 : ¬ dp < 0) (h3 : ¬ k9 < 0) (h4 : sp.toNatClampNeg + k9.toNatClampNeg ≤ n0) (h5 : dp.toNatClampNeg + k9.toNatClampNeg ≤ n1) (hdd : 1 ≤ d) (hcat : (rest.map fun v => v.category).sum + (nativeFrameWords "java/lang/System" "arraycopy" 5 + 11) ≤ 64)
    (k : S n (upR σ fm1 c1 (va_cpy (σ fm c0) (σ fm1 c1) sp.toNatClampNeg dp.toNatClampNeg k9.toNatClampNeg)) τ (pc + 3) L rest) : S n σ τ pc L (.int k9 :: .int dp :: .ref (ad fm1 c1) :: .int sp :: .ref (ad fm c0) :: rest) := by
  obtain ⟨p, e, s, m, args, below, meth, c, Q, hx, hb, hml, hown, hts, hr, hlk, hK, hN, hI, hQ, hX, rfl⟩ := C
  intro H locs ls hP hS hl2
  obtain ⟨q0, hg, -⟩ := Wd_get (ad := ad) (aC := aC) hok
  obtain ⟨q1, hg1, hst⟩ := Wd_get (ad := ad) (aC := aC) hok1
  have he := hg σ τ
  rw [hcel] at he
  have he1 := hg1 σ τ
  rw [hcel1 σ] at he1
  refine va_copyi hx hb (hml.trans hl2.1.symm) hown (hts _ hl) (hts _ hna) (hts _ hs) (hts _ hi) hK hP (gD_of hI aC σ τ _) hS q0 q1 0 0 he he1 rfl rfl rfl h1 h2 h3 h4 h5 (fun _ _ => rfl) hdd (by show _ ≤ 64 * d; omega) hd (fun H1 locs1 hP1 _ hS1 => ?_)
  rw [hst σ (upR σ fm1 c1 (va_cpy (σ fm c0) (σ fm1 c1) sp.toNatClampNeg dp.toNatClampNeg k9.toNatClampNeg)) τ τ _ (fun f' c' hne => upR_ne σ fm1 c1 _ hne) (fun _ _ => rfl) (Or.inl rfl) (by rw [hcel1, upR_self])] at hP1
  exact k H1 locs1 ls hP1 hS1 hl2
theorem r_ialdv (C : Cx l D ad aC cc own nL rt d u X PV PX S) {fm c0 len : Nat} {i v : Int32} {st : List Value} (hd : decode cc pc = .ok (.iaload, 1)) (hok : gok fm c0) (hcel : cel ad aC σ τ fm c0 = .inl (aC 0, len, .inl (σ fm c0))) (hin : vp_in i len) (hv : σ fm c0 i.toNatClampNeg = v) (k : S n σ τ (pc + 1) L (.int v :: st)) : S n σ τ pc L (.int i :: .ref (ad fm c0) :: st) := r_iald C hd hok hcel hin (by rw [hv]; exact k)
theorem r_zaldv (C : Cx l D ad aC cc own nL rt d u X PV PX S) {fm c0 len : Nat} {i v : Int32} {st : List Value} (hd : decode cc pc = .ok (.baload, 1)) (hok : gok fm c0) (hcel : cel ad aC σ τ fm c0 = .inl (aC 2, len, .inl (σ fm c0))) (hin : vp_in i len) (hv : σ fm c0 i.toNatClampNeg = v) (k : S n σ τ (pc + 1) L (.int v :: st)) : S n σ τ pc L (.int i :: .ref (ad fm c0) :: st) := r_zald C hd hok hcel hin (by rw [hv]; exact k)
theorem r_laldv (C : Cx l D ad aC cc own nL rt d u X PV PX S) {fm c0 len : Nat} {i : Int32} {v : Int64} {st : List Value} (hd : decode cc pc = .ok (.laload, 1)) (hok : gok fm c0) (hcel : cel ad aC σ τ fm c0 = .inl (aC 1, len, .inr (.inl (τ fm)))) (hin : vp_in i len) (hv : τ fm i.toNatClampNeg = v) (k : S n σ τ (pc + 1) L (.long v :: st)) : S n σ τ pc L (.int i :: .ref (ad fm c0) :: st) := r_lald C hd hok hcel hin (by rw [hv]; exact k)
theorem r_iastv (C : Cx l D ad aC cc own nL rt d u X PV PX S) {fm c0 len j : Nat} {i x : Int32} {st : List Value} (hd : decode cc pc = .ok (.iastore, 1)) (hok : gok fm c0) (hcel : ∀ σ' : gSig, cel ad aC σ' τ fm c0 = .inl (aC 0, len, .inl (σ' fm c0))) (hin : vp_in i len) (hj : i.toNatClampNeg = j) (k : S n (up3 σ fm c0 j x) τ (pc + 1) L st) : S n σ τ pc L (.int x :: .int i :: .ref (ad fm c0) :: st) := r_iast C hd hok hcel hin (by rw [hj]; exact k)
theorem r_zastv (C : Cx l D ad aC cc own nL rt d u X PV PX S) {fm c0 len j : Nat} {i x : Int32} {st : List Value} (hd : decode cc pc = .ok (.bastore, 1)) (hok : gok fm c0) (hcel : ∀ σ' : gSig, cel ad aC σ' τ fm c0 = .inl (aC 2, len, .inl (σ' fm c0))) (hin : vp_in i len) (hj : i.toNatClampNeg = j) (hb1 : x = 0 ∨ x = 1) (k : S n (up3 σ fm c0 j x) τ (pc + 1) L st) : S n σ τ pc L (.int x :: .int i :: .ref (ad fm c0) :: st) := r_zast C hd hok hcel hin hb1 (by rw [hj]; exact k)
theorem r_lastv (C : Cx l D ad aC cc own nL rt d u X PV PX S) {fm len j : Nat} {i : Int32} {x : Int64} {st : List Value} (hd : decode cc pc = .ok (.lastore, 1)) (hok : gok fm 0) (h1 : gN.getD fm 0 = 1) (hcel : ∀ τ' : gTau, cel ad aC σ τ' fm 0 = .inl (aC 1, len, .inr (.inl (τ' fm)))) (hin : vp_in i len) (hj : i.toNatClampNeg = j) (k : S n σ (up2 τ fm j x) (pc + 1) L st) : S n σ τ pc L (.long x :: .int i :: .ref (ad fm 0) :: st) := r_last C hd hok h1 hcel hin (by rw [hj]; exact k)
theorem r_aaldv (C : Cx l D ad aC cc own nL rt d u X PV PX S) {fm c0 t0 len fa j : Nat} {ct : ClassId} {E : String} {i : Int32} {st : List Value} (hd : decode cc pc = .ok (.aaload, 1)) (hok : gok fm c0) (hcel : cel ad aC σ τ fm c0 = .inl (ct, len, .inr (.inr (.inr (.inr (fun j => some (ad fa j))))))) (ht : (gty aC)[t0]? = some (ct, .object E)) (hin : vp_in i len) (hj : i.toNatClampNeg = j) (k : S n σ τ (pc + 1) L (.ref (ad fa j) :: st)) : S n σ τ pc L (.int i :: .ref (ad fm c0) :: st) := r_aald C hd hok hcel ht hin (by rw [hj]; exact k)
/-- locals that are not asked for again -/
def dropL (ks : List Nat) (L : gLoc) : gLoc := ks.foldl (fun L k => L.set k none) L
theorem dropL_in {ks : List Nat} : ∀ {L : gLoc} {i : Nat} {v : Value}, (dropL ks L)[i]? = some (some v) → L[i]? = some (some v) := by
  induction ks with
  | nil => intro L i v h; exact h
  | cons k ks ih =>
    intro L i v h
    have h1 : (L.set k none)[i]? = some (some v) := ih (L := L.set k none) h
    by_cases hk : i = k
    · subst hk
      rw [List.getElem?_set_self' ] at h1
      cases hx : L[i]? with
      | none => rw [hx] at h1; cases h1
      | some y => rw [hx] at h1; cases h1
    · rwa [List.getElem?_set_ne (Ne.symm hk)] at h1
theorem r_drop (C : Cx l D ad aC cc own nL rt d u X PV PX S) (ks : List Nat) {st : List Value} (k : S n σ τ pc (dropL ks L) st) : S n σ τ pc L st := by
  obtain ⟨p, e, s, m, args, below, meth, c, Q, hx, hb, hml, hown, hts, hr, hlk, hK, hN, hI, hQ, hX, rfl⟩ := C
  intro H locs ls hP hS hl
  exact k H locs ls hP hS ⟨hl.1, hl.2.1, fun q hq => hl.2.2 q (by
    obtain ⟨i, v⟩ := q
    exact lvs_mem.mpr (dropL_in (lvs_mem.mp hq)))⟩
theorem r_swk {S : gS} {st : List Value} {L' : gLoc} {σ' : gSig} {τ' : gTau} {st' : List Value} (h : S n σ τ pc L st) (e1 : σ = σ') (e2 : τ = τ') (e3 : L = L') (e4 : st = st') : S n σ' τ' pc L' st' := by subst e1; subst e2; subst e3; subst e4; exact h
end GRULES3
theorem kl_copy0 : Jvm.Cond.methodLink RX0 28 arraycopyName ∈ wsG := wsG_of (by decide +kernel) (by decide +kernel)
theorem kn_copy : Jvm.Cond.native arraycopyName ∈ wsG := wsG_of (by decide +kernel) (by decide +kernel)
theorem ks_copy : Jvm.Cond.static arraycopyName ∈ wsG := wsG_of (by decide +kernel) (by decide +kernel)
theorem ki_copy : Jvm.Cond.initialized "java/lang/System" ∈ wsG := wsG_of (by decide +kernel) (by decide +kernel)
/-- a cell's number -/
def isC (c : Int32) : Prop := ¬ c < 0 ∧ c < 16
theorem isC_nI {c : Int32} (h : isC c) : ∃ k : Nat, k < 16 ∧ c = nI k := by
  obtain ⟨h1, h2⟩ := h
  obtain ⟨j, hj, rfl⟩ := nI_of h1
  refine ⟨j, ?_, rfl⟩
  have h3 : nI j < nI 16 := h2
  exact (nI_ltI hj (by decide)).mp h3
theorem isC_of {k : Nat} (h : k < 16) : isC (nI k) := ⟨nI_pos (by omega), (nI_ltI (by omega) (by decide)).mpr h⟩
/-- whether a set holds a cell, as the class asks it -/
def hasB (set cell : Int32) : Bool := if cell < 0 then false else if (16 : Int32) ≤ cell then false else if (set >>> (cell &&& 31)) &&& 1 = 0 then false else true
theorem kC_Math_min : Jvm.Cond.code Lib.Math.min.name Lib.Math.min.code 2 (some .int) ∈ wsG ∧ Jvm.Cond.initialized "java/lang/Math" ∈ wsG := ⟨wsG_of (by decide +kernel) (by decide +kernel), wsG_of (by decide +kernel) (by decide +kernel)⟩
theorem kC_Math_max : Jvm.Cond.code Lib.Math.max.name Lib.Math.max.code 2 (some .int) ∈ wsG ∧ Jvm.Cond.initialized "java/lang/Math" ∈ wsG := ⟨wsG_of (by decide +kernel) (by decide +kernel), wsG_of (by decide +kernel) (by decide +kernel)⟩
/-- a contract out of a walk, of a method of the library -/
theorem CZ.ofF {l : Launch} {D : va_G} {ad : Nat → Nat → Nat} {aC : Nat → ClassId} {y : MethodName} {cc : ByteArray} {nL : Nat} {rt : Option FieldType} {d : Nat} {av : List Value} {σ : gSig} {τ : gTau} {PV : Option Value → gSig → gTau → Prop} {own : String} (hy : plainFor y = true) (hown : y.cls = own) (hav : (lg_sl av).length ≤ nL)
    (body : ∀ S : gS, Cx l D ad aC cc own nL rt d 0 False PV (fun _ _ _ => False) S → S 0 σ τ 0 (mkL nL av) []) : CZ l D ad aC y cc nL rt d av σ τ PV := by
  intro hI sz
  refine MetFree.of_bodySF (code := cc) (maxLocals := nL) (ret := rt) hy ?_ ?_
  · intro args s m h hn
    obtain ⟨meth, c, h1, h2, h3, h4, h5, h6, -, -⟩ := Cond.code_spec hn (atoms_spec (ws := gws y cc nL rt) h _ List.mem_cons_self)
    exact ⟨meth, c, h1, h2, h3, h4, h5, h6⟩
  · intro p e s m args below meth c s₁ B hml hv _
    obtain ⟨rfl, hsz, ⟨hP, hK⟩, hN⟩ := hv
    subst hown
    subst hsz
    have hts := atoms_spec (ws := gws y cc nL rt) B.pre
    have hl := lv_entry av (n := nL) hav
    have hh0 : s₁.heap = s.heap := by rw [B.state]; rfl
    have hk : W p l e (rmz d 0) s m av.toArray below meth c s.heap [] 0 0 (MQ below (QcZ D ad aC s.heap.size PV) av.toArray s 0 0 (gA ad s.heap.size)) (entryFrame m av.toArray nL) := by
      rw [lg_entry_eq]
      exact body _ ⟨p, e, s, m, av.toArray, below, meth, c, _, B.exec, B.bytes, hml, findClass_of_methodNamed B.named, fun w hw => hts w (List.mem_cons_of_mem _ hw), B.returns, B.notSynchronized, hK, hN, hI, fun t h => h, fun h => h.elim, rfl⟩ s.heap [] _ hP va_S.rf (mkL_has hl)
    obtain ⟨t, a1, o, b1, b2, b3⟩ := hk s₁ hh0 (Stand.of_body B)
    exact ⟨t, o, a1, b1, b2, ⟨b3.1, b3.2⟩⟩
theorem up3_upR (σ : gSig) (f c j : Nat) (g : Nat → Int32) (x : Int32) : up3 (upR σ f c g) f c j x = upR σ f c (upd g j x) := by
  funext f' c' i'
  unfold up3 upR upd
  by_cases h1 : f' = f ∧ c' = c
  · obtain ⟨rfl, rfl⟩ := h1
    by_cases h2 : i' = j <;> simp [h2]
  · have h2 : ¬ (f' = f ∧ c' = c ∧ i' = j) := fun q => h1 ⟨q.1, q.2.1⟩
    rw [if_neg h2, if_neg h1, if_neg h1]
theorem upR_upR (σ : gSig) (f c : Nat) (g g' : Nat → Int32) : upR (upR σ f c g) f c g' = upR σ f c g' := by
  funext f' c'
  unfold upR
  by_cases h1 : f' = f ∧ c' = c <;> simp [h1]
theorem upR_id (σ : gSig) (f c : Nat) : upR σ f c (σ f c) = σ := by
  funext f' c'
  unfold upR
  by_cases h1 : f' = f ∧ c' = c
  · rw [if_pos h1, h1.1, h1.2]
  · rw [if_neg h1]
theorem up3_eq (σ : gSig) (f c j : Nat) (x : Int32) : up3 σ f c j x = upR σ f c (upd (σ f c) j x) := by
  rw [← up3_upR, upR_id]
theorem nI_m2 (k : Nat) : nI (k + 2) + Int32.ofInt (-2) = nI k := by
  rw [← nI_add k 2, Int32.add_assoc, show nI 2 + Int32.ofInt (-2) = 0 by decide, Int32.add_zero]
theorem nI_p1 (k : Nat) : nI k + Int32.ofInt 1 = nI (k + 1) := nI_1 k
theorem lg_cmp_self (x : Int64) : lg_cmp x x = 0 := by
  unfold lg_cmp
  rw [if_neg (by simp [Int64.lt_iff_toInt_lt]), if_pos rfl]
theorem lg_cmp_0 {x y : Int64} (h : lg_cmp x y = 0) : x = y := by
  unfold lg_cmp at h
  split at h
  · exact absurd h (by decide)
  · split at h
    · assumption
    · exact absurd h (by decide)
end
section
/-! ===== Int32 by its bits: bt x i ===== -/
def bt (x : Int32) (i : Nat) : Bool := x.toBitVec.getLsbD i
theorem b_ext {x y : Int32} (h : ∀ i, i < 32 → bt x i = bt y i) : x = y := Int32.toBitVec_inj.mp (BitVec.eq_of_getLsbD_eq (fun i hi => h i hi))
theorem b_or (x y : Int32) (i : Nat) : bt (x ||| y) i = (bt x i || bt y i) := by unfold bt; rw [Int32.toBitVec_or, BitVec.getLsbD_or]
theorem b_and (x y : Int32) (i : Nat) : bt (x &&& y) i = (bt x i && bt y i) := by unfold bt; rw [Int32.toBitVec_and, BitVec.getLsbD_and]
theorem b_xor (x y : Int32) (i : Nat) : bt (x ^^^ y) i = (bt x i ^^ bt y i) := by unfold bt; rw [Int32.toBitVec_xor, BitVec.getLsbD_xor]
theorem b_big {x : Int32} {i : Nat} (h : 32 ≤ i) : bt x i = false := BitVec.getLsbD_of_ge _ _ h
theorem b_255 (i : Nat) : bt 255 i = decide (i < 8) := by
  rcases Nat.lt_or_ge i 32 with h | h
  · exact (by decide +kernel : ∀ i, i < 32 → bt 255 i = decide (i < 8)) i h
  · rw [b_big h, decide_eq_false (by omega)]
theorem b_65535 (i : Nat) : bt 65535 i = decide (i < 16) := by
  rcases Nat.lt_or_ge i 32 with h | h
  · exact (by decide +kernel : ∀ i, i < 32 → bt 65535 i = decide (i < 16)) i h
  · rw [b_big h, decide_eq_false (by omega)]
theorem b_m1 : ∀ i, i < 32 → bt (-1) i = true := by decide +kernel
theorem b_0 (i : Nat) : bt 0 i = false := BitVec.getLsbD_zero
theorem s_l : ∀ n, n < 32 → ((nI n &&& 31).toBitVec.smod 32).toNat = n := by decide +kernel
theorem s_u : ∀ n, n < 32 → (((nI n).toUInt32 &&& Int32.toUInt32 31).toBitVec % 32).toNat = n := by decide +kernel
theorem b_shl (n : Nat) (hn : n < 32) (x : Int32) {i : Nat} (hi : i < 32) : bt (x <<< (nI n &&& 31)) i = (decide (n ≤ i) && bt x (i - n)) := by
  unfold bt
  rw [Int32.toBitVec_shiftLeft]
  show (x.toBitVec <<< ((nI n &&& 31).toBitVec.smod 32).toNat).getLsbD i = _
  rw [s_l n hn, BitVec.getLsbD_shiftLeft]
  rcases Nat.lt_or_ge i n with h | h
  · simp [h, Nat.not_le.mpr h]
  · simp [hi, h, Nat.not_lt.mpr h]
theorem b_ushr (n : Nat) (hn : n < 32) (x : Int32) (i : Nat) : bt ((x.toUInt32 >>> ((nI n).toUInt32 &&& Int32.toUInt32 31)).toInt32) i = bt x (n + i) := by
  show (x.toUInt32 >>> ((nI n).toUInt32 &&& Int32.toUInt32 31)).toBitVec.getLsbD i = x.toUInt32.toBitVec.getLsbD (n + i)
  rw [UInt32.toBitVec_shiftRight]
  show (x.toUInt32.toBitVec >>> (((nI n).toUInt32 &&& Int32.toUInt32 31).toBitVec % 32).toNat).getLsbD i = _
  rw [s_u n hn, BitVec.getLsbD_ushiftRight]
theorem b_sshr (n : Nat) (hn : n < 32) (x : Int32) {i : Nat} (hi : i < 32) : bt (x >>> (nI n &&& 31)) i = if n + i < 32 then bt x (n + i) else bt x 31 := by
  unfold bt
  rw [Int32.toBitVec_shiftRight]
  show (x.toBitVec.sshiftRight ((nI n &&& 31).toBitVec.smod 32).toNat).getLsbD i = _
  rw [s_l n hn, BitVec.getLsbD_sshiftRight, BitVec.msb_eq_getLsbD_last]
  simp [hi]
theorem b_shl8 (x : Int32) {i : Nat} (hi : i < 32) : bt (x <<< ((8 : Int32) &&& 31)) i = (decide (8 ≤ i) && bt x (i - 8)) := b_shl 8 (by omega) x hi
theorem b_shl16 (x : Int32) {i : Nat} (hi : i < 32) : bt (x <<< ((16 : Int32) &&& 31)) i = (decide (16 ≤ i) && bt x (i - 16)) := b_shl 16 (by omega) x hi
theorem b_shl24 (x : Int32) {i : Nat} (hi : i < 32) : bt (x <<< ((24 : Int32) &&& 31)) i = (decide (24 ≤ i) && bt x (i - 24)) := b_shl 24 (by omega) x hi
theorem b_sshr8 (x : Int32) {i : Nat} (hi : i < 32) : bt (x >>> ((8 : Int32) &&& 31)) i = if 8 + i < 32 then bt x (8 + i) else bt x 31 := b_sshr 8 (by omega) x hi
end
section
/-! plain facts on numbers and arrays, to paste: each family by itself; over the kit's rows on nI and upd -/
/-! ===== order of ints, in all its forms, and through longs ===== -/
theorem fa_lt (a b : Int32) : a < b ↔ a.toInt < b.toInt := Int32.lt_iff_toInt_lt
theorem fa_le (a b : Int32) : a ≤ b ↔ a.toInt ≤ b.toInt := Int32.le_iff_toInt_le
theorem fa_eq (a b : Int32) : a = b ↔ a.toInt = b.toInt := Int32.toInt_inj.symm
theorem fa_lt64 (a b : Int64) : a < b ↔ a.toInt < b.toInt := Int64.lt_iff_toInt_lt
theorem fa_le64 (a b : Int64) : a ≤ b ↔ a.toInt ≤ b.toInt := Int64.le_iff_toInt_le
theorem fa_eq64 (a b : Int64) : a = b ↔ a.toInt = b.toInt := Int64.toInt_inj.symm
/-- a comparison of two ints taken as longs -/
theorem fa_wide_lt (a b : Int32) : a.toInt64 < b.toInt64 ↔ a < b := by rw [fa_lt64, fa_lt, Int32.toInt_toInt64, Int32.toInt_toInt64]
theorem fa_wide_le (a b : Int32) : a.toInt64 ≤ b.toInt64 ↔ a ≤ b := by rw [fa_le64, fa_le, Int32.toInt_toInt64, Int32.toInt_toInt64]
theorem fa_wide_eq (a b : Int32) : a.toInt64 = b.toInt64 ↔ a = b := by rw [fa_eq64, fa_eq, Int32.toInt_toInt64, Int32.toInt_toInt64]
/-- one strict comparison gives all the others -/
theorem fa_of_lt {a b : Int32} (h : a < b) : a ≤ b ∧ ¬ b ≤ a ∧ ¬ b < a ∧ a ≠ b ∧ b ≠ a := by
  rw [fa_lt] at h
  refine ⟨?_, ?_, ?_, ?_, ?_⟩
  · rw [fa_le]; omega
  · rw [fa_le]; omega
  · rw [fa_lt]; omega
  · intro e; rw [fa_eq] at e; omega
  · intro e; rw [fa_eq] at e; omega
theorem fa_of_nlt {a b : Int32} (h : ¬ a < b) : b ≤ a := by
  rw [fa_lt] at h
  rw [fa_le]
  omega
theorem fa_of_nle {a b : Int32} (h : ¬ a ≤ b) : b < a := by
  rw [fa_le] at h
  rw [fa_lt]
  omega
theorem fa_le_ne {a b : Int32} (h : a ≤ b) (h2 : a ≠ b) : a < b := by
  rw [fa_le] at h
  rw [fa_lt]
  have h3 : a.toInt ≠ b.toInt := fun e => h2 ((fa_eq a b).mpr e)
  omega
theorem fa_three (a b : Int32) : a < b ∨ a = b ∨ b < a := by
  rw [fa_lt, fa_lt, fa_eq]
  omega
theorem fa_trans {a b c : Int32} (h : a < b) (h2 : b ≤ c) : a < c := by
  rw [fa_lt] at *
  rw [fa_le] at h2
  omega
/-! ===== small literals as numbers ===== -/
theorem fa_lit (n : Nat) : (OfNat.ofNat n : Int32) = nI n := rfl
theorem fa_litL (n : Nat) : (OfNat.ofNat n : Int64) = lN n := rfl
/-! ===== bits of a number: 'or', masks, one bit ===== -/
theorem fa_and (a b : Nat) : nI a &&& nI b = nI (a &&& b) := by
  apply Int32.toBitVec_inj.1
  show BitVec.ofNat 32 a &&& BitVec.ofNat 32 b = BitVec.ofNat 32 (a &&& b)
  apply BitVec.eq_of_getLsbD_eq
  intro i hi
  simp [hi]
theorem fa_or (a b : Nat) : nI a ||| nI b = nI (a ||| b) := by
  apply Int32.toBitVec_inj.1
  show BitVec.ofNat 32 a ||| BitVec.ofNat 32 b = BitVec.ofNat 32 (a ||| b)
  apply BitVec.eq_of_getLsbD_eq
  intro i hi
  simp [hi]
/-- a remainder by a power of two, as a mask -/
theorem fa_mask (n k : Nat) : nI n &&& nI (2 ^ k - 1) = nI (n % 2 ^ k) := by rw [fa_and, Nat.and_two_pow_sub_one_eq_mod]
/-- 'or' of a high part and a low one that don't meet is their sum -/
theorem fa_or_sum {a k : Nat} (b : Nat) (h : a < 2 ^ k) : nI (2 ^ k * b) ||| nI a = nI (2 ^ k * b + a) := by rw [fa_or, Nat.two_pow_add_eq_or_of_lt h]
/-- one bit, by 'and' with a power of two -/
theorem fa_bit {n j : Nat} (hj : j < 31) : nI n &&& nI (2 ^ j) = 0 ↔ n.testBit j = false := by
  have h2 : (2 : Nat) ^ j < 2 ^ 31 := Nat.pow_lt_pow_right (by decide) hj
  have hle : n &&& 2 ^ j ≤ 2 ^ j := Nat.and_le_right
  have e : n &&& 2 ^ j = 0 ↔ n.testBit j = false := by
    constructor
    · intro h
      have h1 : (n &&& 2 ^ j).testBit j = false := by rw [h]; simp
      rw [Nat.testBit_and] at h1
      first | simpa using h1 | simpa [Nat.testBit_two_pow_self] using h1 | simpa [Nat.testBit_two_pow] using h1
    · intro h
      apply Nat.eq_of_testBit_eq
      intro i
      rw [Nat.testBit_and]
      by_cases hi : j = i
      · subst hi; simp [h]
      · first | (simp [Nat.testBit_two_pow, hi]; done) | (simp [Nat.testBit_two_pow_of_ne hi]; done)
  rw [fa_and]
  constructor
  · intro h
    apply e.mp
    rcases Nat.eq_zero_or_pos (n &&& 2 ^ j) with z | z
    · exact z
    · exact absurd h (nI_ne0 z (Nat.lt_of_le_of_lt hle h2))
  · intro h
    rw [e.mpr h]; exact nI_0
/-- a remainder by a power of two of a number that isn't negative, as Java divides -/
theorem fa_rem {a k : Nat} (ha : a < 2 ^ 31) (hk : k < 31) : nI a - nI a / nI (2 ^ k) * nI (2 ^ k) = nI (a % 2 ^ k) := pk_rem ha (Nat.two_pow_pos k) (Nat.pow_lt_pow_right (by decide) hk)
/-! ===== cuts to a byte, a short ===== -/
theorem fa_byte_xor (x y : Int32) : (x ^^^ y).toInt8 = x.toInt8 ^^^ y.toInt8 := by
  apply Int8.toBitVec_inj.1
  apply BitVec.eq_of_getLsbD_eq
  intro i hi
  first | (simp [hi]; done) | (simp [hi, BitVec.getLsbD_setWidth, BitVec.getLsbD_signExtend]; done)
theorem fa_short_xor (x y : Int32) : (x ^^^ y).toInt16 = x.toInt16 ^^^ y.toInt16 := by
  apply Int16.toBitVec_inj.1
  apply BitVec.eq_of_getLsbD_eq
  intro i hi
  first | (simp [hi]; done) | (simp [hi, BitVec.getLsbD_setWidth, BitVec.getLsbD_signExtend]; done)
/-- the cut to a byte sees the low byte alone -/
theorem fa_byte_low (x : Int32) : (x &&& 255).toInt8 = x.toInt8 := by
  apply Int8.toBitVec_inj.1
  apply BitVec.eq_of_getLsbD_eq
  intro i hi
  have h2 : (255 : Int32).toBitVec.getLsbD i = true := by
    have : ∀ j : Fin 8, (255 : Int32).toBitVec.getLsbD j.val = true := by decide +kernel
    exact this ⟨i, hi⟩
  have h4 : (x &&& 255).toBitVec.getLsbD i = x.toBitVec.getLsbD i := by
    show (x.toBitVec &&& (255 : Int32).toBitVec).getLsbD i = _
    rw [BitVec.getLsbD_and, h2, Bool.and_true]
  have h3 : i < 32 := by omega
  first
    | (show (((x &&& 255).toBitVec).signExtend 8).getLsbD i = (x.toBitVec.signExtend 8).getLsbD i; rw [BitVec.getLsbD_signExtend, BitVec.getLsbD_signExtend, if_pos h3, if_pos h3, h4])
    | (show (((x &&& 255).toBitVec).setWidth 8).getLsbD i = (x.toBitVec.setWidth 8).getLsbD i; rw [BitVec.getLsbD_setWidth, BitVec.getLsbD_setWidth, h4])
    | (simp [hi, h3, h4]; done)
theorem fa_short_low (x : Int32) : (x &&& 65535).toInt16 = x.toInt16 := by
  apply Int16.toBitVec_inj.1
  apply BitVec.eq_of_getLsbD_eq
  intro i hi
  have h2 : (65535 : Int32).toBitVec.getLsbD i = true := by
    have : ∀ j : Fin 16, (65535 : Int32).toBitVec.getLsbD j.val = true := by decide +kernel
    exact this ⟨i, hi⟩
  have h4 : (x &&& 65535).toBitVec.getLsbD i = x.toBitVec.getLsbD i := by
    show (x.toBitVec &&& (65535 : Int32).toBitVec).getLsbD i = _
    rw [BitVec.getLsbD_and, h2, Bool.and_true]
  have h3 : i < 32 := by omega
  first
    | (show (((x &&& 65535).toBitVec).signExtend 16).getLsbD i = (x.toBitVec.signExtend 16).getLsbD i; rw [BitVec.getLsbD_signExtend, BitVec.getLsbD_signExtend, if_pos h3, if_pos h3, h4])
    | (show (((x &&& 65535).toBitVec).setWidth 16).getLsbD i = (x.toBitVec.setWidth 16).getLsbD i; rw [BitVec.getLsbD_setWidth, BitVec.getLsbD_setWidth, h4])
    | (simp [hi, h3, h4]; done)
/-- a small number is its own byte, its own short -/
theorem fa_byte_small {n : Nat} (h : n < 128) : (nI n).toInt8.toInt32 = nI n := by
  have : ∀ j : Fin 128, (nI j.val).toInt8.toInt32 = nI j.val := by decide +kernel
  exact this ⟨n, h⟩
/-! ===== absolute difference ===== -/
theorem fa_absdiff {a b : Nat} (ha : a < 2 ^ 31) (hb : b < 2 ^ 31) : (if nI a < nI b then nI b - nI a else nI a - nI b) = nI (if a < b then b - a else a - b) := by
  by_cases h : a < b
  · rw [if_pos (nI_lt h hb), if_pos h]
    exact pk_sub (Nat.le_of_lt h)
  · rw [if_neg (nI_nlt (Nat.le_of_not_lt h) ha), if_neg h]
    exact pk_sub (Nat.le_of_not_lt h)
/-! ===== an array behind i stores, a conditional store, a row copied ===== -/
/-- f where k < i, what stood there else -/
def fa_fill {α : Type} (f g : Nat → α) (i : Nat) : Nat → α := fun k => if k < i then f k else g k
theorem fa_fill_0 {α : Type} (f g : Nat → α) : fa_fill f g 0 = g := funext fun k => if_neg (Nat.not_lt_zero k)
theorem fa_fill_in {α : Type} {f g : Nat → α} {i k : Nat} (h : k < i) : fa_fill f g i k = f k := if_pos h
theorem fa_fill_out {α : Type} {f g : Nat → α} {i k : Nat} (h : i ≤ k) : fa_fill f g i k = g k := if_neg (Nat.not_lt.mpr h)
theorem fa_fill_succ (f g : Nat → Int32) (i : Nat) : upd (fa_fill f g i) i (f i) = fa_fill f g (i + 1) := by
  funext k
  by_cases e : k = i
  · subst e
    rw [pk_us]
    exact (if_pos (Nat.lt_succ_self k)).symm
  · rw [pk_un e]
    by_cases h : k < i
    · rw [fa_fill_in h, fa_fill_in (Nat.lt_succ_of_lt h)]
    · rw [fa_fill_out (Nat.le_of_not_lt h), fa_fill_out (by omega)]
/-- a store that changes nothing -/
theorem fa_upd_same {f : Nat → Int32} {i : Nat} {x : Int32} (h : f i = x) : upd f i x = f := by
  funext k
  by_cases e : k = i
  · subst e
    rw [pk_us, h]
  · rw [pk_un e]
/-- a store under a condition, told as one -/
theorem fa_upd_if (c : Prop) [Decidable c] (f : Nat → Int32) (i : Nat) (x : Int32) : (if c then upd f i x else f) = upd f i (if c then x else f i) := by
  by_cases h : c
  · rw [if_pos h, if_pos h]
  · rw [if_neg h, if_neg h, fa_upd_same rfl]
/-- two stores at one place, at two -/
theorem fa_upd_twice (f : Nat → Int32) (i : Nat) (x y : Int32) : upd (upd f i x) i y = upd f i y := by
  funext k
  by_cases e : k = i
  · subst e
    rw [pk_us, pk_us]
  · rw [pk_un e, pk_un e, pk_un e]
theorem fa_upd_swap (f : Nat → Int32) {i j : Nat} (h : i ≠ j) (x y : Int32) : upd (upd f i x) j y = upd (upd f j y) i x := by
  funext k
  by_cases e : k = i
  · subst e
    rw [pk_un h, pk_us, pk_us]
  · by_cases e2 : k = j
    · subst e2
      rw [pk_us, pk_un e, pk_us]
    · rw [pk_un e2, pk_un e, pk_un e, pk_un e2]
/-! ===== the first index with a property; a count ===== -/
/-- the first k < n with p k, n if there is none -/
def fa_first (p : Nat → Bool) : Nat → Nat
  | 0 => 0
  | n + 1 => if fa_first p n < n then fa_first p n else if p n then n else n + 1
theorem fa_first_le (p : Nat → Bool) : ∀ n, fa_first p n ≤ n
  | 0 => Nat.le_refl 0
  | n + 1 => by
    have ih := fa_first_le p n
    unfold fa_first
    split
    · omega
    · split
      · omega
      · omega
theorem fa_first_no (p : Nat → Bool) : ∀ n k, k < fa_first p n → p k = false
  | 0, k, h => absurd h (Nat.not_lt_zero k)
  | n + 1, k, h => by
    have ih := fa_first_no p n
    have hl := fa_first_le p n
    unfold fa_first at h
    split at h
    · exact ih k h
    · rename_i h1
      split at h
      · exact ih k (by omega)
      · rename_i h2
        by_cases e : k = n
        · subst e
          exact Bool.eq_false_iff.mpr h2
        · exact ih k (by omega)
theorem fa_first_yes (p : Nat → Bool) : ∀ n, fa_first p n < n → p (fa_first p n) = true
  | 0, h => absurd h (Nat.not_lt_zero _)
  | n + 1, h => by
    have ih := fa_first_yes p n
    have hl := fa_first_le p n
    unfold fa_first at h ⊢
    split at h
    · rename_i h1
      rw [if_pos h1]
      exact ih h1
    · rename_i h1
      rw [if_neg h1]
      split at h
      · rename_i h2
        rw [if_pos h2]
        exact h2
      · omega
/-- how many k < n have p k -/
def fa_cnt (p : Nat → Bool) : Nat → Nat
  | 0 => 0
  | n + 1 => fa_cnt p n + if p n then 1 else 0
theorem fa_cnt_le (p : Nat → Bool) : ∀ n, fa_cnt p n ≤ n
  | 0 => Nat.le_refl 0
  | n + 1 => by
    have ih := fa_cnt_le p n
    unfold fa_cnt
    split
    · omega
    · omega
theorem fa_cnt_yes {p : Nat → Bool} {n : Nat} (h : p n = true) : fa_cnt p (n + 1) = fa_cnt p n + 1 := by rw [fa_cnt, if_pos h]
theorem fa_cnt_no {p : Nat → Bool} {n : Nat} (h : p n = false) : fa_cnt p (n + 1) = fa_cnt p n := by rw [fa_cnt, if_neg (by rw [h]; decide)]; rfl
theorem fa_cnt_cong {p q : Nat → Bool} : ∀ {n : Nat}, (∀ k, k < n → p k = q k) → fa_cnt p n = fa_cnt q n
  | 0, _ => rfl
  | n + 1, h => by rw [fa_cnt, fa_cnt, fa_cnt_cong (fun k hk => h k (Nat.lt_succ_of_lt hk)), h n (Nat.lt_succ_self n)]
/-! ===== an answer carried into a post; a branch on a boolean answer ===== -/
theorem fa_post {α : Type} {P : α → Prop} {x y : α} (h : x = y) (hp : P y) : P x := h ▸ hp
theorem fa_post2 {α β : Type} {P : α → β → Prop} {x y : α} {u v : β} (h : x = y) (h2 : u = v) (hp : P y v) : P x u := h ▸ h2 ▸ hp
theorem fa_bool {r : Int32} {b : Bool} (h : r = if b then 1 else 0) : (r = 0 ↔ b = false) ∧ (¬ r = 0 ↔ b = true) := by
  subst h
  cases b
  · exact ⟨⟨fun _ => rfl, fun _ => rfl⟩, ⟨fun h => absurd rfl h, fun h => absurd h (by decide)⟩⟩
  · exact ⟨⟨fun h => absurd h (by decide), fun h => absurd h (by decide)⟩, ⟨fun _ => rfl, fun _ => by decide⟩⟩
/-- a boolean's narrowing changes nothing -/
theorem fa_bool_and {r : Int32} (h : r = 0 ∨ r = 1) : r &&& 1 = r := by
  rcases h with rfl | rfl
  · decide
  · decide
theorem fa_bool_prop {c : Prop} [Decidable c] {r : Int32} (h : r = if c then 1 else 0) : (r = 0 ↔ ¬ c) ∧ (¬ r = 0 ↔ c) := by
  subst h
  by_cases hc : c
  · rw [if_pos hc]
    exact ⟨⟨fun h => absurd h (by decide), fun h => absurd hc h⟩, ⟨fun _ => hc, fun _ => by decide⟩⟩
  · rw [if_neg hc]
    exact ⟨⟨fun _ => hc, fun _ => rfl⟩, ⟨fun h => absurd rfl h, fun h => absurd h hc⟩⟩
end
section
/-! plain facts to paste, each family by itself; over the kit's nI, lN and upd -/
/-! ===== drawers: more things than places ===== -/
theorem fb_holes : ∀ (m n : Nat) (f : Nat → Nat), (∀ i, i < n → f i < m) → (∀ i j, i < j → j < n → f i ≠ f j) → n ≤ m := by
  intro m
  induction m with
  | zero =>
    intro n f h1 _
    rcases Nat.eq_zero_or_pos n with h | h
    · omega
    · exact absurd (h1 0 h) (Nat.not_lt_zero _)
  | succ m ih =>
    intro n f h1 h2
    by_cases hx : ∃ i, i < n ∧ f i = m
    · obtain ⟨a, ha, hfa⟩ := hx
      have hg := ih (n - 1) (fun i => if i < a then f i else f (i + 1)) (by
        intro i hi
        by_cases q : i < a
        · simp only [if_pos q]
          have b1 := h1 i (by omega)
          have b2 := h2 i a q ha
          omega
        · simp only [if_neg q]
          have b1 := h1 (i + 1) (by omega)
          have b2 := h2 a (i + 1) (by omega) (by omega)
          omega) (by
        intro i j hij hj
        by_cases q : i < a
        · by_cases r : j < a
          · simp only [if_pos q, if_pos r]
            exact h2 i j hij (by omega)
          · simp only [if_pos q, if_neg r]
            exact h2 i (j + 1) (by omega) (by omega)
        · have r : ¬ j < a := by omega
          simp only [if_neg q, if_neg r]
          exact h2 (i + 1) (j + 1) (by omega) (by omega))
      omega
    · have hg := ih n f (fun i hi => by
        have b1 := h1 i hi
        have b2 : f i ≠ m := fun e => hx ⟨i, hi, e⟩
        omega) h2
      omega
/-- two of them in one place -/
theorem fb_twice {m n : Nat} {f : Nat → Nat} (h : ∀ i, i < n → f i < m) (hm : m < n) : ∃ i j, i < j ∧ j < n ∧ f i = f j := by
  refine Classical.byContradiction fun hx => ?_
  have := fb_holes m n f h (fun i j hij hj e => hx ⟨i, j, hij, hj, e⟩)
  omega
/-- as many as places, none twice: each place is taken -/
theorem fb_onto {n : Nat} {f : Nat → Nat} (h : ∀ i, i < n → f i < n) (h2 : ∀ i j, i < j → j < n → f i ≠ f j) {y : Nat} (hy : y < n) : ∃ i, i < n ∧ f i = y := by
  refine Classical.byContradiction fun hx => ?_
  have hne : ∀ i, i < n → f i ≠ y := fun i hi e => hx ⟨i, hi, e⟩
  have := fb_holes (n - 1) n (fun i => if f i < y then f i else f i - 1) (by
    intro i hi
    have b1 := h i hi
    have b2 := hne i hi
    by_cases q : f i < y
    · simp only [if_pos q]; omega
    · simp only [if_neg q]; omega) (by
    intro i j hij hj
    have b1 := hne i (by omega)
    have b2 := hne j hj
    have b3 := h2 i j hij hj
    by_cases q : f i < y
    · by_cases r : f j < y
      · simp only [if_pos q, if_pos r]; exact b3
      · simp only [if_pos q, if_neg r]; omega
    · by_cases r : f j < y
      · simp only [if_neg q, if_pos r]; omega
      · simp only [if_neg q, if_neg r]; omega)
  omega
/-! ===== how many places have a property ===== -/
def fb_ct (p : Nat → Bool) : Nat → Nat
  | 0 => 0
  | n + 1 => fb_ct p n + (if p n then 1 else 0)
theorem fb_ct_succ (p : Nat → Bool) (n : Nat) : fb_ct p (n + 1) = fb_ct p n + (if p n then 1 else 0) := rfl
theorem fb_ct_le (p : Nat → Bool) : ∀ n, fb_ct p n ≤ n
  | 0 => Nat.le_refl _
  | n + 1 => by
    have h := fb_ct_le p n
    rw [fb_ct_succ]
    split <;> omega
theorem fb_ct_step (p : Nat → Bool) (m : Nat) : ∀ n, fb_ct p m ≤ fb_ct p (m + n)
  | 0 => Nat.le_refl _
  | n + 1 => by
    have h := fb_ct_step p m n
    show fb_ct p m ≤ fb_ct p (m + n + 1)
    rw [fb_ct_succ]
    omega
theorem fb_ct_mono (p : Nat → Bool) {m n : Nat} (h : m ≤ n) : fb_ct p m ≤ fb_ct p n := by
  have := fb_ct_step p m (n - m)
  rwa [Nat.add_sub_cancel' h] at this
theorem fb_ct_cong {p q : Nat → Bool} : ∀ {n : Nat}, (∀ k, k < n → p k = q k) → fb_ct p n = fb_ct q n
  | 0, _ => rfl
  | n + 1, h => by
    rw [fb_ct_succ, fb_ct_succ, fb_ct_cong (fun k hk => h k (by omega)), h n (by omega)]
/-- one place changed -/
theorem fb_ct_out (p : Nat → Bool) (b : Bool) {i n : Nat} (h : n ≤ i) : fb_ct (fun k => if k = i then b else p k) n = fb_ct p n :=
  fb_ct_cong fun k hk => if_neg (by omega)
theorem fb_ct_upd (p : Nat → Bool) (b : Bool) {i : Nat} : ∀ {n : Nat}, i < n → fb_ct (fun k => if k = i then b else p k) n + (if p i then 1 else 0) = fb_ct p n + (if b then 1 else 0)
  | 0, h => absurd h (Nat.not_lt_zero i)
  | n + 1, h => by
    rw [fb_ct_succ, fb_ct_succ]
    rcases Nat.lt_or_ge i n with q | q
    · have := fb_ct_upd p b q
      have e : (if n = i then b else p n) = p n := if_neg (by omega)
      rw [e]
      omega
    · have e : i = n := by omega
      subst e
      rw [fb_ct_out p b (Nat.le_refl _)]
      simp only [if_true]
      omega
theorem fb_ct_sub {p q : Nat → Bool} : ∀ {n : Nat}, (∀ k, k < n → p k = true → q k = true) → fb_ct p n ≤ fb_ct q n
  | 0, _ => Nat.le_refl _
  | n + 1, h => by
    have h1 := fb_ct_sub (n := n) (p := p) (q := q) (fun k hk => h k (by omega))
    have h2 := h n (by omega)
    rw [fb_ct_succ, fb_ct_succ]
    cases hp : p n <;> cases hq : q n <;> simp_all <;> omega
theorem fb_ct_or {p q : Nat → Bool} : ∀ {n : Nat}, (∀ k, k < n → ¬ (p k = true ∧ q k = true)) → fb_ct (fun k => p k || q k) n = fb_ct p n + fb_ct q n
  | 0, _ => rfl
  | n + 1, h => by
    have h1 := fb_ct_or (n := n) (p := p) (q := q) (fun k hk => h k (by omega))
    have h2 := h n (by omega)
    rw [fb_ct_succ, fb_ct_succ, fb_ct_succ, h1]
    cases hp : p n <;> cases hq : q n <;> simp_all <;> omega
theorem fb_ct_not (p : Nat → Bool) : ∀ n, fb_ct p n + fb_ct (fun k => !p k) n = n
  | 0 => rfl
  | n + 1 => by
    have h := fb_ct_not p n
    rw [fb_ct_succ, fb_ct_succ]
    cases p n <;> simp <;> omega
theorem fb_ct_split (p : Nat → Bool) (m : Nat) : ∀ n, fb_ct p (m + n) = fb_ct p m + fb_ct (fun k => p (m + k)) n
  | 0 => rfl
  | n + 1 => by
    have h := fb_ct_split p m n
    show fb_ct p (m + n + 1) = _
    rw [fb_ct_succ, fb_ct_succ, h, Nat.add_assoc]
theorem fb_ct_zero {p : Nat → Bool} : ∀ {n : Nat}, fb_ct p n = 0 ↔ ∀ k, k < n → p k = false
  | 0 => ⟨fun _ k hk => absurd hk (Nat.not_lt_zero k), fun _ => rfl⟩
  | n + 1 => by
    have h := fb_ct_zero (p := p) (n := n)
    rw [fb_ct_succ]
    constructor
    · intro e k hk
      have e1 : fb_ct p n = 0 := by omega
      rcases Nat.lt_or_ge k n with q | q
      · exact h.mp e1 k q
      · have ek : k = n := by omega
        subst ek
        cases hp : p k
        · rfl
        · simp [hp] at e
    · intro a
      rw [h.mpr (fun k hk => a k (by omega)), a n (by omega)]
      rfl
theorem fb_ct_pos {p : Nat → Bool} {n : Nat} : 0 < fb_ct p n ↔ ∃ k, k < n ∧ p k = true := by
  constructor
  · intro h
    refine Classical.byContradiction fun hx => ?_
    have := fb_ct_zero.mpr (fun k hk => by
      cases hp : p k
      · rfl
      · exact absurd ⟨k, hk, hp⟩ hx : ∀ k, k < n → p k = false)
    omega
  · rintro ⟨k, hk, hp⟩
    rcases Nat.eq_zero_or_pos (fb_ct p n) with e | e
    · have := fb_ct_zero.mp e k hk
      rw [this] at hp
      cases hp
    · exact e
theorem fb_ct_all {p : Nat → Bool} {n : Nat} : fb_ct p n = n ↔ ∀ k, k < n → p k = true := by
  have h := fb_ct_not p n
  constructor
  · intro e k hk
    have z : fb_ct (fun k => !p k) n = 0 := by omega
    have := fb_ct_zero.mp z k hk
    cases hp : p k
    · simp [hp] at this
    · rfl
  · intro a
    have z : fb_ct (fun k => !p k) n = 0 := fb_ct_zero.mpr (fun k hk => by simp [a k hk])
    omega
/-- the k-th place with the property -/
theorem fb_ct_kth {p : Nat → Bool} {k : Nat} : ∀ {n : Nat}, k < fb_ct p n → ∃ i, i < n ∧ p i = true ∧ fb_ct p i = k
  | 0, h => absurd h (Nat.not_lt_zero k)
  | n + 1, h => by
    rcases Nat.lt_or_ge k (fb_ct p n) with q | q
    · obtain ⟨i, h1, h2⟩ := fb_ct_kth q
      exact ⟨i, by omega, h2⟩
    · rw [fb_ct_succ] at h
      cases hp : p n
      · simp [hp] at h; omega
      · simp [hp] at h
        exact ⟨n, by omega, hp, by omega⟩
theorem fb_ct_kth_one {p : Nat → Bool} {i j : Nat} (hi : p i = true) (hj : p j = true) (e : fb_ct p i = fb_ct p j) : i = j := by
  have key : ∀ a b : Nat, a < b → p a = true → fb_ct p a < fb_ct p b := by
    intro a b hab ha
    have h := fb_ct_mono p (show a + 1 ≤ b from hab)
    rw [fb_ct_succ, ha] at h
    simp at h
    omega
  rcases Nat.lt_trichotomy i j with q | q | q
  · have := key i j q hi; omega
  · exact q
  · have := key j i q hj; omega
/-! ===== sums over a range: one place changed, parts, bounds ===== -/
def fb_sm (f : Nat → Nat) : Nat → Nat
  | 0 => 0
  | n + 1 => fb_sm f n + f n
theorem fb_sm_succ (f : Nat → Nat) (n : Nat) : fb_sm f (n + 1) = fb_sm f n + f n := rfl
theorem fb_sm_cong {f g : Nat → Nat} : ∀ {n : Nat}, (∀ k, k < n → f k = g k) → fb_sm f n = fb_sm g n
  | 0, _ => rfl
  | n + 1, h => by rw [fb_sm_succ, fb_sm_succ, fb_sm_cong (fun k hk => h k (by omega)), h n (by omega)]
theorem fb_sm_out (f : Nat → Nat) (v : Nat) {i n : Nat} (h : n ≤ i) : fb_sm (fun k => if k = i then v else f k) n = fb_sm f n :=
  fb_sm_cong fun k hk => if_neg (by omega)
theorem fb_sm_upd (f : Nat → Nat) (v : Nat) {i : Nat} : ∀ {n : Nat}, i < n → fb_sm (fun k => if k = i then v else f k) n + f i = fb_sm f n + v
  | 0, h => absurd h (Nat.not_lt_zero i)
  | n + 1, h => by
    rw [fb_sm_succ, fb_sm_succ]
    rcases Nat.lt_or_ge i n with q | q
    · have := fb_sm_upd f v q
      have e : (if n = i then v else f n) = f n := if_neg (by omega)
      rw [e]
      omega
    · have e : i = n := by omega
      subst e
      rw [fb_sm_out f v (Nat.le_refl _)]
      simp only [if_true]
      omega
theorem fb_sm_add (f g : Nat → Nat) : ∀ n, fb_sm (fun k => f k + g k) n = fb_sm f n + fb_sm g n
  | 0 => rfl
  | n + 1 => by
    have h := fb_sm_add f g n
    rw [fb_sm_succ, fb_sm_succ, fb_sm_succ, h]
    omega
theorem fb_sm_le {f g : Nat → Nat} : ∀ {n : Nat}, (∀ k, k < n → f k ≤ g k) → fb_sm f n ≤ fb_sm g n
  | 0, _ => Nat.le_refl _
  | n + 1, h => by
    have h1 := fb_sm_le (n := n) (f := f) (g := g) (fun k hk => h k (by omega))
    have h2 := h n (by omega)
    rw [fb_sm_succ, fb_sm_succ]
    omega
theorem fb_sm_const (c : Nat) : ∀ n, fb_sm (fun _ => c) n = n * c
  | 0 => by rw [Nat.zero_mul]; rfl
  | n + 1 => by rw [fb_sm_succ, fb_sm_const c n, Nat.succ_mul]
theorem fb_sm_bound {f : Nat → Nat} {c n : Nat} (h : ∀ k, k < n → f k ≤ c) : fb_sm f n ≤ n * c := by
  rw [← fb_sm_const c n]
  exact fb_sm_le h
theorem fb_sm_mono (f : Nat → Nat) (m : Nat) : ∀ n, fb_sm f m ≤ fb_sm f (m + n)
  | 0 => Nat.le_refl _
  | n + 1 => by
    have h := fb_sm_mono f m n
    show fb_sm f m ≤ fb_sm f (m + n + 1)
    rw [fb_sm_succ]
    omega
theorem fb_sm_part (f : Nat → Nat) {i n : Nat} (h : i < n) : fb_sm f i + f i ≤ fb_sm f n := by
  have := fb_sm_mono f (i + 1) (n - (i + 1))
  rw [fb_sm_succ, show i + 1 + (n - (i + 1)) = n by omega] at this
  exact this
theorem fb_sm_split (f : Nat → Nat) (m : Nat) : ∀ n, fb_sm f (m + n) = fb_sm f m + fb_sm (fun k => f (m + k)) n
  | 0 => rfl
  | n + 1 => by
    have h := fb_sm_split f m n
    show fb_sm f (m + n + 1) = _
    rw [fb_sm_succ, fb_sm_succ, h, Nat.add_assoc]
theorem fb_sm_zero {f : Nat → Nat} {n : Nat} (h : fb_sm f n = 0) : ∀ k, k < n → f k = 0 := fun k hk => by
  have := fb_sm_part f hk
  omega
/-- the same over whole numbers -/
def fb_si (f : Nat → Int) : Nat → Int
  | 0 => 0
  | n + 1 => fb_si f n + f n
theorem fb_si_succ (f : Nat → Int) (n : Nat) : fb_si f (n + 1) = fb_si f n + f n := rfl
theorem fb_si_cong {f g : Nat → Int} : ∀ {n : Nat}, (∀ k, k < n → f k = g k) → fb_si f n = fb_si g n
  | 0, _ => rfl
  | n + 1, h => by rw [fb_si_succ, fb_si_succ, fb_si_cong (fun k hk => h k (by omega)), h n (by omega)]
theorem fb_si_out (f : Nat → Int) (v : Int) {i n : Nat} (h : n ≤ i) : fb_si (fun k => if k = i then v else f k) n = fb_si f n :=
  fb_si_cong fun k hk => if_neg (by omega)
theorem fb_si_upd (f : Nat → Int) (v : Int) {i : Nat} : ∀ {n : Nat}, i < n → fb_si (fun k => if k = i then v else f k) n = fb_si f n - f i + v
  | 0, h => absurd h (Nat.not_lt_zero i)
  | n + 1, h => by
    rw [fb_si_succ, fb_si_succ]
    rcases Nat.lt_or_ge i n with q | q
    · have := fb_si_upd f v q
      have e : (if n = i then v else f n) = f n := if_neg (by omega)
      rw [e]
      omega
    · have e : i = n := by omega
      subst e
      rw [fb_si_out f v (Nat.le_refl _)]
      simp only [if_true]
      omega
theorem fb_si_add (f g : Nat → Int) : ∀ n, fb_si (fun k => f k + g k) n = fb_si f n + fb_si g n
  | 0 => rfl
  | n + 1 => by
    have h := fb_si_add f g n
    rw [fb_si_succ, fb_si_succ, fb_si_succ, h]
    omega
theorem fb_si_sub (f g : Nat → Int) : ∀ n, fb_si (fun k => f k - g k) n = fb_si f n - fb_si g n
  | 0 => rfl
  | n + 1 => by
    have h := fb_si_sub f g n
    rw [fb_si_succ, fb_si_succ, fb_si_succ, h]
    omega
theorem fb_si_mul (c : Int) (f : Nat → Int) : ∀ n, fb_si (fun k => c * f k) n = c * fb_si f n
  | 0 => (Int.mul_zero c).symm
  | n + 1 => by
    have h := fb_si_mul c f n
    rw [fb_si_succ, fb_si_succ, h, Int.mul_add]
theorem fb_si_split (f : Nat → Int) (m : Nat) : ∀ n, fb_si f (m + n) = fb_si f m + fb_si (fun k => f (m + k)) n
  | 0 => (Int.add_zero _).symm
  | n + 1 => by
    have h := fb_si_split f m n
    show fb_si f (m + n + 1) = _
    rw [fb_si_succ, fb_si_succ, h, Int.add_assoc]
theorem fb_si_nat (f : Nat → Nat) : ∀ n, fb_si (fun k => (f k : Int)) n = (fb_sm f n : Int)
  | 0 => rfl
  | n + 1 => by
    have h := fb_si_nat f n
    rw [fb_si_succ, fb_sm_succ, h]
    omega
theorem fb_si_bound {f : Nat → Int} {c : Int} (hc : 0 ≤ c) : ∀ {n : Nat}, (∀ k, k < n → -c ≤ f k ∧ f k ≤ c) → -(n * c) ≤ fb_si f n ∧ fb_si f n ≤ n * c
  | 0, _ => by simp [fb_si]
  | n + 1, h => by
    have h1 := fb_si_bound (n := n) (f := f) hc (fun k hk => h k (by omega))
    have h2 := h n (by omega)
    have e : ((n + 1 : Nat) : Int) * c = n * c + c := by rw [Int.natCast_add, Int.add_mul]; simp
    rw [fb_si_succ, e]
    omega
/-! ===== bits of a long that isn't negative ===== -/
theorem fb_andL (a b : Nat) : lN a &&& lN b = lN (a &&& b) := by
  apply Int64.toBitVec_inj.1
  show BitVec.ofNat 64 a &&& BitVec.ofNat 64 b = BitVec.ofNat 64 (a &&& b)
  apply BitVec.eq_of_getLsbD_eq
  intro i hi
  simp [hi]
theorem fb_orL (a b : Nat) : lN a ||| lN b = lN (a ||| b) := by
  apply Int64.toBitVec_inj.1
  show BitVec.ofNat 64 a ||| BitVec.ofNat 64 b = BitVec.ofNat 64 (a ||| b)
  apply BitVec.eq_of_getLsbD_eq
  intro i hi
  simp [hi]
theorem fb_xorL (a b : Nat) : lN a ^^^ lN b = lN (a ^^^ b) := by
  apply Int64.toBitVec_inj.1
  show BitVec.ofNat 64 a ^^^ BitVec.ofNat 64 b = BitVec.ofNat 64 (a ^^^ b)
  apply BitVec.eq_of_getLsbD_eq
  intro i hi
  simp [hi]
theorem fb_xorI (a b : Nat) : nI a ^^^ nI b = nI (a ^^^ b) := by
  apply Int32.toBitVec_inj.1
  show BitVec.ofNat 32 a ^^^ BitVec.ofNat 32 b = BitVec.ofNat 32 (a ^^^ b)
  apply BitVec.eq_of_getLsbD_eq
  intro i hi
  simp [hi]
theorem fb_maskL (n k : Nat) : lN n &&& lN (2 ^ k - 1) = lN (n % 2 ^ k) := by rw [fb_andL, Nat.and_two_pow_sub_one_eq_mod]
theorem fb_or_sumL {a k : Nat} (b : Nat) (h : a < 2 ^ k) : lN (2 ^ k * b) ||| lN a = lN (2 ^ k * b + a) := by rw [fb_orL, Nat.two_pow_add_eq_or_of_lt h]
theorem fb_lN_inj {a b : Nat} (ha : a < 2 ^ 63) (hb : b < 2 ^ 63) : lN a = lN b ↔ a = b := by
  constructor
  · intro h
    have h1 : (BitVec.ofNat 64 a).toNat = (BitVec.ofNat 64 b).toNat := congrArg (fun x : Int64 => x.toBitVec.toNat) h
    rw [BitVec.toNat_ofNat, BitVec.toNat_ofNat, Nat.mod_eq_of_lt (by omega), Nat.mod_eq_of_lt (by omega)] at h1
    exact h1
  · rintro rfl; rfl
theorem fb_bit_nat (n j : Nat) : n &&& 2 ^ j = 0 ↔ n.testBit j = false := by
  constructor
  · intro h
    have h1 : (n &&& 2 ^ j).testBit j = false := by rw [h]; simp
    rw [Nat.testBit_and] at h1
    simpa using h1
  · intro h
    apply Nat.eq_of_testBit_eq
    intro i
    rw [Nat.testBit_and]
    by_cases hi : j = i
    · subst hi; simp [h]
    · first | (simp [Nat.testBit_two_pow, hi]; done) | (simp [Nat.testBit_two_pow_of_ne hi]; done)
/-- one bit of a long -/
theorem fb_bitL {n j : Nat} (hj : j < 63) : lN n &&& lN (2 ^ j) = 0 ↔ n.testBit j = false := by
  have h2 : (2 : Nat) ^ j < 2 ^ 63 := Nat.pow_lt_pow_right (by decide) hj
  have hle : n &&& 2 ^ j ≤ 2 ^ j := Nat.and_le_right
  rw [fb_andL, ← fb_bit_nat, show (0 : Int64) = lN 0 from rfl]
  exact fb_lN_inj (by omega) (by decide)
/-- a bit set, a bit taken off -/
theorem fb_bit_set (n j i : Nat) : (n ||| 2 ^ j).testBit i = (n.testBit i || decide (i = j)) := by
  rw [Nat.testBit_or]
  by_cases h : j = i
  · subst h; simp
  · have h2 : ¬ i = j := fun e => h e.symm
    first | (simp [Nat.testBit_two_pow, h, h2]; done) | (simp [Nat.testBit_two_pow_of_ne h, h2]; done)
theorem fb_bit_flip (n j i : Nat) : (n ^^^ 2 ^ j).testBit i = (n.testBit i ^^ decide (i = j)) := by
  rw [Nat.testBit_xor]
  by_cases h : j = i
  · subst h; simp
  · have h2 : ¬ i = j := fun e => h e.symm
    first | (simp [Nat.testBit_two_pow, h, h2]; done) | (simp [Nat.testBit_two_pow_of_ne h, h2]; done)
/-! ===== a stretch of an array written over by a function ===== -/
def fb_put {α : Type} (f g : Nat → α) (a n : Nat) : Nat → α := fun k => if a ≤ k ∧ k < a + n then g (k - a) else f k
theorem fb_put_0 {α : Type} (f g : Nat → α) (a : Nat) : fb_put f g a 0 = f := funext fun k => if_neg (by omega)
theorem fb_put_in {α : Type} {f g : Nat → α} {a n k : Nat} (h1 : a ≤ k) (h2 : k < a + n) : fb_put f g a n k = g (k - a) := if_pos ⟨h1, h2⟩
theorem fb_put_out {α : Type} {f g : Nat → α} {a n k : Nat} (h : k < a ∨ a + n ≤ k) : fb_put f g a n k = f k := if_neg (by omega)
theorem fb_put_succ (f g : Nat → Int32) (a n : Nat) : upd (fb_put f g a n) (a + n) (g n) = fb_put f g a (n + 1) := by
  funext k
  by_cases h : k = a + n
  · subst h
    simp [upd, fb_put]
  · by_cases h1 : a ≤ k ∧ k < a + n
    · have h2 : a ≤ k ∧ k < a + (n + 1) := by omega
      simp only [upd, fb_put, if_neg h, if_pos h1, if_pos h2]
    · have h2 : ¬ (a ≤ k ∧ k < a + (n + 1)) := by omega
      simp only [upd, fb_put, if_neg h, if_neg h1, if_neg h2]
/-- .. from the far end down -/
theorem fb_put_down (f g : Nat → Int32) {a n m : Nat} (h : m < n) : upd (fb_put f (fun k => g (k + (m + 1))) (a + (m + 1)) (n - (m + 1))) (a + m) (g m) = fb_put f (fun k => g (k + m)) (a + m) (n - m) := by
  funext k
  by_cases h0 : k = a + m
  · subst h0
    simp only [upd, if_true]
    rw [fb_put_in (by omega) (by omega)]
    exact congrArg g (by omega)
  · simp only [upd, if_neg h0]
    by_cases h1 : a + (m + 1) ≤ k ∧ k < a + (m + 1) + (n - (m + 1))
    · rw [fb_put_in h1.1 h1.2, fb_put_in (by omega) (by omega)]
      exact congrArg g (by omega)
    · rw [fb_put_out (by omega), fb_put_out (by omega)]
theorem fb_put_cong {α : Type} {f f2 g g2 : Nat → α} {a n : Nat} (hf : ∀ k, (k < a ∨ a + n ≤ k) → f k = f2 k) (hg : ∀ k, k < n → g k = g2 k) : fb_put f g a n = fb_put f2 g2 a n := by
  funext k
  by_cases h : a ≤ k ∧ k < a + n
  · rw [fb_put_in h.1 h.2, fb_put_in h.1 h.2, hg _ (by omega)]
  · rw [fb_put_out (by omega), fb_put_out (by omega), hf _ (by omega)]
/-! ===== the least, the first, the best so far; that there is one alone ===== -/
theorem fb_first {p : Nat → Prop} [DecidablePred p] : ∀ {n : Nat}, (∃ i, i < n ∧ p i) → ∃ i, i < n ∧ p i ∧ ∀ j, j < i → ¬ p j
  | 0, h => by obtain ⟨i, hi, -⟩ := h; exact absurd hi (Nat.not_lt_zero i)
  | n + 1, h => by
    by_cases q : ∃ i, i < n ∧ p i
    · obtain ⟨i, h1, h2⟩ := fb_first q
      exact ⟨i, by omega, h2⟩
    · obtain ⟨i, h1, h2⟩ := h
      have e : i = n := by
        rcases Nat.lt_or_ge i n with r | r
        · exact absurd ⟨i, r, h2⟩ q
        · omega
      subst e
      exact ⟨i, by omega, h2, fun j hj hp => q ⟨j, hj, hp⟩⟩
theorem fb_first_one {p : Nat → Prop} {i j : Nat} (hi : p i) (hi2 : ∀ k, k < i → ¬ p k) (hj : p j) (hj2 : ∀ k, k < j → ¬ p k) : i = j := by
  rcases Nat.lt_trichotomy i j with q | q | q
  · exact absurd hi (hj2 i q)
  · exact q
  · exact absurd hj (hi2 j q)
theorem fb_last {p : Nat → Prop} [DecidablePred p] : ∀ {n : Nat}, (∃ i, i < n ∧ p i) → ∃ i, i < n ∧ p i ∧ ∀ j, i < j → j < n → ¬ p j
  | 0, h => by obtain ⟨i, hi, -⟩ := h; exact absurd hi (Nat.not_lt_zero i)
  | n + 1, h => by
    by_cases q : p n
    · exact ⟨n, by omega, q, fun j h1 h2 => by omega⟩
    · obtain ⟨i, h1, h2⟩ := h
      have hi : i < n := by
        rcases Nat.lt_or_ge i n with r | r
        · exact r
        · have e : i = n := by omega
          subst e
          exact absurd h2 q
      obtain ⟨i2, a1, a2, a3⟩ := fb_last (n := n) ⟨i, hi, h2⟩
      refine ⟨i2, by omega, a2, fun j b1 b2 => ?_⟩
      rcases Nat.lt_or_ge j n with r | r
      · exact a3 j b1 r
      · have e : j = n := by omega
        subst e
        exact q
/-- the first greatest -/
theorem fb_best (f : Nat → Int) : ∀ {n : Nat}, 0 < n → ∃ i, i < n ∧ (∀ j, j < n → f j ≤ f i) ∧ ∀ j, j < i → f j < f i
  | 0, h => absurd h (Nat.lt_irrefl 0)
  | 1, _ => ⟨0, by omega, fun j hj => by have e : j = 0 := by omega
                                         subst e; exact Int.le_refl _, fun j hj => absurd hj (Nat.not_lt_zero j)⟩
  | n + 2, _ => by
    obtain ⟨i, h1, h2, h3⟩ := fb_best f (n := n + 1) (by omega)
    by_cases q : f i < f (n + 1)
    · refine ⟨n + 1, by omega, fun j hj => ?_, fun j hj => ?_⟩
      · rcases Nat.lt_or_ge j (n + 1) with r | r
        · have := h2 j r; omega
        · have e : j = n + 1 := by omega
          subst e; exact Int.le_refl _
      · have := h2 j hj; omega
    · refine ⟨i, by omega, fun j hj => ?_, h3⟩
      rcases Nat.lt_or_ge j (n + 1) with r | r
      · exact h2 j r
      · have e : j = n + 1 := by omega
        subst e; omega
theorem fb_best_one {f : Nat → Int} {n i j : Nat} (hi : i < n) (hi2 : ∀ k, k < n → f k ≤ f i) (hi3 : ∀ k, k < i → f k < f i) (hj : j < n) (hj2 : ∀ k, k < n → f k ≤ f j) (hj3 : ∀ k, k < j → f k < f j) : i = j := by
  rcases Nat.lt_trichotomy i j with q | q | q
  · have a := hj3 i q
    have b := hi2 j hj
    omega
  · exact q
  · have a := hi3 j q
    have b := hj2 i hi
    omega
/-- the first least -/
theorem fb_low (f : Nat → Int) {n : Nat} (h : 0 < n) : ∃ i, i < n ∧ (∀ j, j < n → f i ≤ f j) ∧ ∀ j, j < i → f i < f j := by
  obtain ⟨i, h1, h2, h3⟩ := fb_best (fun k => -f k) h
  exact ⟨i, h1, fun j hj => by have := h2 j hj; omega, fun j hj => by have := h3 j hj; omega⟩
/-! ===== signed ints as whole numbers, within bounds ===== -/
theorem fb_rng (x : Int32) : -2147483648 ≤ x.toInt ∧ x.toInt < 2147483648 := by
  have h1 := Int32.le_toInt x
  have h2 := Int32.toInt_lt x
  omega
theorem fb_bmod {z : Int} (h1 : -2147483648 ≤ z) (h2 : z < 2147483648) : z.bmod (2 ^ 32) = z := by
  rw [Int.bmod_eq_of_le (by omega) (by omega)]
theorem fb_addI {x y : Int32} (h1 : -2147483648 ≤ x.toInt + y.toInt) (h2 : x.toInt + y.toInt < 2147483648) : (x + y).toInt = x.toInt + y.toInt := by
  rw [Int32.toInt_add, fb_bmod h1 h2]
theorem fb_subI {x y : Int32} (h1 : -2147483648 ≤ x.toInt - y.toInt) (h2 : x.toInt - y.toInt < 2147483648) : (x - y).toInt = x.toInt - y.toInt := by
  rw [Int32.toInt_sub, fb_bmod h1 h2]
theorem fb_mulI {x y : Int32} (h1 : -2147483648 ≤ x.toInt * y.toInt) (h2 : x.toInt * y.toInt < 2147483648) : (x * y).toInt = x.toInt * y.toInt := by
  rw [Int32.toInt_mul, fb_bmod h1 h2]
theorem fb_negI {x : Int32} (h : x.toInt ≠ -2147483648) : (-x).toInt = -x.toInt := by
  have := fb_rng x
  rw [Int32.toInt_neg, fb_bmod (by omega) (by omega)]
theorem fb_ofI {z : Int} (h1 : -2147483648 ≤ z) (h2 : z < 2147483648) : (Int32.ofInt z).toInt = z := by
  rw [Int32.toInt_ofInt, fb_bmod h1 h2]
theorem fb_asI (x : Int32) : Int32.ofInt x.toInt = x := Int32.ofInt_toInt x
theorem fb_rngL (x : Int64) : -9223372036854775808 ≤ x.toInt ∧ x.toInt < 9223372036854775808 := by
  have h1 := Int64.le_toInt x
  have h2 := Int64.toInt_lt x
  omega
theorem fb_bmodL {z : Int} (h1 : -9223372036854775808 ≤ z) (h2 : z < 9223372036854775808) : z.bmod (2 ^ 64) = z := by
  rw [Int.bmod_eq_of_le (by omega) (by omega)]
theorem fb_addL {x y : Int64} (h1 : -9223372036854775808 ≤ x.toInt + y.toInt) (h2 : x.toInt + y.toInt < 9223372036854775808) : (x + y).toInt = x.toInt + y.toInt := by
  rw [Int64.toInt_add, fb_bmodL h1 h2]
theorem fb_subL {x y : Int64} (h1 : -9223372036854775808 ≤ x.toInt - y.toInt) (h2 : x.toInt - y.toInt < 9223372036854775808) : (x - y).toInt = x.toInt - y.toInt := by
  rw [Int64.toInt_sub, fb_bmodL h1 h2]
theorem fb_mulL {x y : Int64} (h1 : -9223372036854775808 ≤ x.toInt * y.toInt) (h2 : x.toInt * y.toInt < 9223372036854775808) : (x * y).toInt = x.toInt * y.toInt := by
  rw [Int64.toInt_mul, fb_bmodL h1 h2]
/-! ===== cuts of what is narrow already ===== -/
theorem fb_byte {x : Int32} (h1 : -128 ≤ x.toInt) (h2 : x.toInt < 128) : x.toInt8.toInt32 = x := by
  apply Int32.toInt_inj.1
  rw [Int8.toInt_toInt32, Int32.toInt_toInt8, Int.bmod_eq_of_le (by omega) (by omega)]
theorem fb_short {x : Int32} (h1 : -32768 ≤ x.toInt) (h2 : x.toInt < 32768) : x.toInt16.toInt32 = x := by
  apply Int32.toInt_inj.1
  rw [Int16.toInt_toInt32, Int32.toInt_toInt16, Int.bmod_eq_of_le (by omega) (by omega)]
theorem fb_byte_rng (x : Int32) : -128 ≤ x.toInt8.toInt32.toInt ∧ x.toInt8.toInt32.toInt < 128 := by
  rw [Int8.toInt_toInt32]
  have h1 := Int8.le_toInt x.toInt8
  have h2 := Int8.toInt_lt x.toInt8
  omega
theorem fb_short_rng (x : Int32) : -32768 ≤ x.toInt16.toInt32.toInt ∧ x.toInt16.toInt32.toInt < 32768 := by
  rw [Int16.toInt_toInt32]
  have h1 := Int16.le_toInt x.toInt16
  have h2 := Int16.toInt_lt x.toInt16
  omega
theorem fb_byte_twice (x : Int32) : x.toInt8.toInt32.toInt8.toInt32 = x.toInt8.toInt32 := fb_byte (fb_byte_rng x).1 (fb_byte_rng x).2
theorem fb_short_twice (x : Int32) : x.toInt16.toInt32.toInt16.toInt32 = x.toInt16.toInt32 := fb_short (fb_short_rng x).1 (fb_short_rng x).2
theorem fb_char {n : Nat} (h : n < 65536) : (nI n).toUInt32.toUInt16.toUInt32.toInt32 = nI n := by
  apply Int32.toBitVec_inj.1
  apply BitVec.eq_of_toNat_eq
  have e1 : (nI n).toBitVec.toNat = n := by
    show (BitVec.ofNat 32 n).toNat = n
    rw [BitVec.toNat_ofNat, Nat.mod_eq_of_lt (by omega)]
  have e2 : ((nI n).toUInt32.toUInt16.toUInt32).toNat = n := by
    rw [UInt16.toNat_toUInt32, UInt32.toNat_toUInt16]
    show (nI n).toBitVec.toNat % 2 ^ 16 = n
    rw [e1, Nat.mod_eq_of_lt (by omega)]
  rw [e1]
  exact e2
end
section
/-! ===== what a formula's parts say ===== -/
/-- the set of the cells among the first parts -/
def rsM (kd nm : Nat → Int32) : Nat → Int32
  | 0 => 0
  | i + 1 => if kd i = 13 then rsM kd nm i ||| ((1 : Int32) <<< (nm i &&& 31)) else rsM kd nm i
/-- an operation; none is a fault -/
def opF (o a b : Int32) : Option Int32 :=
  if o = 0 then some (a + b) else if o = 1 then some (a - b) else if o = 2 then some (a * b) else if o = 3 then (if b = 0 then none else some (a / b)) else
  if o = 4 then some (if b < a then b else a) else if o = 5 then some (if a < b then b else a) else if o = 6 then some (if a < b then 1 else 0) else if o = 7 then some (if a = b then 1 else 0) else
  if o = 8 then some (a &&& b) else if o = 9 then some (a ||| b) else if o = 10 then some (a <<< (b &&& 31)) else some (a >>> (b &&& 31))
abbrev gF : Int64 := 4294967296
/-- a value that may be a fault, as the class writes it -/
def oL (o : Option Int32) : Int64 := match o with
  | none => gF
  | some x => x.toInt64
theorem oL_ne (x : Int32) : x.toInt64 ≠ gF := by
  intro h
  have h1 : x.toInt64.toInt = gF.toInt := by rw [h]
  rw [Int32.toInt_toInt64] at h1
  have h2 := Int32.toInt_lt x
  have h3 : gF.toInt = 4294967296 := by decide
  omega
theorem oL_some {o : Option Int32} (h : ¬ oL o = gF) : ∃ x, o = some x := by
  cases o with
  | none => exact absurd rfl h
  | some x => exact ⟨x, rfl⟩
/-- one part laid on the values that stand -/
def evS (V : Nat → Option Int32) (kd nm : Int32) (st : List Int32) : Option (List Int32) :=
  if kd = 12 then some (nm :: st) else if kd = 13 then (V nm.toNatClampNeg).map (fun x => x :: st) else
  match st with
  | b :: a :: r => (opF kd a b).map (fun x => x :: r)
  | _ => none
/-- the values that stand behind the first parts; none: a fault -/
def evN (V : Nat → Option Int32) (kd nm : Nat → Int32) : Nat → Option (List Int32)
  | 0 => some []
  | i + 1 => (evN V kd nm i).bind (evS V (kd i) (nm i))
theorem evN_none {V : Nat → Option Int32} {kd nm : Nat → Int32} {i : Nat} (h : evN V kd nm i = none) : ∀ j, evN V kd nm (i + j) = none
  | 0 => h
  | j + 1 => by
    show (evN V kd nm (i + j)).bind _ = none
    rw [evN_none h j]
    rfl
/-- a formula's value -/
def evF (V : Nat → Option Int32) (kd nm : Nat → Int32) (n : Nat) : Option Int32 := (evN V kd nm n).bind List.head?
/-- how many values stand behind the first parts -/
def dep (kd : Nat → Int32) : Nat → Nat
  | 0 => 0
  | i + 1 => if kd i < 12 then dep kd i - 1 else dep kd i + 1
theorem dep_le (kd : Nat → Int32) : ∀ i, dep kd i ≤ i
  | 0 => Nat.le_refl 0
  | i + 1 => by
    unfold dep
    have := dep_le kd i
    split <;> omega
/-- parts that make formulas: an operation finds two, a kind is a kind, a cell is a cell -/
def okP (kd nm : Nat → Int32) (n : Nat) : Prop := ∀ i, i < n → (¬ kd i < 0 ∧ kd i ≤ 13) ∧ (kd i < 12 → 2 ≤ dep kd i) ∧ (kd i = 13 → isC (nm i))
theorem evS_len {V : Nat → Option Int32} {kd nm : Int32} {st st' : List Int32} (h : evS V kd nm st = some st') (hk : ¬ kd < 12 → kd = 12 ∨ kd = 13) : st'.length = if kd < 12 then st.length - 1 else st.length + 1 := by
  unfold evS at h
  by_cases h1 : kd = 12
  · subst h1; rw [if_pos rfl] at h; cases h; rfl
  · rw [if_neg h1] at h
    by_cases h2 : kd = 13
    · subst h2
      rw [if_pos rfl] at h
      cases hv : V nm.toNatClampNeg with
      | none => rw [hv] at h; cases h
      | some x => rw [hv] at h; cases h; rfl
    · rw [if_neg h2] at h
      have h3 : kd < 12 := by
        rcases Classical.em (kd < 12) with q | q
        · exact q
        · rcases hk q with q | q
          · exact absurd q h1
          · exact absurd q h2
      rw [if_pos h3]
      match st, h with
      | b :: a :: r, h =>
        cases ho : opF kd a b with
        | none => simp only [ho] at h; cases h
        | some x => simp only [ho] at h; cases h; rfl
      | [b], h => cases h
      | [], h => cases h
theorem evN_len {V : Nat → Option Int32} {kd nm : Nat → Int32} {n : Nat} (hk : ∀ i, i < n → ¬ kd i < 12 → kd i = 12 ∨ kd i = 13) : ∀ (i : Nat), i ≤ n → ∀ st, evN V kd nm i = some st → st.length = dep kd i
  | 0, _, st, h => by cases h; rfl
  | i + 1, hi, st, h => by
    have h1 : (evN V kd nm i).bind (evS V (kd i) (nm i)) = some st := h
    cases he : evN V kd nm i with
    | none => rw [he] at h1; cases h1
    | some s0 =>
      rw [he] at h1
      have h2 := evN_len hk i (by omega) s0 he
      have h3 := evS_len (V := V) (st := s0) (st' := st) h1 (hk i (by omega))
      rw [h3, h2]
      rfl
/-- what the machine's remainder is, toward below -/
def fmJ (x y : Int32) : Int32 := if 0 ≤ x ^^^ y then x - x / y * y else if x - x / y * y = 0 then x - x / y * y else x - x / y * y + y
/-- how many bits, as the library counts them -/
def bc1 (x : Int32) : Int32 := x - ((x.toUInt32 >>> ((1 : Int32).toUInt32 &&& Int32.toUInt32 31)).toInt32 &&& 1431655765)
def bc2 (x : Int32) : Int32 := (x &&& 858993459) + ((x.toUInt32 >>> ((2 : Int32).toUInt32 &&& Int32.toUInt32 31)).toInt32 &&& 858993459)
def bc3 (x : Int32) : Int32 := (x + (x.toUInt32 >>> ((4 : Int32).toUInt32 &&& Int32.toUInt32 31)).toInt32) &&& 252645135
def bc4 (x : Int32) : Int32 := x + (x.toUInt32 >>> ((8 : Int32).toUInt32 &&& Int32.toUInt32 31)).toInt32
def bc5 (x : Int32) : Int32 := x + (x.toUInt32 >>> ((16 : Int32).toUInt32 &&& Int32.toUInt32 31)).toInt32
def bcJ (x : Int32) : Int32 := bc5 (bc4 (bc3 (bc2 (bc1 x)))) &&& 63
end
section
/-! ===== leaves: printed by g10.py ===== -/
set_option maxRecDepth 100000 in
set_option maxHeartbeats 4000000 in
theorem c_has {l : Launch} {D : va_G} {ad : Nat → Nat → Nat} {aC : Nat → ClassId} (σ : gSig) (τ : gTau) (set cell : Int32) : CZ l D ad aC yX5_has cX5_has 2 (some .boolean) 0 [.int set, .int cell] σ τ (gEq (some (.int (b2i (hasB set cell)))) σ τ) := by
  refine CZ.of (own := RX5) (by decide) rfl (Nat.le_of_ble_eq_true rfl) (fun S C => ?_)
  refine r_iload_n C dX5_has_0 rfl rfl ?_
  refine r_iflt (tgt := 22) C dX5_has_1 (by decide) (fun c1 => ?_) (fun c1 => ?_)
  · refine r_iconst (v := 0) C dX5_has_22 rfl ?_
    exact r_zret C dX5_has_23 rfl (by decide) (by decide) ⟨by simp [hasB, b2i, *], rfl, rfl⟩
  · refine r_iload_n C dX5_has_4 rfl rfl ?_
    refine r_bipush (v := 16) C dX5_has_5 rfl ?_
    refine r_icmpge (tgt := 22) C dX5_has_7 (by decide) (fun c7 => ?_) (fun c7 => ?_)
    · have n7 := Int32.not_lt.mpr c7
      refine r_iconst (v := 0) C dX5_has_22 rfl ?_
      exact r_zret C dX5_has_23 rfl (by decide) (by decide) ⟨by simp [hasB, b2i, *], rfl, rfl⟩
    · have n7 := Int32.not_le.mp c7
      refine r_iload_n C dX5_has_10 rfl rfl ?_
      refine r_iload_n C dX5_has_11 rfl rfl ?_
      refine r_ishr C dX5_has_12 ?_
      refine r_iconst (v := 1) C dX5_has_13 rfl ?_
      refine r_iand C dX5_has_14 ?_
      refine r_ifeq (tgt := 22) C dX5_has_15 (by decide) (fun c15 => ?_) (fun c15 => ?_)
      · refine r_iconst (v := 0) C dX5_has_22 rfl ?_
        exact r_zret C dX5_has_23 rfl (by decide) (by decide) ⟨by simp [hasB, b2i, *], rfl, rfl⟩
      · refine r_iconst (v := 1) C dX5_has_18 rfl ?_
        refine r_goto (tgt := 23) C dX5_has_19 (by decide) ?_
        exact r_zret C dX5_has_23 rfl (by decide) (by decide) ⟨by simp [hasB, b2i, *], rfl, rfl⟩
def gPX (E0 : String) (σ0 : gSig) (τ0 : gTau) : String → gSig → gTau → Prop := fun E σ τ => E0 = E ∧ σ0 = σ ∧ τ0 = τ
abbrev xIOB : String := "java/lang/IndexOutOfBoundsException"
abbrev xIAE : String := "java/lang/IllegalArgumentException"
abbrev xISE : String := "java/lang/IllegalStateException"
abbrev xARI : String := "java/lang/ArithmeticException"
abbrev xNSE : String := "java/util/NoSuchElementException"
set_option maxRecDepth 100000 in
set_option maxHeartbeats 4000000 in
theorem c_needCell {l : Launch} {D : va_G} {ad : Nat → Nat → Nat} {aC : Nat → ClassId} (σ : gSig) (τ : gTau) (cell : Int32) : CT l D ad aC yX5_needCell cX5_needCell 1 none 6 1 [.int cell] σ τ (fun r σ' τ' => gEq none σ τ r σ' τ' ∧ isC cell) (fun E σ' τ' => E = xIOB ∧ σ = σ' ∧ τ = τ' ∧ ¬ isC cell) := by
  refine CT.of (own := RX5) (by decide) rfl (Nat.le_of_ble_eq_true rfl) (fun S C => ?_)
  refine r_iload_n C dX5_needCell_0 rfl rfl ?_
  refine r_iflt (tgt := 10) C dX5_needCell_1 (by decide) (fun c1 => ?_) (fun c1 => ?_)
  · obtain ⟨⟨t1, t2⟩, ⟨t3, t4⟩, t5, t6⟩ := kt_X5_225_229
    exact r_throw (is := 233) (text := "no such cell") C trivial t1 t2 t3 t4 (by decide +kernel) t5 dX5_needCell_10 dX5_needCell_13 dX5_needCell_14 dX5_needCell_16 dX5_needCell_19 (by decide) (by decide) (by decide) t6 ⟨rfl, rfl, rfl, by simp [isC, *]⟩
  · refine r_iload_n C dX5_needCell_4 rfl rfl ?_
    refine r_bipush (v := 16) C dX5_needCell_5 rfl ?_
    refine r_icmplt (tgt := 20) C dX5_needCell_7 (by decide) (fun c7 => ?_) (fun c7 => ?_)
    · have n7 := Int32.not_le.mpr c7
      exact r_ret C dX5_needCell_20 rfl (by decide) ⟨⟨rfl, rfl, rfl⟩, by simp [isC, *]⟩
    · have n7 := Int32.not_lt.mp c7
      obtain ⟨⟨t1, t2⟩, ⟨t3, t4⟩, t5, t6⟩ := kt_X5_225_229
      exact r_throw (is := 233) (text := "no such cell") C trivial t1 t2 t3 t4 (by decide +kernel) t5 dX5_needCell_10 dX5_needCell_13 dX5_needCell_14 dX5_needCell_16 dX5_needCell_19 (by decide) (by decide) (by decide) t6 ⟨rfl, rfl, rfl, by simp [isC, *]⟩
end
section
/-! ===== leaves of the formulas, and library methods: printed by g11.py ===== -/
set_option maxRecDepth 100000 in
set_option maxHeartbeats 4000000 in
theorem c_divide {l : Launch} {D : va_G} {ad : Nat → Nat → Nat} {aC : Nat → ClassId} (σ : gSig) (τ : gTau) (a b : Int32) : CZ l D ad aC yX0_divide cX0_divide 2 (some .int) 0 [.int a, .int b] σ τ (gEq (some (.int (if b = 0 then 0 else a / b))) σ τ) := by
  refine CZ.of (own := RX0) (by decide +kernel) rfl (Nat.le_of_ble_eq_true rfl) (fun S C => ?_)
  refine r_iload_n C dX0_divide_0 rfl rfl ?_
  refine r_ifne (tgt := 8) C dX0_divide_1 (by decide) (fun c1 => ?_) (fun c1 => ?_)
  · refine r_iload_n C dX0_divide_8 rfl rfl ?_
    refine r_iload_n C dX0_divide_9 rfl rfl ?_
    refine r_idiv C dX0_divide_10 (by assumption) ?_
    exact r_iret C dX0_divide_11 rfl (by decide) ⟨by simp [*], rfl, rfl⟩
  · refine r_iconst (v := 0) C dX0_divide_4 rfl ?_
    refine r_goto (tgt := 11) C dX0_divide_5 (by decide) ?_
    exact r_iret C dX0_divide_11 rfl (by decide) ⟨by simp [*], rfl, rfl⟩
set_option maxRecDepth 100000 in
set_option maxHeartbeats 4000000 in
theorem c_floorMod {l : Launch} {D : va_G} {ad : Nat → Nat → Nat} {aC : Nat → ClassId} (σ : gSig) (τ : gTau) (x y : Int32) (hy : ¬ y = 0) : CZ l D ad aC yJ9_floorMod_7cf53 cJ9_floorMod_7cf53 3 (some .int) 0 [.int x, .int y] σ τ (gEq (some (.int (fmJ x y))) σ τ) := by
  refine CZ.ofF (own := RJ9) (by decide +kernel) rfl (Nat.le_of_ble_eq_true rfl) (fun S C => ?_)
  refine r_iload_n C dJ9_floorMod_7cf53_0 rfl rfl ?_
  refine r_iload_n C dJ9_floorMod_7cf53_1 rfl rfl ?_
  refine r_irem C dJ9_floorMod_7cf53_2 hy ?_
  refine r_istore_n C dJ9_floorMod_7cf53_3 rfl (by decide) rfl ?_
  refine r_iload_n C dJ9_floorMod_7cf53_4 rfl rfl ?_
  refine r_iload_n C dJ9_floorMod_7cf53_5 rfl rfl ?_
  refine r_ixor C dJ9_floorMod_7cf53_6 ?_
  refine r_ifge (tgt := 18) C dJ9_floorMod_7cf53_7 (by decide) (fun c7 => ?_) (fun c7 => ?_)
  · refine r_iload_n C dJ9_floorMod_7cf53_18 rfl rfl ?_
    exact r_iret C dJ9_floorMod_7cf53_19 rfl (by decide) ⟨by simp [fmJ, *], rfl, rfl⟩
  · refine r_iload_n C dJ9_floorMod_7cf53_10 rfl rfl ?_
    refine r_ifeq (tgt := 18) C dJ9_floorMod_7cf53_11 (by decide) (fun c11 => ?_) (fun c11 => ?_)
    · refine r_iload_n C dJ9_floorMod_7cf53_18 rfl rfl ?_
      exact r_iret C dJ9_floorMod_7cf53_19 rfl (by decide) ⟨by simp [fmJ, *], rfl, rfl⟩
    · refine r_iload_n C dJ9_floorMod_7cf53_14 rfl rfl ?_
      refine r_iload_n C dJ9_floorMod_7cf53_15 rfl rfl ?_
      refine r_iadd C dJ9_floorMod_7cf53_16 ?_
      exact r_iret C dJ9_floorMod_7cf53_17 rfl (by decide) ⟨by simp [fmJ, *], rfl, rfl⟩
set_option maxRecDepth 100000 in
set_option maxHeartbeats 4000000 in
theorem c_bitCount {l : Launch} {D : va_G} {ad : Nat → Nat → Nat} {aC : Nat → ClassId} (σ : gSig) (τ : gTau) (x : Int32) : CZ l D ad aC yJ6_bitCount_0f7a4 cJ6_bitCount_0f7a4 1 (some .int) 0 [.int x] σ τ (gEq (some (.int (bcJ x))) σ τ) := by
  refine CZ.ofF (own := RJ6) (by decide +kernel) rfl (Nat.le_of_ble_eq_true rfl) (fun S C => ?_)
  refine r_iload_n C dJ6_bitCount_0f7a4_0 rfl rfl ?_
  refine r_iload_n C dJ6_bitCount_0f7a4_1 rfl rfl ?_
  refine r_iconst (v := 1) C dJ6_bitCount_0f7a4_2 rfl ?_
  refine r_iushr C dJ6_bitCount_0f7a4_3 rfl ?_
  refine r_ldcw C dJ6_bitCount_0f7a4_4 kc_J6_265 ?_
  refine r_iand C dJ6_bitCount_0f7a4_7 ?_
  refine r_isub C dJ6_bitCount_0f7a4_8 ?_
  refine r_istore_n C dJ6_bitCount_0f7a4_9 rfl (by decide) rfl ?_
  refine r_iload_n C dJ6_bitCount_0f7a4_10 rfl rfl ?_
  refine r_ldcw C dJ6_bitCount_0f7a4_11 kc_J6_266 ?_
  refine r_iand C dJ6_bitCount_0f7a4_14 ?_
  refine r_iload_n C dJ6_bitCount_0f7a4_15 rfl rfl ?_
  refine r_iconst (v := 2) C dJ6_bitCount_0f7a4_16 rfl ?_
  refine r_iushr C dJ6_bitCount_0f7a4_17 rfl ?_
  refine r_ldcw C dJ6_bitCount_0f7a4_18 kc_J6_266 ?_
  refine r_iand C dJ6_bitCount_0f7a4_21 ?_
  refine r_iadd C dJ6_bitCount_0f7a4_22 ?_
  refine r_istore_n C dJ6_bitCount_0f7a4_23 rfl (by decide) rfl ?_
  refine r_iload_n C dJ6_bitCount_0f7a4_24 rfl rfl ?_
  refine r_iload_n C dJ6_bitCount_0f7a4_25 rfl rfl ?_
  refine r_iconst (v := 4) C dJ6_bitCount_0f7a4_26 rfl ?_
  refine r_iushr C dJ6_bitCount_0f7a4_27 rfl ?_
  refine r_iadd C dJ6_bitCount_0f7a4_28 ?_
  refine r_ldcw C dJ6_bitCount_0f7a4_29 kc_J6_267 ?_
  refine r_iand C dJ6_bitCount_0f7a4_32 ?_
  refine r_istore_n C dJ6_bitCount_0f7a4_33 rfl (by decide) rfl ?_
  refine r_iload_n C dJ6_bitCount_0f7a4_34 rfl rfl ?_
  refine r_iload_n C dJ6_bitCount_0f7a4_35 rfl rfl ?_
  refine r_bipush (v := 8) C dJ6_bitCount_0f7a4_36 rfl ?_
  refine r_iushr C dJ6_bitCount_0f7a4_38 rfl ?_
  refine r_iadd C dJ6_bitCount_0f7a4_39 ?_
  refine r_istore_n C dJ6_bitCount_0f7a4_40 rfl (by decide) rfl ?_
  refine r_iload_n C dJ6_bitCount_0f7a4_41 rfl rfl ?_
  refine r_iload_n C dJ6_bitCount_0f7a4_42 rfl rfl ?_
  refine r_bipush (v := 16) C dJ6_bitCount_0f7a4_43 rfl ?_
  refine r_iushr C dJ6_bitCount_0f7a4_45 rfl ?_
  refine r_iadd C dJ6_bitCount_0f7a4_46 ?_
  refine r_istore_n C dJ6_bitCount_0f7a4_47 rfl (by decide) rfl ?_
  refine r_iload_n C dJ6_bitCount_0f7a4_48 rfl rfl ?_
  refine r_bipush (v := 63) C dJ6_bitCount_0f7a4_49 rfl ?_
  refine r_iand C dJ6_bitCount_0f7a4_51 ?_
  exact r_iret C dJ6_bitCount_0f7a4_52 rfl (by decide) ⟨rfl, rfl, rfl⟩
/-- what a leaf is worth by the row of what was reckoned -/
def lfV (V : Nat → Int64) (kd num : Int32) : Int64 := if kd = 12 then num.toInt64 else if num < 0 then gF else if (16 : Int32) ≤ num then gF else V num.toNatClampNeg
set_option maxRecDepth 100000 in
set_option maxHeartbeats 4000000 in
theorem c_leaf {l : Launch} {D : va_G} {ad : Nat → Nat → Nat} {aC : Nat → ClassId} (σ : gSig) (τ : gTau) (kd num : Int32) : CZ l D ad aC yX0_leaf cX0_leaf 3 (some .long) 0 [.int kd, .int num, .ref (ad 8 0)] σ τ (gEq (some (.long (lfV (τ 8) kd num))) σ τ) := by
  refine CZ.of (own := RX0) (by decide +kernel) rfl (Nat.le_of_ble_eq_true rfl) (fun S C => ?_)
  refine r_iload_n C dX0_leaf_0 rfl rfl ?_
  refine r_bipush (v := 12) C dX0_leaf_1 rfl ?_
  refine r_icmpne (tgt := 9) C dX0_leaf_3 (by decide) (fun c3 => ?_) (fun c3 => ?_)
  · refine r_iload_n C dX0_leaf_9 rfl rfl ?_
    refine r_iflt (tgt := 25) C dX0_leaf_10 (by decide) (fun c10 => ?_) (fun c10 => ?_)
    · refine r_ldc2 C dX0_leaf_25 kc_X0_42 ?_
      exact r_lret C dX0_leaf_28 rfl (by decide) ⟨by simp [lfV, *], rfl, rfl⟩
    · refine r_iload_n C dX0_leaf_13 rfl rfl ?_
      refine r_aload_n C dX0_leaf_14 rfl rfl ?_
      refine r_alen (v := 16) C dX0_leaf_15 ⟨by decide, by decide⟩ rfl (t0 := 1) rfl rfl ?_
      refine r_icmpge (tgt := 25) C dX0_leaf_16 (by decide) (fun c16 => ?_) (fun c16 => ?_)
      · have n16 := Int32.not_lt.mpr c16
        refine r_ldc2 C dX0_leaf_25 kc_X0_42 ?_
        exact r_lret C dX0_leaf_28 rfl (by decide) ⟨by simp [lfV, *], rfl, rfl⟩
      · have n16 := Int32.not_le.mp c16
        refine r_aload_n C dX0_leaf_19 rfl rfl ?_
        refine r_iload_n C dX0_leaf_20 rfl rfl ?_
        obtain ⟨j, hj, rfl⟩ := isC_nI ⟨‹¬ num < 0›, Int32.not_le.mp ‹¬ (16 : Int32) ≤ num›⟩
        have hcl : (nI j).toNatClampNeg = j := nI_clamp (by omega)
        refine r_laldv C dX0_leaf_21 ⟨by decide, by decide⟩ rfl (vp_in_nI hj (by decide)) (by rw [hcl]) ?_
        refine r_goto (tgt := 28) C dX0_leaf_22 (by decide) ?_
        exact r_lret C dX0_leaf_28 rfl (by decide) ⟨by simp [lfV, *], rfl, rfl⟩
  · refine r_iload_n C dX0_leaf_6 rfl rfl ?_
    refine r_i2l C dX0_leaf_7 ?_
    exact r_lret C dX0_leaf_8 rfl (by decide) ⟨by simp [lfV, *], rfl, rfl⟩
set_option maxRecDepth 100000 in
set_option maxHeartbeats 4000000 in
theorem c_clear {l : Launch} {D : va_G} {ad : Nat → Nat → Nat} {aC : Nat → ClassId} (σ : gSig) (τ : gTau) (c : Nat) (hc : c < 17) : CZ l D ad aC yX0_clear cX0_clear 1 none 0 [.ref (ad 1 c)] σ τ (gEq none (up3 (up3 σ 1 c 3 0) 1 c 4 0) τ) := by
  refine CZ.of (own := RX0) (by decide +kernel) rfl (Nat.le_of_ble_eq_true rfl) (fun S C => ?_)
  refine r_aload_n C dX0_clear_0 rfl rfl ?_
  refine r_iconst (v := 0) C dX0_clear_1 rfl ?_
  refine r_put (f := 3) C dX0_clear_2 ⟨by decide, hc⟩ rfl rfl kU0 tyX0 tyX0_ok nmX0 (by decide) kf_X0_21 rfl rfl (by decide +kernel) (Nat.le_of_ble_eq_true rfl) (by simp [cel, up3]) ?_
  refine r_aload_n C dX0_clear_5 rfl rfl ?_
  refine r_iconst (v := 0) C dX0_clear_6 rfl ?_
  refine r_put (f := 4) C dX0_clear_7 ⟨by decide, hc⟩ rfl rfl kU0 tyX0 tyX0_ok nmX0 (by decide) kf_X0_25 rfl rfl (by decide +kernel) (Nat.le_of_ble_eq_true rfl) (by simp [cel, up3]) ?_
  exact r_ret C dX0_clear_10 rfl (by decide) ⟨rfl, rfl, rfl⟩
end
section
/-! ===== the formulas: operate, put, copyFrom, readSet, reckon: printed by g12.py ===== -/
theorem and31_nat (x : Int32) : (x &&& 31).toBitVec.toNat = x.toBitVec.toNat % 32 := by
  rw [Int32.toBitVec_and, BitVec.toNat_and]
  exact Nat.and_two_pow_sub_one_eq_mod _ 5
theorem i32_of_nat {x y : Int32} (h : x.toBitVec.toNat = y.toBitVec.toNat) : x = y := Int32.toBitVec_inj.mp (BitVec.eq_of_toNat_eq h)
theorem fm32 (b : Int32) : fmJ b 32 &&& 31 = b &&& 31 := by
  have h32 : (32 : Int32).toBitVec.toNat = 32 := by decide
  apply i32_of_nat
  rw [and31_nat, and31_nat]
  unfold fmJ
  generalize b / 32 = q
  have e1 : (b - q * 32).toBitVec.toNat % 32 = b.toBitVec.toNat % 32 := by
    rw [Int32.toBitVec_sub, BitVec.toNat_sub, Int32.toBitVec_mul, BitVec.toNat_mul, h32]
    omega
  split
  · exact e1
  · split
    · exact e1
    · rw [Int32.toBitVec_add, BitVec.toNat_add, h32]
      omega
set_option maxRecDepth 100000 in
set_option maxHeartbeats 4000000 in
theorem c_operate {l : Launch} {D : va_G} {ad : Nat → Nat → Nat} {aC : Nat → ClassId} (σ : gSig) (τ : gTau) (o a b : Int32) : CZ l D ad aC yX0_operate cX0_operate 3 (some .long) 1 [.int o, .int a, .int b] σ τ (gEq (some (.long (oL (opF o a b)))) σ τ) := by
  refine CZ.of (own := RX0) (by decide +kernel) rfl (Nat.le_of_ble_eq_true rfl) (fun S C => ?_)
  refine r_iload_n C dX0_operate_0 rfl rfl ?_
  by_cases h0 : o = 0
  · subst h0
    refine r_swIn (tgt := 60) C dX0_operate_1 (by decide) (by decide) rfl (by decide) ?_
    refine r_iload_n C dX0_operate_60 rfl rfl ?_
    refine r_iload_n C dX0_operate_61 rfl rfl ?_
    refine r_iadd C dX0_operate_62 ?_
    refine r_i2l C dX0_operate_63 ?_
    exact r_lret C dX0_operate_64 rfl (by decide) ⟨by simp [opF, oL, *], rfl, rfl⟩
  · skip
    by_cases h1 : o = 1
    · subst h1
      refine r_swIn (tgt := 65) C dX0_operate_1 (by decide) (by decide) rfl (by decide) ?_
      refine r_iload_n C dX0_operate_65 rfl rfl ?_
      refine r_iload_n C dX0_operate_66 rfl rfl ?_
      refine r_isub C dX0_operate_67 ?_
      refine r_i2l C dX0_operate_68 ?_
      exact r_lret C dX0_operate_69 rfl (by decide) ⟨by simp [opF, oL, *], rfl, rfl⟩
    · skip
      by_cases h2 : o = 2
      · subst h2
        refine r_swIn (tgt := 70) C dX0_operate_1 (by decide) (by decide) rfl (by decide) ?_
        refine r_iload_n C dX0_operate_70 rfl rfl ?_
        refine r_iload_n C dX0_operate_71 rfl rfl ?_
        refine r_imul C dX0_operate_72 ?_
        refine r_i2l C dX0_operate_73 ?_
        exact r_lret C dX0_operate_74 rfl (by decide) ⟨by simp [opF, oL, *], rfl, rfl⟩
      · skip
        by_cases h3 : o = 3
        · subst h3
          refine r_swIn (tgt := 75) C dX0_operate_1 (by decide) (by decide) rfl (by decide) ?_
          refine r_iload_n C dX0_operate_75 rfl rfl ?_
          refine r_ifne (tgt := 85) C dX0_operate_76 (by decide) (fun c76 => ?_) (fun c76 => ?_)
          · refine r_iload_n C dX0_operate_85 rfl rfl ?_
            refine r_iload_n C dX0_operate_86 rfl rfl ?_
            refine r_callS C dX0_operate_87 (c_divide σ τ a b) rfl kB_X0_divide rfl kS_X0_divide kl_X0_44 (by decide) (Nat.le_of_ble_eq_true rfl) (by decide) ?_
            rintro r σ' τ' ⟨rfl, rfl, rfl⟩
            refine r_i2l C dX0_operate_90 ?_
            exact r_lret C dX0_operate_91 rfl (by decide) ⟨by simp [opF, oL, *], rfl, rfl⟩
          · refine r_ldc2 C dX0_operate_79 kc_X0_42 ?_
            refine r_goto (tgt := 91) C dX0_operate_82 (by decide) ?_
            exact r_lret C dX0_operate_91 rfl (by decide) ⟨by simp [opF, oL, *], rfl, rfl⟩
        · skip
          by_cases h4 : o = 4
          · subst h4
            refine r_swIn (tgt := 92) C dX0_operate_1 (by decide) (by decide) rfl (by decide) ?_
            refine r_iload_n C dX0_operate_92 rfl rfl ?_
            refine r_iload_n C dX0_operate_93 rfl rfl ?_
            refine r_min C dX0_operate_94 kl_X0_48 kS_Math_min kC_Math_min (by decide) (by decide) (by decide) ?_
            refine r_i2l C dX0_operate_97 ?_
            exact r_lret C dX0_operate_98 rfl (by decide) ⟨by simp [opF, oL, *], rfl, rfl⟩
          · skip
            by_cases h5 : o = 5
            · subst h5
              refine r_swIn (tgt := 99) C dX0_operate_1 (by decide) (by decide) rfl (by decide) ?_
              refine r_iload_n C dX0_operate_99 rfl rfl ?_
              refine r_iload_n C dX0_operate_100 rfl rfl ?_
              refine r_max C dX0_operate_101 kl_X0_53 kS_Math_max kC_Math_max (by decide) (by decide) (by decide) ?_
              refine r_i2l C dX0_operate_104 ?_
              exact r_lret C dX0_operate_105 rfl (by decide) ⟨by simp [opF, oL, *], rfl, rfl⟩
            · skip
              by_cases h6 : o = 6
              · subst h6
                refine r_swIn (tgt := 106) C dX0_operate_1 (by decide) (by decide) rfl (by decide) ?_
                refine r_iload_n C dX0_operate_106 rfl rfl ?_
                refine r_iload_n C dX0_operate_107 rfl rfl ?_
                refine r_icmpge (tgt := 115) C dX0_operate_108 (by decide) (fun c108 => ?_) (fun c108 => ?_)
                · have n108 := Int32.not_lt.mpr c108
                  refine r_lconst (v := 0) C dX0_operate_115 rfl ?_
                  exact r_lret C dX0_operate_116 rfl (by decide) ⟨by simp [opF, oL, *], rfl, rfl⟩
                · have n108 := Int32.not_le.mp c108
                  refine r_lconst (v := 1) C dX0_operate_111 rfl ?_
                  refine r_goto (tgt := 116) C dX0_operate_112 (by decide) ?_
                  exact r_lret C dX0_operate_116 rfl (by decide) ⟨by simp [opF, oL, *], rfl, rfl⟩
              · skip
                by_cases h7 : o = 7
                · subst h7
                  refine r_swIn (tgt := 117) C dX0_operate_1 (by decide) (by decide) rfl (by decide) ?_
                  refine r_iload_n C dX0_operate_117 rfl rfl ?_
                  refine r_iload_n C dX0_operate_118 rfl rfl ?_
                  refine r_icmpne (tgt := 126) C dX0_operate_119 (by decide) (fun c119 => ?_) (fun c119 => ?_)
                  · refine r_lconst (v := 0) C dX0_operate_126 rfl ?_
                    exact r_lret C dX0_operate_127 rfl (by decide) ⟨by simp [opF, oL, *], rfl, rfl⟩
                  · refine r_lconst (v := 1) C dX0_operate_122 rfl ?_
                    refine r_goto (tgt := 127) C dX0_operate_123 (by decide) ?_
                    exact r_lret C dX0_operate_127 rfl (by decide) ⟨by simp [opF, oL, *], rfl, rfl⟩
                · skip
                  by_cases h8 : o = 8
                  · subst h8
                    refine r_swIn (tgt := 128) C dX0_operate_1 (by decide) (by decide) rfl (by decide) ?_
                    refine r_iload_n C dX0_operate_128 rfl rfl ?_
                    refine r_iload_n C dX0_operate_129 rfl rfl ?_
                    refine r_iand C dX0_operate_130 ?_
                    refine r_i2l C dX0_operate_131 ?_
                    exact r_lret C dX0_operate_132 rfl (by decide) ⟨by simp [opF, oL, *], rfl, rfl⟩
                  · skip
                    by_cases h9 : o = 9
                    · subst h9
                      refine r_swIn (tgt := 133) C dX0_operate_1 (by decide) (by decide) rfl (by decide) ?_
                      refine r_iload_n C dX0_operate_133 rfl rfl ?_
                      refine r_iload_n C dX0_operate_134 rfl rfl ?_
                      refine r_ior C dX0_operate_135 ?_
                      refine r_i2l C dX0_operate_136 ?_
                      exact r_lret C dX0_operate_137 rfl (by decide) ⟨by simp [opF, oL, *], rfl, rfl⟩
                    · skip
                      by_cases h10 : o = 10
                      · subst h10
                        refine r_swIn (tgt := 138) C dX0_operate_1 (by decide) (by decide) rfl (by decide) ?_
                        refine r_iload_n C dX0_operate_138 rfl rfl ?_
                        refine r_iload_n C dX0_operate_139 rfl rfl ?_
                        refine r_bipush (v := 32) C dX0_operate_140 rfl ?_
                        refine r_callS C dX0_operate_142 (c_floorMod σ τ b 32 (by decide)) rfl kB_J9_floorMod_7cf53 rfl kS_J9_floorMod_7cf53 kl_X0_56 (by decide) (Nat.le_of_ble_eq_true rfl) (by decide) ?_
                        rintro r σ' τ' ⟨rfl, rfl, rfl⟩
                        refine r_ishl C dX0_operate_145 ?_
                        refine r_i2l C dX0_operate_146 ?_
                        exact r_lret C dX0_operate_147 rfl (by decide) ⟨by simp [opF, oL, fm32, *], rfl, rfl⟩
                      · skip
                        refine r_swOut (tgt := 148) C dX0_operate_1 ?_ (by decide) ?_
                        · have q : ∀ (k : Int32) (a : Int), k.toInt = a → ¬ o = k → ¬ o.toInt = a := fun k a hk h => lv_neT h hk
                          have := [0].length
                          have e0 := q 0 0 (by decide) h0
                          have e1 := q 1 1 (by decide) h1
                          have e2 := q 2 2 (by decide) h2
                          have e3 := q 3 3 (by decide) h3
                          have e4 := q 4 4 (by decide) h4
                          have e5 := q 5 5 (by decide) h5
                          have e6 := q 6 6 (by decide) h6
                          have e7 := q 7 7 (by decide) h7
                          have e8 := q 8 8 (by decide) h8
                          have e9 := q 9 9 (by decide) h9
                          have e10 := q 10 10 (by decide) h10
                          omega
                        · skip
                          refine r_iload_n C dX0_operate_148 rfl rfl ?_
                          refine r_iload_n C dX0_operate_149 rfl rfl ?_
                          refine r_bipush (v := 32) C dX0_operate_150 rfl ?_
                          refine r_callS C dX0_operate_152 (c_floorMod σ τ b 32 (by decide)) rfl kB_J9_floorMod_7cf53 rfl kS_J9_floorMod_7cf53 kl_X0_56 (by decide) (Nat.le_of_ble_eq_true rfl) (by decide) ?_
                          rintro r σ' τ' ⟨rfl, rfl, rfl⟩
                          refine r_ishr C dX0_operate_155 ?_
                          refine r_i2l C dX0_operate_156 ?_
                          exact r_lret C dX0_operate_157 rfl (by decide) ⟨by simp [opF, oL, fm32, *], rfl, rfl⟩
def putS (σ : gSig) (c k : Nat) (kd nm : Int32) : gSig := up3 (up3 (up3 (up3 σ 2 c k kd) 3 c k nm) 1 c 3 (nI (k + 1))) 1 c 4 (σ 1 c 4 + (if kd < 12 then -1 else 1))
def putB (σ : gSig) (c k : Nat) (kd : Int32) : Bool := decide (k < 12) && !(decide (kd < 12) && decide (σ 1 c 4 < 2))
set_option maxRecDepth 100000 in
set_option maxHeartbeats 4000000 in
theorem c_put {l : Launch} {D : va_G} {ad : Nat → Nat → Nat} {aC : Nat → ClassId} (σ : gSig) (τ : gTau) (c k : Nat) (kd nm : Int32) (hc : c < 17) (hk : σ 1 c 3 = nI k) (hk2 : k ≤ 12) : CZ l D ad aC yX0_put cX0_put 4 (some .boolean) 0 [.ref (ad 1 c), .int kd, .int nm] σ τ (gEq (some (.int (b2i (putB σ c k kd)))) (if putB σ c k kd then putS σ c k kd nm else σ) τ) := by
  refine CZ.of (own := RX0) (by decide +kernel) rfl (Nat.le_of_ble_eq_true rfl) (fun S C => ?_)
  have j11 : ∀ v : Int32, v = (if kd < 12 then 1 else 0) → S 0 σ τ 11 [some (.ref (ad 1 c)), some (.int kd), some (.int nm), none] [.int v] := by
    intro v hv
    refine r_istore_n C dX0_put_11 rfl (by decide) rfl ?_
    refine r_aload_n C dX0_put_12 rfl rfl ?_
    refine r_get (f := 3) (v := .int (nI k)) C dX0_put_13 ⟨by decide, hc⟩ rfl rfl kU0 (by decide) kf_X0_21 rfl (by rw [← hk]; rfl) ?_
    refine r_bipush (v := 12) C dX0_put_16 rfl ?_
    refine r_icmpge (tgt := 33) C dX0_put_18 (by decide) (fun c18 => ?_) (fun c18 => ?_)
    · have n18 := Int32.not_lt.mpr c18
      have hk12 : ¬ k < 12 := fun q => absurd c18 (nI_ge q (by decide))
      have hpb : putB σ c k kd = false := by simp [putB, hk12]
      refine r_iconst (v := 0) C dX0_put_33 rfl ?_
      exact r_zret C dX0_put_34 rfl (by decide) (by decide) ⟨by rw [hpb]; rfl, by rw [hpb]; rfl, rfl⟩
    · have n18 := Int32.not_le.mp c18
      have hk12 : k < 12 := by
        rcases Nat.lt_or_ge k 12 with q | q
        · exact q
        · exact absurd (nI_le q (by omega)) c18
      refine r_iload_n C dX0_put_21 rfl rfl ?_
      refine r_ifeq (tgt := 35) C dX0_put_22 (by decide) (fun c22 => ?_) (fun c22 => ?_)
      · have hkd : ¬ kd < 12 := by
          intro q
          rw [if_pos q] at hv
          rw [hv] at c22
          exact absurd c22 (by decide)
        have hpb : putB σ c k kd = true := by simp [putB, hk12, hkd]
        refine r_aload_n C dX0_put_35 rfl rfl ?_
        refine r_get (f := 0) C dX0_put_36 ⟨by decide, hc⟩ rfl rfl kU0 (by decide) kf_X0_9 rfl rfl ?_
        refine r_aload_n C dX0_put_39 rfl rfl ?_
        refine r_get (f := 3) (v := .int (nI k)) C dX0_put_40 ⟨by decide, hc⟩ rfl rfl kU0 (by decide) kf_X0_21 rfl (by rw [← hk]; rfl) ?_
        refine r_iload_n C dX0_put_43 rfl rfl ?_
        refine r_iastv C dX0_put_44 ⟨by decide, hc⟩ (fun _ => rfl) (vp_in_nI hk12 (by decide)) (nI_clamp (by omega)) ?_
        refine r_aload_n C dX0_put_45 rfl rfl ?_
        refine r_get (f := 1) C dX0_put_46 ⟨by decide, hc⟩ rfl rfl kU0 (by decide) kf_X0_15 rfl rfl ?_
        refine r_aload_n C dX0_put_49 rfl rfl ?_
        refine r_get (f := 3) (v := .int (nI k)) C dX0_put_50 ⟨by decide, hc⟩ rfl rfl kU0 (by decide) kf_X0_21 rfl (by rw [← hk]; rfl) ?_
        refine r_iload_n C dX0_put_53 rfl rfl ?_
        refine r_iastv C dX0_put_54 ⟨by decide, hc⟩ (fun _ => rfl) (vp_in_nI hk12 (by decide)) (nI_clamp (by omega)) ?_
        refine r_aload_n C dX0_put_55 rfl rfl ?_
        refine r_dup C dX0_put_56 rfl ?_
        refine r_get (f := 3) (v := .int (nI k)) C dX0_put_57 ⟨by decide, hc⟩ rfl rfl kU0 (by decide) kf_X0_21 rfl (by rw [← hk]; simp [up3_at]) ?_
        refine r_iconst (v := 1) C dX0_put_60 rfl ?_
        refine r_iadd C dX0_put_61 ?_
        refine r_put (f := 3) C dX0_put_62 ⟨by decide, hc⟩ rfl rfl kU0 tyX0 tyX0_ok nmX0 (by decide) kf_X0_21 rfl rfl (by decide +kernel) (Nat.le_of_ble_eq_true rfl) (by simp [cel, up3]) ?_
        refine r_aload_n C dX0_put_65 rfl rfl ?_
        refine r_dup C dX0_put_66 rfl ?_
        refine r_get (f := 4) (v := .int (σ 1 c 4)) C dX0_put_67 ⟨by decide, hc⟩ rfl rfl kU0 (by decide) kf_X0_25 rfl (by simp [up3_at]) ?_
        refine r_iload_n C dX0_put_70 rfl rfl ?_
        refine r_ifeq (tgt := 78) C dX0_put_71 (by decide) (fun c71 => ?_) (fun c71 => ?_)
        · have hkd2 : ¬ kd < 12 := by
            intro q
            rw [if_pos q] at hv
            rw [hv] at c71
            exact absurd c71 (by decide)
          refine r_iconst (v := 1) C dX0_put_78 rfl ?_
          refine r_iadd C dX0_put_79 ?_
          refine r_put (f := 4) C dX0_put_80 ⟨by decide, hc⟩ rfl rfl kU0 tyX0 tyX0_ok nmX0 (by decide) kf_X0_25 rfl rfl (by decide +kernel) (Nat.le_of_ble_eq_true rfl) (by simp [cel, up3]) ?_
          refine r_iconst (v := 1) C dX0_put_83 rfl ?_
          exact r_zret C dX0_put_84 rfl (by decide) (by decide) ⟨by rw [hpb]; rfl, by rw [hpb, if_pos rfl]; first | exact absurd hkd hkd2 | exact absurd hkd2 hkd | simp [putS, nI_1, hkd], rfl⟩
        · have hkd2 : kd < 12 := by
            rcases Classical.em (kd < 12) with q | q
            · exact q
            · rw [if_neg q] at hv
              exact absurd hv c71
          refine r_iconst (v := (-1)) C dX0_put_74 rfl ?_
          refine r_goto (tgt := 79) C dX0_put_75 (by decide) ?_
          refine r_iadd C dX0_put_79 ?_
          refine r_put (f := 4) C dX0_put_80 ⟨by decide, hc⟩ rfl rfl kU0 tyX0 tyX0_ok nmX0 (by decide) kf_X0_25 rfl rfl (by decide +kernel) (Nat.le_of_ble_eq_true rfl) (by simp [cel, up3]) ?_
          refine r_iconst (v := 1) C dX0_put_83 rfl ?_
          exact r_zret C dX0_put_84 rfl (by decide) (by decide) ⟨by rw [hpb]; rfl, by rw [hpb, if_pos rfl]; first | exact absurd hkd hkd2 | exact absurd hkd2 hkd | simp [putS, nI_1, hkd], rfl⟩
      · have hkd : kd < 12 := by
          rcases Classical.em (kd < 12) with q | q
          · exact q
          · rw [if_neg q] at hv
            exact absurd hv c22
        refine r_aload_n C dX0_put_25 rfl rfl ?_
        refine r_get (f := 4) C dX0_put_26 ⟨by decide, hc⟩ rfl rfl kU0 (by decide) kf_X0_25 rfl rfl ?_
        refine r_iconst (v := 2) C dX0_put_29 rfl ?_
        refine r_icmpge (tgt := 35) C dX0_put_30 (by decide) (fun c30 => ?_) (fun c30 => ?_)
        · have n30 := Int32.not_lt.mpr c30
          have hpb : putB σ c k kd = true := by simp [putB, hk12, n30]
          refine r_aload_n C dX0_put_35 rfl rfl ?_
          refine r_get (f := 0) C dX0_put_36 ⟨by decide, hc⟩ rfl rfl kU0 (by decide) kf_X0_9 rfl rfl ?_
          refine r_aload_n C dX0_put_39 rfl rfl ?_
          refine r_get (f := 3) (v := .int (nI k)) C dX0_put_40 ⟨by decide, hc⟩ rfl rfl kU0 (by decide) kf_X0_21 rfl (by rw [← hk]; rfl) ?_
          refine r_iload_n C dX0_put_43 rfl rfl ?_
          refine r_iastv C dX0_put_44 ⟨by decide, hc⟩ (fun _ => rfl) (vp_in_nI hk12 (by decide)) (nI_clamp (by omega)) ?_
          refine r_aload_n C dX0_put_45 rfl rfl ?_
          refine r_get (f := 1) C dX0_put_46 ⟨by decide, hc⟩ rfl rfl kU0 (by decide) kf_X0_15 rfl rfl ?_
          refine r_aload_n C dX0_put_49 rfl rfl ?_
          refine r_get (f := 3) (v := .int (nI k)) C dX0_put_50 ⟨by decide, hc⟩ rfl rfl kU0 (by decide) kf_X0_21 rfl (by rw [← hk]; rfl) ?_
          refine r_iload_n C dX0_put_53 rfl rfl ?_
          refine r_iastv C dX0_put_54 ⟨by decide, hc⟩ (fun _ => rfl) (vp_in_nI hk12 (by decide)) (nI_clamp (by omega)) ?_
          refine r_aload_n C dX0_put_55 rfl rfl ?_
          refine r_dup C dX0_put_56 rfl ?_
          refine r_get (f := 3) (v := .int (nI k)) C dX0_put_57 ⟨by decide, hc⟩ rfl rfl kU0 (by decide) kf_X0_21 rfl (by rw [← hk]; simp [up3_at]) ?_
          refine r_iconst (v := 1) C dX0_put_60 rfl ?_
          refine r_iadd C dX0_put_61 ?_
          refine r_put (f := 3) C dX0_put_62 ⟨by decide, hc⟩ rfl rfl kU0 tyX0 tyX0_ok nmX0 (by decide) kf_X0_21 rfl rfl (by decide +kernel) (Nat.le_of_ble_eq_true rfl) (by simp [cel, up3]) ?_
          refine r_aload_n C dX0_put_65 rfl rfl ?_
          refine r_dup C dX0_put_66 rfl ?_
          refine r_get (f := 4) (v := .int (σ 1 c 4)) C dX0_put_67 ⟨by decide, hc⟩ rfl rfl kU0 (by decide) kf_X0_25 rfl (by simp [up3_at]) ?_
          refine r_iload_n C dX0_put_70 rfl rfl ?_
          refine r_ifeq (tgt := 78) C dX0_put_71 (by decide) (fun c71 => ?_) (fun c71 => ?_)
          · have hkd2 : ¬ kd < 12 := by
              intro q
              rw [if_pos q] at hv
              rw [hv] at c71
              exact absurd c71 (by decide)
            refine r_iconst (v := 1) C dX0_put_78 rfl ?_
            refine r_iadd C dX0_put_79 ?_
            refine r_put (f := 4) C dX0_put_80 ⟨by decide, hc⟩ rfl rfl kU0 tyX0 tyX0_ok nmX0 (by decide) kf_X0_25 rfl rfl (by decide +kernel) (Nat.le_of_ble_eq_true rfl) (by simp [cel, up3]) ?_
            refine r_iconst (v := 1) C dX0_put_83 rfl ?_
            exact r_zret C dX0_put_84 rfl (by decide) (by decide) ⟨by rw [hpb]; rfl, by rw [hpb, if_pos rfl]; first | exact absurd hkd hkd2 | exact absurd hkd2 hkd | simp [putS, nI_1, hkd], rfl⟩
          · have hkd2 : kd < 12 := by
              rcases Classical.em (kd < 12) with q | q
              · exact q
              · rw [if_neg q] at hv
                exact absurd hv c71
            refine r_iconst (v := (-1)) C dX0_put_74 rfl ?_
            refine r_goto (tgt := 79) C dX0_put_75 (by decide) ?_
            refine r_iadd C dX0_put_79 ?_
            refine r_put (f := 4) C dX0_put_80 ⟨by decide, hc⟩ rfl rfl kU0 tyX0 tyX0_ok nmX0 (by decide) kf_X0_25 rfl rfl (by decide +kernel) (Nat.le_of_ble_eq_true rfl) (by simp [cel, up3]) ?_
            refine r_iconst (v := 1) C dX0_put_83 rfl ?_
            exact r_zret C dX0_put_84 rfl (by decide) (by decide) ⟨by rw [hpb]; rfl, by rw [hpb, if_pos rfl]; first | exact absurd hkd hkd2 | exact absurd hkd2 hkd | simp [putS, nI_1, hkd], rfl⟩
        · have n30 := Int32.not_le.mp c30
          have hpb : putB σ c k kd = false := by simp [putB, hk12, hkd, n30]
          refine r_iconst (v := 0) C dX0_put_33 rfl ?_
          exact r_zret C dX0_put_34 rfl (by decide) (by decide) ⟨by rw [hpb]; rfl, by rw [hpb]; rfl, rfl⟩
  refine r_iload_n C dX0_put_0 rfl rfl ?_
  refine r_bipush (v := 12) C dX0_put_1 rfl ?_
  refine r_icmpge (tgt := 10) C dX0_put_3 (by decide) (fun c3 => ?_) (fun c3 => ?_)
  · have n3 := Int32.not_lt.mpr c3
    refine r_iconst (v := 0) C dX0_put_10 rfl ?_
    exact j11 _ (by simp [*])
  · have n3 := Int32.not_le.mp c3
    refine r_iconst (v := 1) C dX0_put_6 rfl ?_
    refine r_goto (tgt := 11) C dX0_put_7 (by decide) ?_
    exact j11 _ (by simp [*])
def cpyS (σ : gSig) (c c2 : Nat) : gSig := up3 (up3 (upR (upR σ 2 c (va_cpy (σ 2 c2) (σ 2 c) 0 0 12)) 3 c (va_cpy (σ 3 c2) (σ 3 c) 0 0 12)) 1 c 3 (σ 1 c2 3)) 1 c 4 (σ 1 c2 4)
set_option maxRecDepth 100000 in
set_option maxHeartbeats 4000000 in
theorem c_copyFrom {l : Launch} {D : va_G} {ad : Nat → Nat → Nat} {aC : Nat → ClassId} (σ : gSig) (τ : gTau) (c c2 : Nat) (hc : c < 17) (hc2 : c2 < 17) (hne : ¬ c2 = c) : CZ l D ad aC yX0_copyFrom cX0_copyFrom 2 none 1 [.ref (ad 1 c), .ref (ad 1 c2)] σ τ (gEq none (cpyS σ c c2) τ) := by
  refine CZ.of (own := RX0) (by decide +kernel) rfl (Nat.le_of_ble_eq_true rfl) (fun S C => ?_)
  refine r_aload_n C dX0_copyFrom_0 rfl rfl ?_
  refine r_get (f := 0) C dX0_copyFrom_1 ⟨by decide, hc2⟩ rfl rfl kU0 (by decide) kf_X0_9 rfl rfl ?_
  refine r_iconst (v := 0) C dX0_copyFrom_4 rfl ?_
  refine r_aload_n C dX0_copyFrom_5 rfl rfl ?_
  refine r_get (f := 0) C dX0_copyFrom_6 ⟨by decide, hc⟩ rfl rfl kU0 (by decide) kf_X0_9 rfl rfl ?_
  refine r_iconst (v := 0) C dX0_copyFrom_9 rfl ?_
  refine r_bipush (v := 12) C dX0_copyFrom_10 rfl ?_
  refine r_copy (fm := 2) (fm1 := 2) C dX0_copyFrom_12 kl_copy0 kn_copy ks_copy ki_copy ⟨by decide, hc2⟩ ⟨by decide, hc⟩ rfl (fun _ => rfl) (by decide) (by decide) (by decide) (by decide) (by decide) (by decide) (by decide +kernel) ?_
  refine r_aload_n C dX0_copyFrom_15 rfl rfl ?_
  refine r_get (f := 1) C dX0_copyFrom_16 ⟨by decide, hc2⟩ rfl rfl kU0 (by decide) kf_X0_15 rfl rfl ?_
  refine r_iconst (v := 0) C dX0_copyFrom_19 rfl ?_
  refine r_aload_n C dX0_copyFrom_20 rfl rfl ?_
  refine r_get (f := 1) C dX0_copyFrom_21 ⟨by decide, hc⟩ rfl rfl kU0 (by decide) kf_X0_15 rfl rfl ?_
  refine r_iconst (v := 0) C dX0_copyFrom_24 rfl ?_
  refine r_bipush (v := 12) C dX0_copyFrom_25 rfl ?_
  refine r_copy (fm := 3) (fm1 := 3) C dX0_copyFrom_27 kl_copy0 kn_copy ks_copy ki_copy ⟨by decide, hc2⟩ ⟨by decide, hc⟩ rfl (fun _ => rfl) (by decide) (by decide) (by decide) (by decide) (by decide) (by decide) (by decide +kernel) ?_
  refine r_aload_n C dX0_copyFrom_30 rfl rfl ?_
  refine r_aload_n C dX0_copyFrom_31 rfl rfl ?_
  refine r_get (f := 3) C dX0_copyFrom_32 ⟨by decide, hc2⟩ rfl rfl kU0 (by decide) kf_X0_21 rfl rfl ?_
  refine r_put (f := 3) C dX0_copyFrom_35 ⟨by decide, hc⟩ rfl rfl kU0 tyX0 tyX0_ok nmX0 (by decide) kf_X0_21 rfl rfl (by decide +kernel) (Nat.le_of_ble_eq_true rfl) (by simp [cel, up3]) ?_
  refine r_aload_n C dX0_copyFrom_38 rfl rfl ?_
  refine r_aload_n C dX0_copyFrom_39 rfl rfl ?_
  refine r_get (f := 4) C dX0_copyFrom_40 ⟨by decide, hc2⟩ rfl rfl kU0 (by decide) kf_X0_25 rfl rfl ?_
  refine r_put (f := 4) C dX0_copyFrom_43 ⟨by decide, hc⟩ rfl rfl kU0 tyX0 tyX0_ok nmX0 (by decide) kf_X0_25 rfl rfl (by decide +kernel) (Nat.le_of_ble_eq_true rfl) (by simp [cel, up3]) ?_
  exact r_ret C dX0_copyFrom_46 rfl (by decide) ⟨rfl, by simp [cpyS, up3_at, hne]; rfl, rfl⟩
set_option maxRecDepth 100000 in
set_option maxHeartbeats 4000000 in
theorem c_readSet {l : Launch} {D : va_G} {ad : Nat → Nat → Nat} {aC : Nat → ClassId} (σ : gSig) (τ : gTau) (c k : Nat) (hc : c < 17) (hk : σ 1 c 3 = nI k) (hk2 : k ≤ 12) : CZ l D ad aC yX0_readSet cX0_readSet 3 (some .int) 0 [.ref (ad 1 c)] σ τ (gEq (some (.int (rsM (σ 2 c) (σ 3 c) k))) σ τ) := by
  refine CZ.of (own := RX0) (by decide +kernel) rfl (Nat.le_of_ble_eq_true rfl) (fun S C => ?_)
  refine r_iconst (v := 0) C dX0_readSet_0 rfl ?_
  refine r_istore_n C dX0_readSet_1 rfl (by decide) rfl ?_
  refine r_iconst (v := 0) C dX0_readSet_2 rfl ?_
  refine r_istore_n C dX0_readSet_3 rfl (by decide) rfl ?_
  have loop : ∀ m i, i ≤ k → k - i < m → S 0 σ τ 4 [some (.ref (ad 1 c)), some (.int (rsM (σ 2 c) (σ 3 c) i)), some (.int (nI i))] [] := by
    intro m
    induction m with
    | zero => intro i _ hm; omega
    | succ m ih =>
      intro i hi hm
      refine r_iload_n C dX0_readSet_4 rfl rfl ?_
      refine r_aload_n C dX0_readSet_5 rfl rfl ?_
      refine r_get (f := 3) (v := .int (nI k)) C dX0_readSet_6 ⟨by decide, hc⟩ rfl rfl kU0 (by decide) kf_X0_21 rfl (by rw [← hk]; rfl) ?_
      refine r_icmpge (tgt := 40) C dX0_readSet_9 (by decide) (fun c9 => ?_) (fun c9 => ?_)
      · have n9 := Int32.not_lt.mpr c9
        have hik : i = k := by
          have := (nI_leI (by omega) (by omega)).mp c9
          omega
        subst hik
        refine r_iload_n C dX0_readSet_40 rfl rfl ?_
        exact r_iret C dX0_readSet_41 rfl (by decide) ⟨rfl, rfl, rfl⟩
      · have n9 := Int32.not_le.mp c9
        have hik : i < k := by
          rcases Nat.lt_or_ge i k with q | q
          · exact q
          · exact absurd (nI_le q (by omega)) c9
        refine r_aload_n C dX0_readSet_12 rfl rfl ?_
        refine r_get (f := 0) C dX0_readSet_13 ⟨by decide, hc⟩ rfl rfl kU0 (by decide) kf_X0_9 rfl rfl ?_
        refine r_iload_n C dX0_readSet_16 rfl rfl ?_
        refine r_ialdv (v := σ 2 c i) C dX0_readSet_17 ⟨by decide, hc⟩ rfl (vp_in_nI (show i < 12 by omega) (by decide)) (by rw [nI_clamp (by omega)]) ?_
        refine r_bipush (v := 13) C dX0_readSet_18 rfl ?_
        refine r_icmpne (tgt := 34) C dX0_readSet_20 (by decide) (fun c20 => ?_) (fun c20 => ?_)
        · refine r_iinc C dX0_readSet_34 rfl rfl (by decide) rfl ?_
          refine r_goto (tgt := 4) C dX0_readSet_37 (by decide) ?_
          exact r_swk (ih (i + 1) (by omega) (by omega)) rfl rfl (by simp [rsM, nI_succ, *]) rfl
        · refine r_iload_n C dX0_readSet_23 rfl rfl ?_
          refine r_iconst (v := 1) C dX0_readSet_24 rfl ?_
          refine r_aload_n C dX0_readSet_25 rfl rfl ?_
          refine r_get (f := 1) C dX0_readSet_26 ⟨by decide, hc⟩ rfl rfl kU0 (by decide) kf_X0_15 rfl rfl ?_
          refine r_iload_n C dX0_readSet_29 rfl rfl ?_
          refine r_ialdv (v := σ 3 c i) C dX0_readSet_30 ⟨by decide, hc⟩ rfl (vp_in_nI (show i < 12 by omega) (by decide)) (by rw [nI_clamp (by omega)]) ?_
          refine r_ishl C dX0_readSet_31 ?_
          refine r_ior C dX0_readSet_32 ?_
          refine r_istore_n C dX0_readSet_33 rfl (by decide) rfl ?_
          refine r_iinc C dX0_readSet_34 rfl rfl (by decide) rfl ?_
          refine r_goto (tgt := 4) C dX0_readSet_37 (by decide) ?_
          exact r_swk (ih (i + 1) (by omega) (by omega)) rfl rfl (by simp [rsM, nI_succ, *]) rfl
  exact loop (k + 1) 0 (by omega) (by omega)
end
section
/-! ===== a formula reckoned: printed by g13.py ===== -/
/-- what stands on the stack's row: the values, the first one at the bottom -/
def onS (g : Nat → Int32) (st : List Int32) : Prop := ∀ (j : Nat) (x : Int32), st.reverse[j]? = some x → g j = x
theorem onS_nil (g : Nat → Int32) : onS g [] := fun j x h => by simp at h
theorem onS_push {g : Nat → Int32} {r : List Int32} (h : onS g r) (x : Int32) : onS (upd g r.length x) (x :: r) := by
  intro j y hj
  rw [List.reverse_cons] at hj
  unfold upd
  by_cases hl : j < r.reverse.length
  · rw [List.getElem?_append_left hl] at hj
    rw [List.length_reverse] at hl
    rw [if_neg (by omega)]
    exact h j y hj
  · rw [List.getElem?_append_right (by omega), List.length_reverse] at hj
    have h1 := (List.getElem?_eq_some_iff.mp hj).1
    rw [List.length_reverse] at hl
    have h2 : j = r.length := by simp at h1; omega
    subst h2
    rw [if_pos rfl]
    rw [Nat.sub_self] at hj
    cases hj
    rfl
theorem onS_tail {g : Nat → Int32} {x : Int32} {r : List Int32} (h : onS g (x :: r)) : onS g r := by
  intro j y hj
  refine h j y ?_
  rw [List.reverse_cons, List.getElem?_append_left (List.getElem?_eq_some_iff.mp hj).1]
  exact hj
theorem onS_top {g : Nat → Int32} {x : Int32} {r : List Int32} (h : onS g (x :: r)) : g r.length = x := by
  refine h r.length x ?_
  rw [List.reverse_cons, List.getElem?_append_right (by rw [List.length_reverse]; omega), List.length_reverse, Nat.sub_self]
  rfl
theorem kd_cases {kd : Int32} (h1 : kd ≤ 13) (h2 : ¬ kd < 12) : kd = 12 ∨ kd = 13 := by
  have a := Int32.le_iff_toInt_le.mp h1
  have b : ¬ kd.toInt < (12 : Int32).toInt := fun q => h2 (Int32.lt_iff_toInt_lt.mpr q)
  have e1 : (13 : Int32).toInt = 13 := by decide
  have e2 : (12 : Int32).toInt = 12 := by decide
  rw [e1] at a
  rw [e2] at b
  rcases (show kd.toInt = 12 ∨ kd.toInt = 13 by omega) with h | h
  · exact Or.inl (Int32.toInt_inj.mp (h.trans e2.symm))
  · exact Or.inr (Int32.toInt_inj.mp (h.trans e1.symm))
set_option maxRecDepth 100000 in
set_option maxHeartbeats 4000000 in
theorem c_reckon {l : Launch} {D : va_G} {ad : Nat → Nat → Nat} {aC : Nat → ClassId} (σ : gSig) (τ : gTau) (c k : Nat) (V : Nat → Option Int32) (hc : c < 17) (hk : σ 1 c 3 = nI k) (hk2 : k ≤ 12) (hP : okP (σ 2 c) (σ 3 c) k) (hd1 : dep (σ 2 c) k = 1) (hV : ∀ i, i < k → σ 2 c i = 13 → τ 8 (σ 3 c i).toNatClampNeg = oL (V (σ 3 c i).toNatClampNeg)) : CZ l D ad aC yX0_reckon cX0_reckon 6 (some .long) 2 [.ref (ad 1 c), .ref (ad 8 0)] σ τ (fun r σ' τ' => ∃ g4, some (.long (oL (evF V (σ 2 c) (σ 3 c) k))) = r ∧ upR σ 4 c g4 = σ' ∧ τ = τ') := by
  refine CZ.of (own := RX0) (by decide +kernel) rfl (Nat.le_of_ble_eq_true rfl) (fun S C => ?_)

  refine r_iconst (v := 0) C dX0_reckon_0 rfl ?_
  refine r_istore_n C dX0_reckon_1 rfl (by decide) rfl ?_
  refine r_iconst (v := 0) C dX0_reckon_2 rfl ?_
  refine r_istore_n C dX0_reckon_3 rfl (by decide) rfl ?_
  have loop : ∀ m i, i ≤ k → k - i < m → ∀ (g : Nat → Int32) (st : List Int32), evN V (σ 2 c) (σ 3 c) i = some st → onS g st → S 0 (upR σ 4 c g) τ 4 [some (.ref (ad 1 c)), some (.ref (ad 8 0)), some (.int (nI st.length)), some (.int (nI i)), none, none] [] := by
    intro m
    induction m with
    | zero => intro i _ hm; omega
    | succ m ih =>
      intro i hi hm g st hev hon
      refine r_iload_n C dX0_reckon_4 rfl rfl ?_
      refine r_aload_n C dX0_reckon_5 rfl rfl ?_
      refine r_get (f := 3) (v := .int (nI k)) C dX0_reckon_6 ⟨by decide, hc⟩ rfl rfl kU0 (by decide) kf_X0_21 rfl (by rw [← hk]; rfl) ?_
      refine r_icmpge (tgt := 127) C dX0_reckon_9 (by decide) (fun c9 => ?_) (fun c9 => ?_)
      · have n9 := Int32.not_lt.mpr c9
        have hik : i = k := by
          have := (nI_leI (by omega) (by omega)).mp c9
          omega
        subst hik
        refine r_aload_n C dX0_reckon_127 rfl rfl ?_
        refine r_get (f := 2) C dX0_reckon_128 ⟨by decide, hc⟩ rfl rfl kU0 (by decide) kf_X0_18 rfl rfl ?_
        refine r_iconst (v := 0) C dX0_reckon_131 rfl ?_
        have hsl : st.length = dep (σ 2 c) i := evN_len (n := i) (fun j hj q => kd_cases (hP j hj).1.2 q) i (Nat.le_refl i) st hev
        obtain ⟨x, hst⟩ : ∃ x, st = [x] := by
          match st, hsl with
          | [x], _ => exact ⟨x, rfl⟩
          | [], q => simp at q; omega
          | _ :: _ :: _, q => simp at q; omega
        subst hst
        refine r_ialdv (v := x) C dX0_reckon_132 ⟨by decide, hc⟩ rfl (vp_in_nI (n := 0) (by decide) (by decide)) (by rw [upR_self]; exact onS_top hon) ?_
        refine r_i2l C dX0_reckon_133 ?_
        exact r_lret C dX0_reckon_134 rfl (by decide) ⟨g, by rw [evF, hev]; rfl, rfl, rfl⟩
      · have n9 := Int32.not_le.mp c9
        have hik : i < k := (nI_ltI (by omega) (by omega)).mp n9
        obtain ⟨⟨hk0, hk13⟩, hop, hce⟩ := hP i hik
        have hsl : st.length = dep (σ 2 c) i := evN_len (n := k) (fun j hj q => kd_cases (hP j hj).1.2 q) i (by omega) st hev
        have hdl := dep_le (σ 2 c) i
        have j90 : ∀ (o : Option Int32) (r : List Int32), r.length ≤ 11 → onS g r → evN V (σ 2 c) (σ 3 c) (i + 1) = o.map (fun x => x :: r) → S 0 (upR σ 4 c g) τ 90 [some (.ref (ad 1 c)), some (.ref (ad 8 0)), some (.int (nI r.length)), some (.int (nI i)), some (.long (oL o)), none] [] := by
          intro o r hrl hor hevn
          refine r_lload C dX0_reckon_90 rfl ?_
          refine r_ldc2 C dX0_reckon_92 kc_X0_42 ?_
          refine r_lcmp C dX0_reckon_95 ?_
          refine r_ifeq (tgt := 105) C dX0_reckon_96 (by decide) (fun c96 => ?_) (fun c96 => ?_)
          · have ho := lg_cmp_0 c96
            have ho2 : o = none := by
              cases o with
              | none => rfl
              | some x => exact absurd ho (oL_ne x)
            subst ho2
            refine r_ldc2 C dX0_reckon_105 kc_X0_42 ?_
            exact r_lret C dX0_reckon_108 rfl (by decide) ⟨g, by
  have e := evN_none (V := V) (kd := σ 2 c) (nm := σ 3 c) (i := i + 1) hevn (k - (i + 1))
  rw [show i + 1 + (k - (i + 1)) = k by omega] at e
  rw [evF, e]
  rfl, rfl, rfl⟩
          · obtain ⟨x, rfl⟩ : ∃ x, o = some x := oL_some (fun q => c96 (by rw [q]; exact lg_cmp_self _))
            refine r_iload_n C dX0_reckon_99 rfl rfl ?_
            refine r_bipush (v := 12) C dX0_reckon_100 rfl ?_
            refine r_icmplt (tgt := 109) C dX0_reckon_102 (by decide) (fun c102 => ?_) (fun c102 => ?_)
            · have n102 := Int32.not_le.mpr c102
              refine r_aload_n C dX0_reckon_109 rfl rfl ?_
              refine r_get (f := 2) C dX0_reckon_110 ⟨by decide, hc⟩ rfl rfl kU0 (by decide) kf_X0_18 rfl rfl ?_
              refine r_iload_n C dX0_reckon_113 rfl rfl ?_
              refine r_lload C dX0_reckon_114 rfl ?_
              refine r_l2i C dX0_reckon_116 ?_
              rw [show (oL (some x)).toInt32 = x from Int32.toInt32_toInt64 x]
              refine r_iastv C dX0_reckon_117 ⟨by decide, hc⟩ (fun _ => rfl) (vp_in_nI (show r.length < 12 by omega) (by decide)) (nI_clamp (by omega)) ?_
              rw [up3_upR]
              refine r_iinc C dX0_reckon_118 rfl rfl (by decide) rfl ?_
              refine r_iinc C dX0_reckon_121 rfl rfl (by decide) rfl ?_
              refine r_goto (tgt := 4) C dX0_reckon_124 (by decide) ?_
              refine r_drop C [4] ?_
              exact r_swk (ih (i + 1) (by omega) (by omega) (upd g r.length x) (x :: r) hevn (onS_push hor x)) rfl rfl (by simp [dropL, nI_succ]) rfl
            · have n102 := Int32.not_lt.mp c102
              exact absurd (nI_lt (show r.length < 12 by omega) (by decide)) c102
        refine r_aload_n C dX0_reckon_12 rfl rfl ?_
        refine r_get (f := 0) C dX0_reckon_13 ⟨by decide, hc⟩ rfl rfl kU0 (by decide) kf_X0_9 rfl rfl ?_
        refine r_iload_n C dX0_reckon_16 rfl rfl ?_
        refine r_ialdv (v := σ 2 c i) C dX0_reckon_17 ⟨by decide, hc⟩ rfl (vp_in_nI (show i < 12 by omega) (by decide)) (by rw [nI_clamp (by omega)]; rfl) ?_
        refine r_bipush (v := 12) C dX0_reckon_18 rfl ?_
        refine r_icmplt (tgt := 44) C dX0_reckon_20 (by decide) (fun c20 => ?_) (fun c20 => ?_)
        · have n20 := Int32.not_le.mpr c20
          have h2 := hop c20
          obtain ⟨b, a, r, hst⟩ : ∃ b a r, st = b :: a :: r := by
            match st, hsl with
            | b :: a :: r, _ => exact ⟨b, a, r, rfl⟩
            | [b], q => simp at q; omega
            | [], q => simp at q; omega
          subst hst
          have hlen : (b :: a :: r).length = r.length + 2 := rfl
          refine r_iload_n C dX0_reckon_44 rfl rfl ?_
          refine r_iconst (v := 2) C dX0_reckon_45 rfl ?_
          refine r_icmplt (tgt := 86) C dX0_reckon_46 (by decide) (fun c46 => ?_) (fun c46 => ?_)
          · have n46 := Int32.not_le.mpr c46
            exact absurd ((nI_ltI (a := r.length + 2) (b := 2) (by simp at hsl; omega) (by decide)).mp c46) (by omega)
          · have n46 := Int32.not_lt.mp c46
            refine r_iload_n C dX0_reckon_49 rfl rfl ?_
            refine r_bipush (v := 12) C dX0_reckon_50 rfl ?_
            refine r_icmpgt (tgt := 86) C dX0_reckon_52 (by decide) (fun c52 => ?_) (fun c52 => ?_)
            · have n52 := Int32.not_le.mpr c52
              exact absurd ((nI_ltI (a := 12) (b := r.length + 2) (by decide) (by simp at hsl; omega)).mp c52) (by simp at hsl; omega)
            · have n52 := Int32.not_lt.mp c52
              refine r_iinc (v := nI r.length) C dX0_reckon_55 rfl (nI_m2 r.length) (by decide) rfl ?_
              refine r_aload_n C dX0_reckon_58 rfl rfl ?_
              refine r_get (f := 0) C dX0_reckon_59 ⟨by decide, hc⟩ rfl rfl kU0 (by decide) kf_X0_9 rfl rfl ?_
              refine r_iload_n C dX0_reckon_62 rfl rfl ?_
              refine r_ialdv (v := σ 2 c i) C dX0_reckon_63 ⟨by decide, hc⟩ rfl (vp_in_nI (show i < 12 by omega) (by decide)) (by rw [nI_clamp (by omega)]; rfl) ?_
              refine r_aload_n C dX0_reckon_64 rfl rfl ?_
              refine r_get (f := 2) C dX0_reckon_65 ⟨by decide, hc⟩ rfl rfl kU0 (by decide) kf_X0_18 rfl rfl ?_
              refine r_iload_n C dX0_reckon_68 rfl rfl ?_
              refine r_ialdv (v := a) C dX0_reckon_69 ⟨by decide, hc⟩ rfl (vp_in_nI (show r.length < 12 by simp at hsl; omega) (by decide)) (by rw [nI_clamp (by simp at hsl; omega), upR_self]; exact onS_top (onS_tail hon)) ?_
              refine r_aload_n C dX0_reckon_70 rfl rfl ?_
              refine r_get (f := 2) C dX0_reckon_71 ⟨by decide, hc⟩ rfl rfl kU0 (by decide) kf_X0_18 rfl rfl ?_
              refine r_iload_n C dX0_reckon_74 rfl rfl ?_
              refine r_iconst (v := 1) C dX0_reckon_75 rfl ?_
              refine r_iadd C dX0_reckon_76 ?_
              rw [nI_1]
              refine r_ialdv (v := b) C dX0_reckon_77 ⟨by decide, hc⟩ rfl (vp_in_nI (show r.length + 1 < 12 by simp at hsl; omega) (by decide)) (by rw [nI_clamp (by simp at hsl; omega), upR_self]; exact onS_top hon) ?_
              refine r_callS C dX0_reckon_78 (c_operate (upR σ 4 c g) τ (σ 2 c i) a b) rfl kB_X0_operate rfl kS_X0_operate kl_X0_38 (by decide) (Nat.le_of_ble_eq_true rfl) (by decide) ?_
              rintro r9 σ' τ' ⟨rfl, rfl, rfl⟩
              refine r_lstore C dX0_reckon_81 (by decide) rfl ?_
              refine r_goto (tgt := 90) C dX0_reckon_83 (by decide) ?_
              refine r_swk (j90 (opF (σ 2 c i) a b) r (by simp at hsl; omega) (onS_tail (onS_tail hon)) ?_) rfl rfl rfl rfl
              show (evN V (σ 2 c) (σ 3 c) i).bind (evS V (σ 2 c i) (σ 3 c i)) = _
              rw [hev]
              have n12 : ¬ σ 2 c i = 12 := fun q => by rw [q] at c20; exact absurd c20 (by decide)
              have n13 : ¬ σ 2 c i = 13 := fun q => by rw [q] at c20; exact absurd c20 (by decide)
              show evS V (σ 2 c i) (σ 3 c i) (b :: a :: r) = _
              unfold evS
              rw [if_neg n12, if_neg n13]
        · have n20 := Int32.not_lt.mp c20
          refine r_aload_n C dX0_reckon_23 rfl rfl ?_
          refine r_get (f := 0) C dX0_reckon_24 ⟨by decide, hc⟩ rfl rfl kU0 (by decide) kf_X0_9 rfl rfl ?_
          refine r_iload_n C dX0_reckon_27 rfl rfl ?_
          refine r_ialdv (v := σ 2 c i) C dX0_reckon_28 ⟨by decide, hc⟩ rfl (vp_in_nI (show i < 12 by omega) (by decide)) (by rw [nI_clamp (by omega)]; rfl) ?_
          refine r_aload_n C dX0_reckon_29 rfl rfl ?_
          refine r_get (f := 1) C dX0_reckon_30 ⟨by decide, hc⟩ rfl rfl kU0 (by decide) kf_X0_15 rfl rfl ?_
          refine r_iload_n C dX0_reckon_33 rfl rfl ?_
          refine r_ialdv (v := σ 3 c i) C dX0_reckon_34 ⟨by decide, hc⟩ rfl (vp_in_nI (show i < 12 by omega) (by decide)) (by rw [nI_clamp (by omega)]; rfl) ?_
          refine r_aload_n C dX0_reckon_35 rfl rfl ?_
          refine r_callS C dX0_reckon_36 (c_leaf (upR σ 4 c g) τ (σ 2 c i) (σ 3 c i)) rfl kB_X0_leaf rfl kS_X0_leaf kl_X0_34 (by decide) (Nat.le_of_ble_eq_true rfl) (by decide) ?_
          rintro r σ' τ' ⟨rfl, rfl, rfl⟩
          refine r_lstore C dX0_reckon_39 (by decide) rfl ?_
          refine r_goto (tgt := 90) C dX0_reckon_41 (by decide) ?_
          have hkk := kd_cases hk13 (Int32.not_lt.mpr n20)
          have hlf : ∃ o, lfV (τ 8) (σ 2 c i) (σ 3 c i) = oL o ∧ evS V (σ 2 c i) (σ 3 c i) st = o.map (fun x => x :: st) := by
            rcases hkk with e | e
            · exact ⟨some (σ 3 c i), by simp [lfV, e, oL], by simp [evS, e]⟩
            · obtain ⟨q1, q2⟩ := hce e
              refine ⟨V (σ 3 c i).toNatClampNeg, ?_, by simp [evS, e]⟩
              rw [← hV i hik e]
              simp [lfV, e, q1, Int32.not_le.mpr q2]
          obtain ⟨o, ho1, ho2⟩ := hlf
          refine r_swk (j90 o st (by omega) hon ?_) rfl rfl (by rw [ho1]; rfl) rfl
          show (evN V (σ 2 c) (σ 3 c) i).bind (evS V (σ 2 c i) (σ 3 c i)) = _
          rw [hev]
          exact ho2
  have h0 := loop (k + 1) 0 (by omega) (by omega) (σ 4 c) [] rfl (onS_nil _)
  rw [upR_id] at h0
  exact h0
end
section
/-! ===== sets of cells: the bits below 16 ===== -/
/-- a set of cells: nothing above bit 15 -/
def m16 (m : Int32) : Prop := ∀ i, 16 ≤ i → bt m i = false
theorem m16_0 : m16 0 := fun i _ => b_0 i
theorem m16_or {x y : Int32} (hx : m16 x) (hy : m16 y) : m16 (x ||| y) := fun i h => by rw [b_or, hx i h, hy i h]; rfl
theorem m16_and {x : Int32} (hx : m16 x) (y : Int32) : m16 (x &&& y) := fun i h => by rw [b_and, hx i h]; rfl
theorem m16_and2 {y : Int32} (x : Int32) (hy : m16 y) : m16 (x &&& y) := fun i h => by rw [b_and, hy i h, Bool.and_false]
theorem m16_ext {x y : Int32} (hx : m16 x) (hy : m16 y) (h : ∀ i, i < 16 → bt x i = bt y i) : x = y := b_ext (fun i _ => by
  rcases Nat.lt_or_ge i 16 with q | q
  · exact h i q
  · rw [hx i q, hy i q])
/-- one cell -/
def b1 (c : Nat) : Int32 := (1 : Int32) <<< (nI c &&& 31)
theorem bt_1 (i : Nat) : bt 1 i = decide (i = 0) := by
  unfold bt
  rcases Nat.lt_or_ge i 32 with h | h
  · have : ∀ i, i < 32 → ((1 : Int32).toBitVec).getLsbD i = decide (i = 0) := by decide
    exact this i h
  · rw [BitVec.getLsbD_of_ge _ _ h]
    simp
    omega
theorem bt_b1 {c : Nat} (hc : c < 32) (i : Nat) : bt (b1 c) i = decide (i = c) := by
  rcases Nat.lt_or_ge i 32 with h | h
  · unfold b1
    rw [b_shl c hc 1 h, bt_1]
    by_cases e : i = c
    · subst e; simp
    · rw [decide_eq_false e]
      by_cases e2 : c ≤ i
      · rw [decide_eq_false (show ¬ i - c = 0 by omega)]; simp
      · rw [decide_eq_false e2]; rfl
  · rw [b_big h, decide_eq_false (by omega)]
theorem m16_b1 {c : Nat} (hc : c < 16) : m16 (b1 c) := fun i h => by rw [bt_b1 (by omega), decide_eq_false (by omega)]
theorem bt_not (x : Int32) {i : Nat} (hi : i < 32) : bt (x ^^^ (-1)) i = !bt x i := by rw [b_xor, b_m1 i hi]; simp
/-- whether a shifted set's last bit stands -/
theorem bt_and1 (x : Int32) : x &&& 1 = if bt x 0 then 1 else 0 := by
  apply b_ext
  intro i hi
  rw [b_and, bt_1]
  by_cases e : i = 0
  · subst e
    cases bt x 0 <;> simp [bt_1, b_0]
  · rw [decide_eq_false e, Bool.and_false]
    cases bt x 0 <;> simp [bt_1, b_0, e]
theorem bt_sh {c : Nat} (hc : c < 32) (x : Int32) : (x >>> (nI c &&& 31)) &&& 1 = if bt x c then 1 else 0 := by
  rw [bt_and1, b_sshr c hc x (by decide), if_pos (show c + 0 < 32 by omega), Nat.add_zero]
theorem bt_sh0 {c : Nat} (hc : c < 32) (x : Int32) : (x >>> (nI c &&& 31)) &&& 1 = 0 ↔ bt x c = false := by
  rw [bt_sh hc]
  cases bt x c <;> simp
theorem bt_sh1 {c : Nat} (hc : c < 32) (x : Int32) : (x >>> (nI c &&& 31)) &&& 1 = 1 ↔ bt x c = true := by
  rw [bt_sh hc]
  cases bt x c <;> simp
theorem hasB_bt {c : Nat} (hc : c < 16) (x : Int32) : hasB x (nI c) = bt x c := by
  unfold hasB
  rw [if_neg (nI_pos (by omega)), if_neg (fun q => by have := (nI_leI (a := 16) (b := c) (by decide) (by omega)).mp q; omega)]
  by_cases h : bt x c = true
  · rw [if_neg (fun q => by rw [(bt_sh0 (by omega) x).mp q] at h; cases h), h]
  · rw [Bool.not_eq_true] at h
    rw [if_pos ((bt_sh0 (by omega) x).mpr h), h]
theorem mask_0 (x : Int32) : x = 0 ↔ ∀ i, i < 32 → bt x i = false := by
  constructor
  · intro h i _; rw [h, b_0]
  · intro h; exact b_ext (fun i hi => by rw [h i hi, b_0])
theorem mask_ne0 {x : Int32} (h : ¬ x = 0) : ∃ i, i < 32 ∧ bt x i = true := by
  rcases Classical.em (∃ i, i < 32 ∧ bt x i = true) with q | q
  · exact q
  · exfalso
    apply h
    rw [mask_0]
    intro i hi
    cases hb : bt x i with
    | false => rfl
    | true => exact absurd ⟨i, hi, hb⟩ q
/-- any of the first cells -/
def anyB (p : Nat → Bool) : Nat → Bool
  | 0 => false
  | i + 1 => anyB p i || p i
theorem anyB_true {p : Nat → Bool} : ∀ {n : Nat}, anyB p n = true ↔ ∃ i, i < n ∧ p i = true
  | 0 => ⟨fun h => (by cases h), fun ⟨i, h, _⟩ => absurd h (Nat.not_lt_zero i)⟩
  | n + 1 => by
    unfold anyB
    rw [Bool.or_eq_true, anyB_true]
    constructor
    · rintro (⟨i, h1, h2⟩ | h)
      · exact ⟨i, by omega, h2⟩
      · exact ⟨n, by omega, h⟩
    · rintro ⟨i, h1, h2⟩
      by_cases e : i = n
      · subst e; exact Or.inr h2
      · exact Or.inl ⟨i, by omega, h2⟩
theorem anyB_congr {p q : Nat → Bool} : ∀ {n : Nat}, (∀ i, i < n → p i = q i) → anyB p n = anyB q n
  | 0, _ => rfl
  | n + 1, h => by
    unfold anyB
    rw [anyB_congr (fun i hi => h i (by omega)), h n (by omega)]
/-- the cells among a formula's first parts -/
theorem rsM_bt (kd nm : Nat → Int32) : ∀ (n : Nat), (∀ i, i < n → kd i = 13 → isC (nm i)) → ∀ c, bt (rsM kd nm n) c = anyB (fun i => decide (kd i = 13) && decide (nm i = nI c) && decide (c < 16)) n
  | 0, _, c => by
    show bt 0 c = false
    exact b_0 c
  | n + 1, h, c => by
    have ih := rsM_bt kd nm n (fun i hi => h i (by omega)) c
    unfold rsM anyB
    by_cases hk : kd n = 13
    · rw [if_pos hk, b_or, ih]
      obtain ⟨k, hk16, e⟩ := isC_nI (h n (by omega) hk)
      have e2 : bt ((1 : Int32) <<< (nm n &&& 31)) c = (decide (kd n = 13) && decide (nm n = nI c) && decide (c < 16)) := by
        rw [e]
        have := bt_b1 (c := k) (by omega) c
        unfold b1 at this
        rw [this, decide_eq_true hk, Bool.true_and]
        rcases Nat.lt_or_ge c 16 with q | q
        · rw [decide_eq_true q, Bool.and_true]
          by_cases e3 : c = k
          · subst e3; simp
          · rw [decide_eq_false e3, decide_eq_false]
            intro q2
            exact e3 ((nI_eq (by omega) (by omega)).mp q2).symm
        · rw [decide_eq_false (show ¬ c = k by omega), decide_eq_false (show ¬ c < 16 by omega), Bool.and_false]
      rw [e2]
    · rw [if_neg hk, ih, decide_eq_false hk]
      simp
theorem rsM_m16 (kd nm : Nat → Int32) (n : Nat) (h : ∀ i, i < n → kd i = 13 → isC (nm i)) : m16 (rsM kd nm n) := fun c hc => by
  rw [rsM_bt kd nm n h c]
  rcases hx : anyB _ n with _ | _
  · rfl
  · obtain ⟨i, -, h2⟩ := anyB_true.mp hx
    simp at h2
    omega
end
section
/-! ===== the sheet: what is asked of it, sets of cells: printed by g15.py ===== -/
theorem b2i_0 {b : Bool} : b2i b = 0 ↔ b = false := by cases b <;> simp [b2i]
theorem b2i_n {b : Bool} : ¬ b2i b = 0 ↔ b = true := by cases b <;> simp [b2i]
theorem b2i_01 (b : Bool) : b2i b = 0 ∨ b2i b = 1 := by cases b <;> simp [b2i]
/-- a set, and on what its cells rest, as far as the first n go -/
def rotF (ro : Nat → Int32) (read : Int32) : Nat → Int32
  | 0 => read
  | i + 1 => if bt read i then rotF ro read i ||| ro i else rotF ro read i
theorem rotF_bt (ro : Nat → Int32) (read : Int32) (d : Nat) : ∀ n, bt (rotF ro read n) d = (bt read d || anyB (fun e => bt read e && bt (ro e) d) n)
  | 0 => by simp [rotF, anyB]
  | n + 1 => by
    unfold rotF anyB
    by_cases h : bt read n = true
    · rw [if_pos h, b_or, rotF_bt ro read d n, h, Bool.true_and, Bool.or_assoc]
    · rw [if_neg h, rotF_bt ro read d n]
      rw [Bool.not_eq_true] at h
      rw [h]; simp
/-- the cells that rest on one, among the first n -/
def croF (ro : Nat → Int32) (cell : Nat) : Nat → Int32
  | 0 => 0
  | i + 1 => if bt (ro i) cell then croF ro cell i ||| b1 i else croF ro cell i
theorem croF_bt (ro : Nat → Int32) (cell d : Nat) : ∀ n, n ≤ 16 → bt (croF ro cell n) d = (decide (d < n) && bt (ro d) cell)
  | 0, _ => by simp [croF, b_0]
  | n + 1, hn => by
    unfold croF
    by_cases h : bt (ro n) cell = true
    · rw [if_pos h, b_or, croF_bt ro cell d n (by omega), bt_b1 (by omega)]
      by_cases e : d = n
      · subst e; simp [h]
      · rw [decide_eq_false e, Bool.or_false]
        congr 1
        exact decide_eq_decide.mpr (by omega)
    · rw [if_neg h, croF_bt ro cell d n (by omega)]
      by_cases e : d = n
      · subst e; rw [Bool.not_eq_true] at h; simp [h]
      · congr 1
        exact decide_eq_decide.mpr (by omega)
set_option maxRecDepth 100000 in
set_option maxHeartbeats 4000000 in
theorem c_isInput {l : Launch} {D : va_G} {ad : Nat → Nat → Nat} {aC : Nat → ClassId} (σ : gSig) (τ : gTau) (cell : Int32) : CZ l D ad aC yX3_isInput cX3_isInput 2 (some .boolean) 1 [.ref (ad 5 0), .int cell] σ τ (gEq (some (.int (b2i (hasB (σ 5 0 8) cell)))) σ τ) := by
  refine CZ.of (own := RX3) (by decide +kernel) rfl (Nat.le_of_ble_eq_true rfl) (fun S C => ?_)
  refine r_aload_n C dX3_isInput_0 rfl rfl ?_
  refine r_get (f := 8) C dX3_isInput_1 ⟨by decide, by decide⟩ rfl rfl kU3 (by decide) kf_X3_41 rfl rfl ?_
  refine r_iload_n C dX3_isInput_4 rfl rfl ?_
  refine r_callSN C dX3_isInput_5 (c_has σ τ (σ 5 0 8) cell) rfl kB_X5_has rfl kS_X5_has kl_X3_46 (by decide) (Nat.le_of_ble_eq_true rfl) (by decide) ?_
  rintro r9 σ' τ' ⟨rfl, rfl, rfl⟩
  exact r_zret C dX3_isInput_8 rfl (by decide) (b2i_01 _) ⟨rfl, rfl, rfl⟩
set_option maxRecDepth 100000 in
set_option maxHeartbeats 4000000 in
theorem c_restedOnThrough {l : Launch} {D : va_G} {ad : Nat → Nat → Nat} {aC : Nat → ClassId} (σ : gSig) (τ : gTau) (read : Int32) : CZ l D ad aC yX3_restedOnThrough cX3_restedOnThrough 4 (some .int) 1 [.ref (ad 5 0), .int read] σ τ (gEq (some (.int (rotF (σ 7 4) read 16))) σ τ) := by
  refine CZ.of (own := RX3) (by decide +kernel) rfl (Nat.le_of_ble_eq_true rfl) (fun S C => ?_)
  refine r_iload_n C dX3_restedOnThrough_0 rfl rfl ?_
  refine r_istore_n C dX3_restedOnThrough_1 rfl (by decide) rfl ?_
  refine r_iconst (v := 0) C dX3_restedOnThrough_2 rfl ?_
  refine r_istore_n C dX3_restedOnThrough_3 rfl (by decide) rfl ?_
  have loop : ∀ m i, i ≤ 16 → 16 - i < m → S 0 σ τ 4 [some (.ref (ad 5 0)), some (.int read), some (.int (rotF (σ 7 4) read i)), some (.int (nI i))] [] := by
    intro m
    induction m with
    | zero => intro i _ hm; omega
    | succ m ihloop =>
      intro i hiloop hmloop
      refine r_iload_n C dX3_restedOnThrough_4 rfl rfl ?_
      refine r_bipush (v := 16) C dX3_restedOnThrough_5 rfl ?_
      refine r_icmpge (tgt := 33) C dX3_restedOnThrough_7 (by decide) (fun c7 => ?_) (fun c7 => ?_)
      · have n7 := Int32.not_lt.mpr c7
        have hloope : i = 16 := by
          have := (nI_leI (a := 16) (by omega) (by omega)).mp c7
          omega
        subst hloope
        refine r_iload_n C dX3_restedOnThrough_33 rfl rfl ?_
        exact r_iret C dX3_restedOnThrough_34 rfl (by decide) ⟨rfl, rfl, rfl⟩
      · have n7 := Int32.not_le.mp c7
        have hloopl : i < 16 := (nI_ltI (b := 16) (by omega) (by omega)).mp n7
        refine r_iload_n C dX3_restedOnThrough_10 rfl rfl ?_
        refine r_iload_n C dX3_restedOnThrough_11 rfl rfl ?_
        refine r_callSN C dX3_restedOnThrough_12 (c_has σ τ read (nI i)) rfl kB_X5_has rfl kS_X5_has kl_X3_46 (by decide) (Nat.le_of_ble_eq_true rfl) (by decide) ?_
        rintro r9 σ' τ' ⟨rfl, rfl, rfl⟩
        rw [hasB_bt hloopl]
        refine r_ifeq (tgt := 27) C dX3_restedOnThrough_15 (by decide) (fun c15 => ?_) (fun c15 => ?_)
        · have h15 := b2i_0.mp c15
          refine r_iinc C dX3_restedOnThrough_27 rfl rfl (by decide) rfl ?_
          refine r_goto (tgt := 4) C dX3_restedOnThrough_30 (by decide) ?_
          exact r_swk (ihloop (i + 1) (by omega) (by omega)) rfl rfl (by simp [rotF, h15, nI_succ]) rfl
        · have h15 := b2i_n.mp c15
          refine r_iload_n C dX3_restedOnThrough_18 rfl rfl ?_
          refine r_aload_n C dX3_restedOnThrough_19 rfl rfl ?_
          refine r_get (f := 5) C dX3_restedOnThrough_20 ⟨by decide, by decide⟩ rfl rfl kU3 (by decide) kf_X3_30 rfl rfl ?_
          refine r_iload_n C dX3_restedOnThrough_23 rfl rfl ?_
          refine r_ialdv (v := σ 7 4 i) C dX3_restedOnThrough_24 ⟨by decide, by decide⟩ rfl (vp_in_nI hloopl (by decide)) (by rw [nI_clamp (by omega)]) ?_
          refine r_ior C dX3_restedOnThrough_25 ?_
          refine r_istore_n C dX3_restedOnThrough_26 rfl (by decide) rfl ?_
          refine r_iinc C dX3_restedOnThrough_27 rfl rfl (by decide) rfl ?_
          refine r_goto (tgt := 4) C dX3_restedOnThrough_30 (by decide) ?_
          exact r_swk (ihloop (i + 1) (by omega) (by omega)) rfl rfl (by simp [rotF, h15, nI_succ]) rfl
  exact loop (16 + 1) 0 (by omega) (by omega)
set_option maxRecDepth 100000 in
set_option maxHeartbeats 4000000 in
theorem c_wouldRest {l : Launch} {D : va_G} {ad : Nat → Nat → Nat} {aC : Nat → ClassId} (σ : gSig) (τ : gTau) (cell : Int32) (c k : Nat) (hc : c < 17) (hk : σ 1 c 3 = nI k) (hk2 : k ≤ 12) : CZ l D ad aC yX3_wouldRestOnItself cX3_wouldRestOnItself 3 (some .boolean) 2 [.ref (ad 5 0), .int cell, .ref (ad 1 c)] σ τ (gEq (some (.int (b2i (hasB (rotF (σ 7 4) (rsM (σ 2 c) (σ 3 c) k) 16) cell)))) σ τ) := by
  refine CZ.of (own := RX3) (by decide +kernel) rfl (Nat.le_of_ble_eq_true rfl) (fun S C => ?_)
  refine r_aload_n C dX3_wouldRestOnItself_0 rfl rfl ?_
  refine r_aload_n C dX3_wouldRestOnItself_1 rfl rfl ?_
  refine r_callV C dX3_wouldRestOnItself_2 (c_readSet σ τ c k hc hk hk2) rfl ⟨by decide, hc⟩ rfl rfl kB_X0_readSet rfl kI_X0_readSet kV_X0_readSet kl_X3_57 (by decide) (Nat.le_of_ble_eq_true rfl) (by decide) ?_
  rintro r9 σ' τ' ⟨rfl, rfl, rfl⟩
  refine r_callV C dX3_wouldRestOnItself_5 (c_restedOnThrough σ τ (rsM (σ 2 c) (σ 3 c) k)) rfl ⟨by decide, by decide⟩ rfl rfl kB_X3_restedOnThrough rfl kI_X3_restedOnThrough kV_X3_restedOnThrough kl_X3_61 (by decide) (Nat.le_of_ble_eq_true rfl) (by decide) ?_
  rintro r9 σ' τ' ⟨rfl, rfl, rfl⟩
  refine r_iload_n C dX3_wouldRestOnItself_8 rfl rfl ?_
  refine r_callSN C dX3_wouldRestOnItself_9 (c_has σ τ (rotF (σ 7 4) (rsM (σ 2 c) (σ 3 c) k) 16) cell) rfl kB_X5_has rfl kS_X5_has kl_X3_46 (by decide) (Nat.le_of_ble_eq_true rfl) (by decide) ?_
  rintro r9 σ' τ' ⟨rfl, rfl, rfl⟩
  exact r_zret C dX3_wouldRestOnItself_12 rfl (by decide) (b2i_01 _) ⟨rfl, rfl, rfl⟩
set_option maxRecDepth 100000 in
set_option maxHeartbeats 4000000 in
theorem c_cellsRestingOn {l : Launch} {D : va_G} {ad : Nat → Nat → Nat} {aC : Nat → ClassId} (σ : gSig) (τ : gTau) (cell : Nat) (hc : cell < 16) : CZ l D ad aC yX3_cellsRestingOn cX3_cellsRestingOn 4 (some .int) 1 [.ref (ad 5 0), .int (nI cell)] σ τ (gEq (some (.int (croF (σ 7 4) cell 16))) σ τ) := by
  refine CZ.of (own := RX3) (by decide +kernel) rfl (Nat.le_of_ble_eq_true rfl) (fun S C => ?_)
  refine r_iconst (v := 0) C dX3_cellsRestingOn_0 rfl ?_
  refine r_istore_n C dX3_cellsRestingOn_1 rfl (by decide) rfl ?_
  refine r_iconst (v := 0) C dX3_cellsRestingOn_2 rfl ?_
  refine r_istore_n C dX3_cellsRestingOn_3 rfl (by decide) rfl ?_
  have loop : ∀ m i, i ≤ 16 → 16 - i < m → S 0 σ τ 4 [some (.ref (ad 5 0)), some (.int (nI cell)), some (.int (croF (σ 7 4) cell i)), some (.int (nI i))] [] := by
    intro m
    induction m with
    | zero => intro i _ hm; omega
    | succ m ihloop =>
      intro i hiloop hmloop
      refine r_iload_n C dX3_cellsRestingOn_4 rfl rfl ?_
      refine r_bipush (v := 16) C dX3_cellsRestingOn_5 rfl ?_
      refine r_icmpge (tgt := 35) C dX3_cellsRestingOn_7 (by decide) (fun c7 => ?_) (fun c7 => ?_)
      · have n7 := Int32.not_lt.mpr c7
        have hloope : i = 16 := by
          have := (nI_leI (a := 16) (by omega) (by omega)).mp c7
          omega
        subst hloope
        refine r_iload_n C dX3_cellsRestingOn_35 rfl rfl ?_
        exact r_iret C dX3_cellsRestingOn_36 rfl (by decide) ⟨rfl, rfl, rfl⟩
      · have n7 := Int32.not_le.mp c7
        have hloopl : i < 16 := (nI_ltI (b := 16) (by omega) (by omega)).mp n7
        refine r_aload_n C dX3_cellsRestingOn_10 rfl rfl ?_
        refine r_get (f := 5) C dX3_cellsRestingOn_11 ⟨by decide, by decide⟩ rfl rfl kU3 (by decide) kf_X3_30 rfl rfl ?_
        refine r_iload_n C dX3_cellsRestingOn_14 rfl rfl ?_
        refine r_ialdv (v := σ 7 4 i) C dX3_cellsRestingOn_15 ⟨by decide, by decide⟩ rfl (vp_in_nI hloopl (by decide)) (by rw [nI_clamp (by omega)]) ?_
        refine r_iload_n C dX3_cellsRestingOn_16 rfl rfl ?_
        refine r_callSN C dX3_cellsRestingOn_17 (c_has σ τ (σ 7 4 i) (nI cell)) rfl kB_X5_has rfl kS_X5_has kl_X3_46 (by decide) (Nat.le_of_ble_eq_true rfl) (by decide) ?_
        rintro r9 σ' τ' ⟨rfl, rfl, rfl⟩
        rw [hasB_bt hc]
        refine r_ifeq (tgt := 29) C dX3_cellsRestingOn_20 (by decide) (fun c20 => ?_) (fun c20 => ?_)
        · have h20 := b2i_0.mp c20
          refine r_iinc C dX3_cellsRestingOn_29 rfl rfl (by decide) rfl ?_
          refine r_goto (tgt := 4) C dX3_cellsRestingOn_32 (by decide) ?_
          exact r_swk (ihloop (i + 1) (by omega) (by omega)) rfl rfl (by simp [croF, h20, nI_succ, b1]) rfl
        · have h20 := b2i_n.mp c20
          refine r_iload_n C dX3_cellsRestingOn_23 rfl rfl ?_
          refine r_iconst (v := 1) C dX3_cellsRestingOn_24 rfl ?_
          refine r_iload_n C dX3_cellsRestingOn_25 rfl rfl ?_
          refine r_ishl C dX3_cellsRestingOn_26 ?_
          refine r_ior C dX3_cellsRestingOn_27 ?_
          refine r_istore_n C dX3_cellsRestingOn_28 rfl (by decide) rfl ?_
          refine r_iinc C dX3_cellsRestingOn_29 rfl rfl (by decide) rfl ?_
          refine r_goto (tgt := 4) C dX3_cellsRestingOn_32 (by decide) ?_
          exact r_swk (ihloop (i + 1) (by omega) (by omega)) rfl rfl (by simp [croF, h20, nI_succ, b1]) rfl
  exact loop (16 + 1) 0 (by omega) (by omega)
/-- one scan: what the cells of the set read comes to the set -/
def scR (rdm : Nat → Int32) (R : Int32) : Nat → Int32
  | 0 => R
  | j + 1 => if bt (scR rdm R j) j then scR rdm R j ||| rdm j else scR rdm R j
theorem scR_t {rdm : Nat → Int32} {R : Int32} {j : Nat} (h : bt (scR rdm R j) j = true) : scR rdm R (j + 1) = scR rdm R j ||| rdm j := if_pos h
theorem scR_f {rdm : Nat → Int32} {R : Int32} {j : Nat} (h : bt (scR rdm R j) j = false) : scR rdm R (j + 1) = scR rdm R j := if_neg (by rw [h]; decide)
/-- so many scans -/
def clR (rdm : Nat → Int32) (R : Int32) : Nat → Int32
  | 0 => R
  | r + 1 => scR rdm (clR rdm R r) 16
set_option maxRecDepth 100000 in
set_option maxHeartbeats 4000000 in
theorem c_reachedFrom {l : Launch} {D : va_G} {ad : Nat → Nat → Nat} {aC : Nat → ClassId} (σ : gSig) (τ : gTau) (cell : Nat) (hc : cell < 16) (wv : Int32) : CZ l D ad aC yX3_reachedFrom cX3_reachedFrom 6 (some .int) 1 [.ref (ad 5 0), .int (nI cell), .int wv] σ τ (gEq (some (.int (clR (fun c => σ 7 3 c &&& (wv ^^^ (-1))) (b1 cell &&& (wv ^^^ (-1))) 16))) σ τ) := by
  refine CZ.of (own := RX3) (by decide +kernel) rfl (Nat.le_of_ble_eq_true rfl) (fun S C => ?_)
  refine r_iconst (v := 1) C dX3_reachedFrom_0 rfl ?_
  refine r_iload_n C dX3_reachedFrom_1 rfl rfl ?_
  refine r_ishl C dX3_reachedFrom_2 ?_
  refine r_iload_n C dX3_reachedFrom_3 rfl rfl ?_
  refine r_iconst (v := (-1)) C dX3_reachedFrom_4 rfl ?_
  refine r_ixor C dX3_reachedFrom_5 ?_
  refine r_iand C dX3_reachedFrom_6 ?_
  refine r_istore_n C dX3_reachedFrom_7 rfl (by decide) rfl ?_
  refine r_iconst (v := 0) C dX3_reachedFrom_8 rfl ?_
  refine r_istore C dX3_reachedFrom_9 (by decide) rfl ?_
  generalize hR0 : b1 cell &&& (wv ^^^ (-1)) = R0
  have lp1 : ∀ m r, r ≤ 16 → 16 - r < m → S 0 σ τ 11 [some (.ref (ad 5 0)), some (.int (nI cell)), some (.int wv), some (.int (clR (fun c => σ 7 3 c &&& (wv ^^^ (-1))) R0 r)), some (.int (nI r)), none] [] := by
    intro m
    induction m with
    | zero => intro r _ hm; omega
    | succ m ihlp1 =>
      intro r hilp1 hmlp1
      refine r_iload C dX3_reachedFrom_11 rfl ?_
      refine r_bipush (v := 16) C dX3_reachedFrom_13 rfl ?_
      refine r_icmpge (tgt := 63) C dX3_reachedFrom_15 (by decide) (fun c15 => ?_) (fun c15 => ?_)
      · have n15 := Int32.not_lt.mpr c15
        have hlp1e : r = 16 := by
          have := (nI_leI (a := 16) (by omega) (by omega)).mp c15
          omega
        subst hlp1e
        refine r_iload_n C dX3_reachedFrom_63 rfl rfl ?_
        exact r_iret C dX3_reachedFrom_64 rfl (by decide) ⟨by rw [hR0], rfl, rfl⟩
      · have n15 := Int32.not_le.mp c15
        have hlp1l : r < 16 := (nI_ltI (b := 16) (by omega) (by omega)).mp n15
        refine r_iconst (v := 0) C dX3_reachedFrom_18 rfl ?_
        refine r_istore C dX3_reachedFrom_19 (by decide) rfl ?_
        have lp2 : ∀ m j, j ≤ 16 → 16 - j < m → S 0 σ τ 21 [some (.ref (ad 5 0)), some (.int (nI cell)), some (.int wv), some (.int (scR (fun c => σ 7 3 c &&& (wv ^^^ (-1))) (clR (fun c => σ 7 3 c &&& (wv ^^^ (-1))) R0 r) j)), some (.int (nI r)), some (.int (nI j))] [] := by
          intro m
          induction m with
          | zero => intro j _ hm; omega
          | succ m ihlp2 =>
            intro j hilp2 hmlp2
            refine r_iload C dX3_reachedFrom_21 rfl ?_
            refine r_bipush (v := 16) C dX3_reachedFrom_23 rfl ?_
            refine r_icmpge (tgt := 57) C dX3_reachedFrom_25 (by decide) (fun c25 => ?_) (fun c25 => ?_)
            · have n25 := Int32.not_lt.mpr c25
              have hlp2e : j = 16 := by
                have := (nI_leI (a := 16) (by omega) (by omega)).mp c25
                omega
              subst hlp2e
              refine r_iinc C dX3_reachedFrom_57 rfl rfl (by decide) rfl ?_
              refine r_goto (tgt := 11) C dX3_reachedFrom_60 (by decide) ?_
              refine r_drop C [5] ?_
              exact r_swk (ihlp1 (r + 1) (by omega) (by omega)) rfl rfl (by simp [clR, nI_succ, dropL]) rfl
            · have n25 := Int32.not_le.mp c25
              have hlp2l : j < 16 := (nI_ltI (b := 16) (by omega) (by omega)).mp n25
              refine r_iload_n C dX3_reachedFrom_28 rfl rfl ?_
              refine r_iload C dX3_reachedFrom_29 rfl ?_
              refine r_callSN C dX3_reachedFrom_31 (c_has σ τ (scR (fun c => σ 7 3 c &&& (wv ^^^ (-1))) (clR (fun c => σ 7 3 c &&& (wv ^^^ (-1))) R0 r) j) (nI j)) rfl kB_X5_has rfl kS_X5_has kl_X3_46 (by decide) (Nat.le_of_ble_eq_true rfl) (by decide) ?_
              rintro r9 σ' τ' ⟨rfl, rfl, rfl⟩
              rw [hasB_bt hlp2l]
              refine r_ifeq (tgt := 51) C dX3_reachedFrom_34 (by decide) (fun c34 => ?_) (fun c34 => ?_)
              · have h34 := b2i_0.mp c34
                refine r_iinc C dX3_reachedFrom_51 rfl rfl (by decide) rfl ?_
                refine r_goto (tgt := 21) C dX3_reachedFrom_54 (by decide) ?_
                exact r_swk (ihlp2 (j + 1) (by omega) (by omega)) rfl rfl (by first | (rw [scR_t h34, ← nI_p1]; rfl) | (rw [scR_f h34, ← nI_p1]; rfl)) rfl
              · have h34 := b2i_n.mp c34
                refine r_iload_n C dX3_reachedFrom_37 rfl rfl ?_
                refine r_aload_n C dX3_reachedFrom_38 rfl rfl ?_
                refine r_get (f := 4) C dX3_reachedFrom_39 ⟨by decide, by decide⟩ rfl rfl kU3 (by decide) kf_X3_27 rfl rfl ?_
                refine r_iload C dX3_reachedFrom_42 rfl ?_
                refine r_ialdv (v := σ 7 3 j) C dX3_reachedFrom_44 ⟨by decide, by decide⟩ rfl (vp_in_nI hlp2l (by decide)) (by rw [nI_clamp (by omega)]) ?_
                refine r_iload_n C dX3_reachedFrom_45 rfl rfl ?_
                refine r_iconst (v := (-1)) C dX3_reachedFrom_46 rfl ?_
                refine r_ixor C dX3_reachedFrom_47 ?_
                refine r_iand C dX3_reachedFrom_48 ?_
                refine r_ior C dX3_reachedFrom_49 ?_
                refine r_istore_n C dX3_reachedFrom_50 rfl (by decide) rfl ?_
                refine r_iinc C dX3_reachedFrom_51 rfl rfl (by decide) rfl ?_
                refine r_goto (tgt := 21) C dX3_reachedFrom_54 (by decide) ?_
                exact r_swk (ihlp2 (j + 1) (by omega) (by omega)) rfl rfl (by first | (rw [scR_t h34, ← nI_p1]; rfl) | (rw [scR_f h34, ← nI_p1]; rfl)) rfl
        exact lp2 (16 + 1) 0 (by omega) (by omega)
  refine r_swk (lp1 17 0 (by omega) (by omega)) rfl rfl ?_ rfl
  rw [← hR0]
  rfl
end
section
/-! ===== the sheet as a graph: orders, on what a cell rests, locks, values ===== -/
def upF (σ : gSig) (f : Nat) (g : Nat → Nat → Int32) : gSig := fun f' c' => if f' = f then g c' else σ f' c'
def upT (τ : gTau) (f : Nat) (t : Nat → Int64) : gTau := fun f' => if f' = f then t else τ f'
theorem upF_id (σ : gSig) (f : Nat) : upF σ f (σ f) = σ := by
  funext f' c'
  unfold upF
  by_cases h : f' = f
  · rw [if_pos h, h]
  · rw [if_neg h]
theorem upT_id (τ : gTau) (f : Nat) : upT τ f (τ f) = τ := by
  funext f'
  unfold upT
  by_cases h : f' = f
  · rw [if_pos h, h]
  · rw [if_neg h]
theorem upR_upF (σ : gSig) (f c : Nat) (s : Nat → Nat → Int32) (g : Nat → Int32) : upR (upF σ f s) f c g = upF σ f (fun c' => if c' = c then g else s c') := by
  funext f' c'
  unfold upR upF
  by_cases h : f' = f
  · by_cases h2 : c' = c <;> simp [h, h2]
  · simp [h]
theorem up2_upT (τ : gTau) (f i : Nat) (t : Nat → Int64) (x : Int64) : up2 (upT τ f t) f i x = upT τ f (vp_updL t i x) := by
  funext f' i'
  unfold up2 upT vp_updL
  by_cases h : f' = f
  · by_cases h2 : i' = i <;> simp [h, h2]
  · simp [h]
theorem upF_upF (σ : gSig) (f : Nat) (s s' : Nat → Nat → Int32) : upF (upF σ f s) f s' = upF σ f s' := by
  funext f' c'
  unfold upF
  by_cases h : f' = f <;> simp [h]
theorem upT_upT (τ : gTau) (f : Nat) (s s' : Nat → Int64) : upT (upT τ f s) f s' = upT τ f s' := by
  funext f'
  unfold upT
  by_cases h : f' = f <;> simp [h]
/-- an order of the first k places, each cell behind all that it reads -/
def ordI (ord : Nat → Int32) (o : Nat → Nat) (k : Nat) : Prop := ∀ i, i < k → ord i = nI (o i) ∧ o i < 16
def ordT (rd : Nat → Int32) (o : Nat → Nat) (k : Nat) : Prop := ∀ i, i < k → ∀ d, d < 16 → bt (rd (o i)) d = true → ∃ j, j < i ∧ o j = d
def ordJ (o : Nat → Nat) (k : Nat) : Prop := ∀ i j, i < k → j < k → o i = o j → i = j
def ordS (o : Nat → Nat) : Prop := ∀ c, c < 16 → ∃ i, i < 16 ∧ o i = c
/-- on what the cells rest -/
def rsE (rd ro : Nat → Int32) (c : Nat) : Prop := m16 (ro c) ∧ ∀ d, bt (ro c) d = (bt (rd c) d || anyB (fun e => bt (rd c) e && bt (ro e) d) 16)
theorem rs_rd {rd ro : Nat → Int32} {c d : Nat} (h : rsE rd ro c) (hd : bt (rd c) d = true) : bt (ro c) d = true := by rw [h.2, hd]; rfl
theorem rs_via {rd ro : Nat → Int32} {c d e : Nat} (h : rsE rd ro c) (he : e < 16) (h1 : bt (rd c) e = true) (h2 : bt (ro e) d = true) : bt (ro c) d = true := by
  rw [h.2, Bool.or_eq_true]
  exact Or.inr (anyB_true.mpr ⟨e, he, by rw [h1, h2]; rfl⟩)
theorem rs_cases {rd ro : Nat → Int32} {c d : Nat} (h : rsE rd ro c) (hd : bt (ro c) d = true) : bt (rd c) d = true ∨ ∃ e, e < 16 ∧ bt (rd c) e = true ∧ bt (ro e) d = true := by
  rw [h.2, Bool.or_eq_true] at hd
  rcases hd with hd | hd
  · exact Or.inl hd
  · obtain ⟨e, he, h2⟩ := anyB_true.mp hd
    rw [Bool.and_eq_true] at h2
    exact Or.inr ⟨e, he, h2.1, h2.2⟩
theorem rs_trans {rd ro : Nat → Int32} {o : Nat → Nat} (hT : ordT rd o 16) (hS : ordS o) (hR : ∀ c, c < 16 → rsE rd ro c) : ∀ (n i : Nat), i < n → i < 16 → ∀ e d, e < 16 → bt (ro (o i)) e = true → o i < 16 → bt (rd e) d = true → bt (ro (o i)) d = true := by
  intro n
  induction n with
  | zero => intro i h; omega
  | succ n ih =>
    intro i hi hi16 e d he h1 hoi h2
    rcases rs_cases (hR _ hoi) h1 with h3 | ⟨x, hx, h3, h4⟩
    · exact rs_via (hR _ hoi) he h3 (rs_rd (hR e he) h2)
    · obtain ⟨j, hj, rfl⟩ := hT i hi16 x hx h3
      exact rs_via (hR _ hoi) hx h3 (ih j (by omega) (by omega) e d he h4 hx h2)
/-- a set closed under reading -/
theorem rs_closed {rd ro : Nat → Int32} {o : Nat → Nat} (hT : ordT rd o 16) (hS : ordS o) (hR : ∀ c, c < 16 → rsE rd ro c) {cell e d : Nat} (hc : cell < 16) (he : e < 16) (h1 : bt (ro cell ||| b1 cell) e = true) (h2 : bt (rd e) d = true) : bt (ro cell ||| b1 cell) d = true := by
  rw [b_or, Bool.or_eq_true] at h1 ⊢
  left
  rcases h1 with h1 | h1
  · obtain ⟨i, hi, rfl⟩ := hS cell hc
    exact rs_trans hT hS hR (i + 1) i (by omega) hi e d he h1 hc h2
  · rw [bt_b1 (by omega)] at h1
    have : e = cell := by simpa using h1
    subst this
    exact rs_rd (hR e he) h2
/-- the locks along an order -/
def lkB (rd : Nat → Int32) (fl wv L : Int32) (c : Nat) : Bool := !bt wv c && (bt fl c || !decide (rd c &&& L = 0))
def lkF (rd : Nat → Int32) (fl wv : Int32) (o : Nat → Nat) : Nat → Int32
  | 0 => 0
  | i + 1 => if lkB rd fl wv (lkF rd fl wv o i) (o i) then lkF rd fl wv o i ||| b1 (o i) else lkF rd fl wv o i
theorem lkF_t {rd : Nat → Int32} {fl wv : Int32} {o : Nat → Nat} {i : Nat} (h : lkB rd fl wv (lkF rd fl wv o i) (o i) = true) : lkF rd fl wv o (i + 1) = lkF rd fl wv o i ||| b1 (o i) := if_pos h
theorem lkF_f {rd : Nat → Int32} {fl wv : Int32} {o : Nat → Nat} {i : Nat} (h : lkB rd fl wv (lkF rd fl wv o i) (o i) = false) : lkF rd fl wv o (i + 1) = lkF rd fl wv o i := if_neg (by rw [h]; decide)
/-- the lock equation -/
def lkE (rd : Nat → Int32) (fl wv L : Int32) (c : Nat) : Prop := bt L c = (!bt wv c && (bt fl c || anyB (fun d => bt (rd c) d && bt L d) 16))
theorem and_any {x y : Int32} (hx : m16 x) : (!decide (x &&& y = 0)) = anyB (fun d => bt x d && bt y d) 16 := by
  by_cases h : x &&& y = 0
  · rw [decide_eq_true h]
    rcases hq : anyB (fun d => bt x d && bt y d) 16 with _ | _
    · rfl
    · obtain ⟨d, -, h2⟩ := anyB_true.mp hq
      have h3 := b_and x y d
      rw [h, b_0] at h3
      rw [← h3] at h2
      exact absurd h2 (by decide)
  · rw [decide_eq_false h]
    obtain ⟨i, hi, h2⟩ := mask_ne0 h
    rw [b_and] at h2
    have h16 : i < 16 := by
      rcases Nat.lt_or_ge i 16 with q | q
      · exact q
      · rw [hx i q] at h2; cases h2
    exact (anyB_true.mpr ⟨i, h16, h2⟩).symm
theorem lkF_step (rd : Nat → Int32) (fl wv : Int32) (o : Nat → Nat) (i c : Nat) (hc : c < 32) (ho : o i < 16) : bt (lkF rd fl wv o (i + 1)) c = (bt (lkF rd fl wv o i) c || (decide (c = o i) && lkB rd fl wv (lkF rd fl wv o i) (o i))) := by
  cases h : lkB rd fl wv (lkF rd fl wv o i) (o i) with
  | true => rw [lkF_t h, b_or, bt_b1 (by omega), Bool.and_true]
  | false => rw [lkF_f h, Bool.and_false, Bool.or_false]
theorem lkF_m16 (rd : Nat → Int32) (fl wv : Int32) (o : Nat → Nat) (ho : ∀ i, i < 16 → o i < 16) : ∀ n, n ≤ 16 → m16 (lkF rd fl wv o n)
  | 0, _ => m16_0
  | n + 1, hn => by
    have ih := lkF_m16 rd fl wv o ho n (by omega)
    cases h : lkB rd fl wv (lkF rd fl wv o n) (o n) with
    | true => rw [lkF_t h]; exact m16_or ih (m16_b1 (ho n (by omega)))
    | false => rw [lkF_f h]; exact ih
/-- what was locked within the first n places stays; what stands in later places isn't locked yet -/
theorem lkF_late (rd : Nat → Int32) (fl wv : Int32) (o : Nat → Nat) (ho : ∀ i, i < 16 → o i < 16) : ∀ n, n ≤ 16 → ∀ c, c < 16 → (∀ i, i < n → o i ≠ c) → bt (lkF rd fl wv o n) c = false
  | 0, _, c, _, _ => b_0 c
  | n + 1, hn, c, hc, h => by
    rw [lkF_step rd fl wv o n c (by omega) (ho n (by omega)), lkF_late rd fl wv o ho n (by omega) c hc (fun i hi => h i (by omega)), decide_eq_false (fun q => h n (by omega) q.symm)]
    rfl
theorem lkF_stay (rd : Nat → Int32) (fl wv : Int32) (o : Nat → Nat) (ho : ∀ i, i < 16 → o i < 16) (hJ : ordJ o 16) : ∀ n, n ≤ 16 → ∀ i, i < n → ∀ k, k + n ≤ 16 → bt (lkF rd fl wv o (n + k)) (o i) = bt (lkF rd fl wv o n) (o i)
  | n, _, i, hi, 0, _ => rfl
  | n, hn, i, hi, k + 1, hk => by
    show bt (lkF rd fl wv o ((n + k) + 1)) (o i) = _
    rw [lkF_step rd fl wv o (n + k) (o i) (by have := ho i (by omega); omega) (ho _ (by omega)), decide_eq_false (fun q => by have := hJ i (n + k) (by omega) (by omega) q; omega)]
    rw [Bool.false_and, Bool.or_false]
    exact lkF_stay rd fl wv o ho hJ n hn i hi k (by omega)
theorem lkF_eq {rd : Nat → Int32} {fl wv : Int32} {o : Nat → Nat} (ho : ∀ i, i < 16 → o i < 16) (hJ : ordJ o 16) (hS : ordS o) (hT : ordT rd o 16) (hm : ∀ c, c < 16 → m16 (rd c)) : ∀ c, c < 16 → lkE rd fl wv (lkF rd fl wv o 16) c := by
  intro c hc
  obtain ⟨i, hi, rfl⟩ := hS c hc
  unfold lkE
  have h1 : bt (lkF rd fl wv o 16) (o i) = bt (lkF rd fl wv o (i + 1)) (o i) := by
    have := lkF_stay rd fl wv o ho hJ (i + 1) (by omega) i (by omega) (16 - (i + 1)) (by omega)
    rw [show i + 1 + (16 - (i + 1)) = 16 by omega] at this
    exact this
  rw [h1, lkF_step rd fl wv o i (o i) (by have := ho i hi; omega) (ho i hi), lkF_late rd fl wv o ho i (by omega) (o i) (ho i hi) (fun j hj q => by have := hJ j i (by omega) hi q; omega), decide_eq_true rfl, Bool.true_and, Bool.false_or]
  unfold lkB
  rw [and_any (hm _ hc)]
  congr 2
  apply anyB_congr
  intro d hd
  cases hr : bt (rd (o i)) d with
  | false => rfl
  | true =>
    obtain ⟨j, hj, rfl⟩ := hT i hi d hd hr
    have := lkF_stay rd fl wv o ho hJ i (by omega) j hj (16 - i) (by omega)
    rw [show i + (16 - i) = 16 by omega] at this
    rw [this]
/-- one solution alone -/
theorem lkE_one {rd : Nat → Int32} {fl wv L L' : Int32} {rk : Nat → Nat} (hrk : ∀ c d, c < 16 → d < 16 → bt (rd c) d = true → rk d < rk c) (h : ∀ c, c < 16 → lkE rd fl wv L c) (h' : ∀ c, c < 16 → lkE rd fl wv L' c) : ∀ n c, c < 16 → rk c < n → bt L c = bt L' c := by
  intro n
  induction n with
  | zero => intro c _ h; omega
  | succ n ih =>
    intro c hc hn
    rw [h c hc, h' c hc]
    congr 2
    apply anyB_congr
    intro d hd
    cases hr : bt (rd c) d with
    | false => rfl
    | true =>
      have := hrk c d hc hd hr
      rw [ih d hd (by omega)]
/-- an order gives a rank -/
theorem ord_rk {rd : Nat → Int32} {o : Nat → Nat} (hJ : ordJ o 16) (hS : ordS o) (hT : ordT rd o 16) : ∃ rk : Nat → Nat, (∀ c, c < 16 → rk c < 16) ∧ ∀ c d, c < 16 → d < 16 → bt (rd c) d = true → rk d < rk c := by
  have hx : ∀ c, ∃ i, c < 16 → i < 16 ∧ o i = c := fun c => by
    by_cases h : c < 16
    · obtain ⟨i, hi⟩ := hS c h
      exact ⟨i, fun _ => hi⟩
    · exact ⟨0, fun q => absurd q h⟩
  refine ⟨fun c => Classical.choose (hx c), fun c hc => (Classical.choose_spec (hx c) hc).1, fun c d hc hd hr => ?_⟩
  obtain ⟨h1, h2⟩ := Classical.choose_spec (hx c) hc
  obtain ⟨h3, h4⟩ := Classical.choose_spec (hx d) hd
  rw [← h2] at hr
  obtain ⟨j, hj, e⟩ := hT _ h1 d hd hr
  have : j = Classical.choose (hx d) := hJ _ _ (by omega) h3 (e.trans h4.symm)
  show Classical.choose (hx d) < Classical.choose (hx c)
  omega
/-! what the class's sheet keeps -/
def flen (σ : gSig) (c : Nat) : Nat := (σ 1 c 3).toNatClampNeg
/-- a cell's formula stands as it should -/
def frK (σ : gSig) (c : Nat) : Prop := σ 1 c 3 = nI (flen σ c) ∧ 1 ≤ flen σ c ∧ flen σ c ≤ 12 ∧ okP (σ 2 c) (σ 3 c) (flen σ c) ∧ dep (σ 2 c) (flen σ c) = 1
def rdK (σ : gSig) (c : Nat) : Prop := (bt (σ 5 0 8) c = true → σ 7 3 c = 0) ∧ (bt (σ 5 0 8) c = false → frK σ c ∧ σ 7 3 c = rsM (σ 2 c) (σ 3 c) (flen σ c))
def shK (σ : gSig) (o : Nat → Nat) : Prop := ordI (σ 7 5) o 16 ∧ ordT (σ 7 3) o 16 ∧ ordJ o 16 ∧ ordS o ∧ (∀ c, c < 16 → rsE (σ 7 3) (σ 7 4) c) ∧ (∀ c, c < 16 → rdK σ c) ∧ m16 (σ 5 0 8)
/-- the values of all cells by a row of inputs -/
def vEq (σ : gSig) (row : Nat → Int32) (V : Nat → Option Int32) : Prop := ∀ c, c < 16 → V c = if bt (σ 5 0 8) c then some (row c) else evF V (σ 2 c) (σ 3 c) (flen σ c)
theorem rsM_in {kd nm : Nat → Int32} {n i d : Nat} (h : ∀ i, i < n → kd i = 13 → isC (nm i)) (hi : i < n) (hk : kd i = 13) (hn : nm i = nI d) (hd : d < 16) : bt (rsM kd nm n) d = true := by
  rw [rsM_bt kd nm n h]
  exact anyB_true.mpr ⟨i, hi, by simp [hk, hn, hd]⟩
theorem rdK_m16 {σ : gSig} {c : Nat} (h : rdK σ c) : m16 (σ 7 3 c) := by
  cases hb : bt (σ 5 0 8) c with
  | true => rw [h.1 hb]; exact m16_0
  | false =>
    obtain ⟨h1, h2⟩ := h.2 hb
    rw [h2]
    exact rsM_m16 _ _ _ (fun i hi => (h1.2.2.2.1 i hi).2.2)
end
section
/-! ===== the sheet: locks, and a cell reckoned: printed by g17.py ===== -/
set_option maxRecDepth 100000 in
set_option maxHeartbeats 4000000 in
theorem c_sLocked {l : Launch} {D : va_G} {ad : Nat → Nat → Nat} {aC : Nat → ClassId} (σ : gSig) (τ : gTau) (fl wv : Int32) (o : Nat → Nat) (hO : ordI (σ 7 5) o 16) : CZ l D ad aC yX3_lockedCells cX3_lockedCells 6 (some .int) 1 [.ref (ad 5 0), .int fl, .int wv] σ τ (gEq (some (.int (lkF (σ 7 3) fl wv o 16))) σ τ) := by
  refine CZ.of (own := RX3) (by decide +kernel) rfl (Nat.le_of_ble_eq_true rfl) (fun S C => ?_)
  refine r_iconst (v := 0) C dX3_lockedCells_0 rfl ?_
  refine r_istore_n C dX3_lockedCells_1 rfl (by decide) rfl ?_
  refine r_iconst (v := 0) C dX3_lockedCells_2 rfl ?_
  refine r_istore C dX3_lockedCells_3 (by decide) rfl ?_
  have loop : ∀ m i, i ≤ 16 → 16 - i < m → S 0 σ τ 5 [some (.ref (ad 5 0)), some (.int fl), some (.int wv), some (.int (lkF (σ 7 3) fl wv o i)), some (.int (nI i)), none] [] := by
    intro m
    induction m with
    | zero => intro i _ hm; omega
    | succ m ihloop =>
      intro i hiloop hmloop
      refine r_iload C dX3_lockedCells_5 rfl ?_
      refine r_bipush (v := 16) C dX3_lockedCells_7 rfl ?_
      refine r_icmpge (tgt := 66) C dX3_lockedCells_9 (by decide) (fun c9 => ?_) (fun c9 => ?_)
      · have n9 := Int32.not_lt.mpr c9
        have hloope : i = 16 := by
          have := (nI_leI (a := 16) (by omega) (by omega)).mp c9
          omega
        subst hloope
        refine r_iload_n C dX3_lockedCells_66 rfl rfl ?_
        exact r_iret C dX3_lockedCells_67 rfl (by decide) ⟨rfl, rfl, rfl⟩
      · have n9 := Int32.not_le.mp c9
        have hloopl : i < 16 := (nI_ltI (b := 16) (by omega) (by omega)).mp n9
        refine r_aload_n C dX3_lockedCells_12 rfl rfl ?_
        refine r_get (f := 6) C dX3_lockedCells_13 ⟨by decide, by decide⟩ rfl rfl kU3 (by decide) kf_X3_33 rfl rfl ?_
        refine r_iload C dX3_lockedCells_16 rfl ?_
        obtain ⟨ho1, ho2⟩ := hO i hloopl
        refine r_ialdv (v := nI (o i)) C dX3_lockedCells_18 ⟨by decide, by decide⟩ rfl (vp_in_nI hloopl (by decide)) (by rw [nI_clamp (by omega), ho1]) ?_
        refine r_istore C dX3_lockedCells_19 (by decide) rfl ?_
        refine r_iload_n C dX3_lockedCells_21 rfl rfl ?_
        refine r_iconst (v := (-1)) C dX3_lockedCells_22 rfl ?_
        refine r_ixor C dX3_lockedCells_23 ?_
        refine r_iload C dX3_lockedCells_24 rfl ?_
        refine r_callSN C dX3_lockedCells_26 (c_has σ τ (wv ^^^ (-1)) (nI (o i))) rfl kB_X5_has rfl kS_X5_has kl_X3_46 (by decide) (Nat.le_of_ble_eq_true rfl) (by decide) ?_
        rintro r9 σ' τ' ⟨rfl, rfl, rfl⟩
        rw [hasB_bt ho2, bt_not wv (by omega)]
        refine r_ifeq (tgt := 60) C dX3_lockedCells_29 (by decide) (fun c29 => ?_) (fun c29 => ?_)
        · have h29 := b2i_0.mp c29
          have hlk : lkB (σ 7 3) fl wv (lkF (σ 7 3) fl wv o i) (o i) = false := by simp only [lkB, h29, Bool.false_and]
          refine r_iinc C dX3_lockedCells_60 rfl rfl (by decide) rfl ?_
          refine r_goto (tgt := 5) C dX3_lockedCells_63 (by decide) ?_
          refine r_drop C [5] ?_
          exact r_swk (ihloop (i + 1) (by omega) (by omega)) rfl rfl (by first | (rw [lkF_t hlk, ← nI_p1]; rfl) | (rw [lkF_f hlk, ← nI_p1]; rfl)) rfl
        · have h29 := b2i_n.mp c29
          refine r_iload_n C dX3_lockedCells_32 rfl rfl ?_
          refine r_iload C dX3_lockedCells_33 rfl ?_
          refine r_callSN C dX3_lockedCells_35 (c_has σ τ fl (nI (o i))) rfl kB_X5_has rfl kS_X5_has kl_X3_46 (by decide) (Nat.le_of_ble_eq_true rfl) (by decide) ?_
          rintro r9 σ' τ' ⟨rfl, rfl, rfl⟩
          rw [hasB_bt ho2]
          refine r_ifne (tgt := 53) C dX3_lockedCells_38 (by decide) (fun c38 => ?_) (fun c38 => ?_)
          · have h38 := b2i_n.mp c38
            have hlk : lkB (σ 7 3) fl wv (lkF (σ 7 3) fl wv o i) (o i) = true := by simp only [lkB, h29, h38, Bool.true_and, Bool.true_or]
            refine r_iload_n C dX3_lockedCells_53 rfl rfl ?_
            refine r_iconst (v := 1) C dX3_lockedCells_54 rfl ?_
            refine r_iload C dX3_lockedCells_55 rfl ?_
            refine r_ishl C dX3_lockedCells_57 ?_
            refine r_ior C dX3_lockedCells_58 ?_
            refine r_istore_n C dX3_lockedCells_59 rfl (by decide) rfl ?_
            refine r_iinc C dX3_lockedCells_60 rfl rfl (by decide) rfl ?_
            refine r_goto (tgt := 5) C dX3_lockedCells_63 (by decide) ?_
            refine r_drop C [5] ?_
            exact r_swk (ihloop (i + 1) (by omega) (by omega)) rfl rfl (by first | (rw [lkF_t hlk, ← nI_p1]; rfl) | (rw [lkF_f hlk, ← nI_p1]; rfl)) rfl
          · have h38 := b2i_0.mp c38
            refine r_aload_n C dX3_lockedCells_41 rfl rfl ?_
            refine r_get (f := 4) C dX3_lockedCells_42 ⟨by decide, by decide⟩ rfl rfl kU3 (by decide) kf_X3_27 rfl rfl ?_
            refine r_iload C dX3_lockedCells_45 rfl ?_
            refine r_ialdv (v := σ 7 3 (o i)) C dX3_lockedCells_47 ⟨by decide, by decide⟩ rfl (vp_in_nI ho2 (by decide)) (by rw [nI_clamp (by omega)]) ?_
            refine r_iload_n C dX3_lockedCells_48 rfl rfl ?_
            refine r_iand C dX3_lockedCells_49 ?_
            refine r_ifeq (tgt := 60) C dX3_lockedCells_50 (by decide) (fun c50 => ?_) (fun c50 => ?_)
            · have hlk : lkB (σ 7 3) fl wv (lkF (σ 7 3) fl wv o i) (o i) = false := by simp only [lkB, h29, h38, Bool.true_and, Bool.false_or, c50, decide_true, Bool.not_true]
              refine r_iinc C dX3_lockedCells_60 rfl rfl (by decide) rfl ?_
              refine r_goto (tgt := 5) C dX3_lockedCells_63 (by decide) ?_
              refine r_drop C [5] ?_
              exact r_swk (ihloop (i + 1) (by omega) (by omega)) rfl rfl (by first | (rw [lkF_t hlk, ← nI_p1]; rfl) | (rw [lkF_f hlk, ← nI_p1]; rfl)) rfl
            · have hlk : lkB (σ 7 3) fl wv (lkF (σ 7 3) fl wv o i) (o i) = true := by simp only [lkB, h29, h38, Bool.true_and, Bool.false_or, decide_eq_false c50, Bool.not_false]
              refine r_iload_n C dX3_lockedCells_53 rfl rfl ?_
              refine r_iconst (v := 1) C dX3_lockedCells_54 rfl ?_
              refine r_iload C dX3_lockedCells_55 rfl ?_
              refine r_ishl C dX3_lockedCells_57 ?_
              refine r_ior C dX3_lockedCells_58 ?_
              refine r_istore_n C dX3_lockedCells_59 rfl (by decide) rfl ?_
              refine r_iinc C dX3_lockedCells_60 rfl rfl (by decide) rfl ?_
              refine r_goto (tgt := 5) C dX3_lockedCells_63 (by decide) ?_
              refine r_drop C [5] ?_
              exact r_swk (ihloop (i + 1) (by omega) (by omega)) rfl rfl (by first | (rw [lkF_t hlk, ← nI_p1]; rfl) | (rw [lkF_f hlk, ← nI_p1]; rfl)) rfl
  exact loop (16 + 1) 0 (by omega) (by omega)
set_option maxRecDepth 100000 in
set_option maxHeartbeats 4000000 in
theorem c_sReckon {l : Launch} {D : va_G} {ad : Nat → Nat → Nat} {aC : Nat → ClassId} (σ : gSig) (τ : gTau) (cell fr cr : Nat) (o : Nat → Nat) (V : Nat → Option Int32) (hc : cell < 16) (hK : shK σ o) (hV : vEq σ (σ fr cr) V) (hrok : gok fr cr) (hr4 : ¬ fr = 4) (hrc : ∀ (σ : gSig) (τ : gTau), cel ad aC σ τ fr cr = .inl (aC 0, 16, .inl (σ fr cr))) : CZ l D ad aC yX3_reckon cX3_reckon 6 (some .long) 4 [.ref (ad 5 0), .int (nI cell), .ref (ad fr cr)] σ τ (fun r σ' τ' => ∃ s4 t8, some (.long (oL (V cell))) = r ∧ upF σ 4 s4 = σ' ∧ upT τ 8 t8 = τ') := by
  refine CZ.of (own := RX3) (by decide +kernel) rfl (Nat.le_of_ble_eq_true rfl) (fun S C => ?_)
  obtain ⟨hO, hT, hJ, hSu, hR, hF, hI16⟩ := hK
  refine r_iload_n C dX3_reckon_0 rfl rfl ?_
  refine r_iflt (tgt := 10) C dX3_reckon_1 (by decide) (fun c1 => ?_) (fun c1 => ?_)
  · exact absurd c1 (nI_pos (by omega))
  · refine r_iload_n C dX3_reckon_4 rfl rfl ?_
    refine r_bipush (v := 16) C dX3_reckon_5 rfl ?_
    refine r_icmplt (tgt := 14) C dX3_reckon_7 (by decide) (fun c7 => ?_) (fun c7 => ?_)
    · have n7 := Int32.not_le.mpr c7
      refine r_aload_n C dX3_reckon_14 rfl rfl ?_
      refine r_get (f := 5) C dX3_reckon_15 ⟨by decide, by decide⟩ rfl rfl kU3 (by decide) kf_X3_30 rfl rfl ?_
      refine r_iload_n C dX3_reckon_18 rfl rfl ?_
      refine r_ialdv (v := σ 7 4 cell) C dX3_reckon_19 ⟨by decide, by decide⟩ rfl (vp_in_nI hc (by decide)) (by rw [nI_clamp (by omega)]) ?_
      refine r_iconst (v := 1) C dX3_reckon_20 rfl ?_
      refine r_iload_n C dX3_reckon_21 rfl rfl ?_
      refine r_ishl C dX3_reckon_22 ?_
      refine r_ior C dX3_reckon_23 ?_
      refine r_istore_n C dX3_reckon_24 rfl (by decide) rfl ?_
      obtain ⟨need, hneed⟩ : ∃ z, z = σ 7 4 cell ||| b1 cell := ⟨_, rfl⟩
      have hncl : ∀ e d, e < 16 → d < 16 → bt need e = true → bt (σ 7 3 e) d = true → bt need d = true := fun e d he hd h1 h2 => by
        rw [hneed] at h1 ⊢
        exact rs_closed hT hSu hR hc he h1 h2
      have loop : ∀ m i, i ≤ 16 → 16 - i < m → ∀ (s4 : Nat → Nat → Int32) (t8 : Nat → Int64), (∀ j, j < i → bt need (o j) = true → t8 (o j) = oL (V (o j))) → S 0 (upF σ 4 s4) (upT τ 8 t8) 28 [some (.ref (ad 5 0)), some (.int (nI cell)), some (.ref (ad fr cr)), some (.int need), some (.int (nI i)), none] [] := by
        intro m
        induction m with
        | zero => intro i _ hm; omega
        | succ m ih =>
          intro i hi hm s4 t8 hdone
          refine r_iload C dX3_reckon_28 rfl ?_
          refine r_bipush (v := 16) C dX3_reckon_30 rfl ?_
          refine r_icmpge (tgt := 97) C dX3_reckon_32 (by decide) (fun c32 => ?_) (fun c32 => ?_)
          · have n32 := Int32.not_lt.mpr c32
            have hie : i = 16 := by
              have := (nI_leI (a := 16) (by omega) (by omega)).mp c32
              omega
            subst hie
            obtain ⟨ic, hic, hoc⟩ := hSu cell hc
            have hval : t8 cell = oL (V cell) := by
              rw [← hoc]
              refine hdone ic hic ?_
              rw [hoc, hneed, b_or, bt_b1 (by omega)]
              simp
            refine r_aload_n C dX3_reckon_97 rfl rfl ?_
            refine r_get (f := 7) C dX3_reckon_98 ⟨by decide, by decide⟩ rfl rfl kU3 (by decide) kf_X3_36 rfl rfl ?_
            refine r_iload_n C dX3_reckon_101 rfl rfl ?_
            refine r_laldv (v := oL (V cell)) C dX3_reckon_102 ⟨by decide, by decide⟩ rfl (vp_in_nI hc (by decide)) (by rw [nI_clamp (by omega)]; exact hval) ?_
            exact r_lret C dX3_reckon_103 rfl (by decide) ⟨s4, t8, rfl, rfl, rfl⟩
          · have n32 := Int32.not_le.mp c32
            have hil : i < 16 := (nI_ltI (b := 16) (by omega) (by omega)).mp n32
            obtain ⟨ho1, ho2⟩ := hO i hil
            refine r_aload_n C dX3_reckon_35 rfl rfl ?_
            refine r_get (f := 6) C dX3_reckon_36 ⟨by decide, by decide⟩ rfl rfl kU3 (by decide) kf_X3_33 rfl rfl ?_
            refine r_iload C dX3_reckon_39 rfl ?_
            refine r_ialdv (v := nI (o i)) C dX3_reckon_41 ⟨by decide, by decide⟩ rfl (vp_in_nI hil (by decide)) (by rw [nI_clamp (by omega)]; exact ho1) ?_
            refine r_istore C dX3_reckon_42 (by decide) rfl ?_
            refine r_iload_n C dX3_reckon_44 rfl rfl ?_
            refine r_iload C dX3_reckon_45 rfl ?_
            refine r_callSN C dX3_reckon_47 (c_has (upF σ 4 s4) (upT τ 8 t8) need (nI (o i))) rfl kB_X5_has rfl kS_X5_has kl_X3_46 (by decide) (Nat.le_of_ble_eq_true rfl) (by decide) ?_
            rintro r9 σ' τ' ⟨rfl, rfl, rfl⟩
            rw [hasB_bt ho2]
            refine r_ifeq (tgt := 91) C dX3_reckon_50 (by decide) (fun c50 => ?_) (fun c50 => ?_)
            · have h50 := b2i_0.mp c50
              have hnew : ∀ j, j < i + 1 → bt need (o j) = true → t8 (o j) = oL (V (o j)) := fun j hj hn => by
                by_cases e : j = i
                · subst e; rw [h50] at hn; cases hn
                · exact hdone j (by omega) hn
              refine r_iinc C dX3_reckon_91 rfl rfl (by decide) rfl ?_
              refine r_goto (tgt := 28) C dX3_reckon_94 (by decide) ?_
              refine r_drop C [5] ?_
              exact r_swk (ih (i + 1) (by omega) (by omega) _ _ hnew) rfl rfl (by rw [← nI_p1]; rfl) rfl
            · have h50 := b2i_n.mp c50
              have j90 : ∀ (v : Int64) (s4 : Nat → Nat → Int32), v = oL (V (o i)) → S 0 (upF σ 4 s4) (upT τ 8 t8) 90 [some (.ref (ad 5 0)), some (.int (nI cell)), some (.ref (ad fr cr)), some (.int need), some (.int (nI i)), some (.int (nI (o i)))] [.long v, .int (nI (o i)), .ref (ad 8 0)] := by
                intro v s4 hv
                refine r_lastv C dX3_reckon_90 ⟨by decide, by decide⟩ rfl (fun _ => rfl) (vp_in_nI ho2 (by decide)) (nI_clamp (by omega)) ?_
                rw [up2_upT]
                have hnew : ∀ j, j < i + 1 → bt need (o j) = true → (vp_updL t8 (o i) v) (o j) = oL (V (o j)) := fun j hj hn => by
                  unfold vp_updL
                  by_cases e : o j = o i
                  · rw [if_pos e, e, hv]
                  · rw [if_neg e]
                    refine hdone j ?_ hn
                    have : j ≠ i := fun q => e (by rw [q])
                    omega
                refine r_iinc C dX3_reckon_91 rfl rfl (by decide) rfl ?_
                refine r_goto (tgt := 28) C dX3_reckon_94 (by decide) ?_
                refine r_drop C [5] ?_
                exact r_swk (ih (i + 1) (by omega) (by omega) _ _ hnew) rfl rfl (by rw [← nI_p1]; rfl) rfl
              refine r_aload_n C dX3_reckon_53 rfl rfl ?_
              refine r_get (f := 7) C dX3_reckon_54 ⟨by decide, by decide⟩ rfl rfl kU3 (by decide) kf_X3_36 rfl rfl ?_
              refine r_iload C dX3_reckon_57 rfl ?_
              refine r_aload_n C dX3_reckon_59 rfl rfl ?_
              refine r_iload C dX3_reckon_60 rfl ?_
              refine r_callV C dX3_reckon_62 (c_isInput (upF σ 4 s4) (upT τ 8 t8) (nI (o i))) rfl ⟨by decide, by decide⟩ rfl rfl kB_X3_isInput rfl kI_X3_isInput kV_X3_isInput kl_X3_67 (by decide) (Nat.le_of_ble_eq_true rfl) (by decide) ?_
              rintro r9 σ' τ' ⟨rfl, rfl, rfl⟩
              rw [show hasB ((upF σ 4 s4) 5 0 8) (nI (o i)) = bt (σ 5 0 8) (o i) from hasB_bt ho2 _]
              refine r_ifeq (tgt := 76) C dX3_reckon_65 (by decide) (fun c65 => ?_) (fun c65 => ?_)
              · have h65 := b2i_0.mp c65
                refine r_aload_n C dX3_reckon_76 rfl rfl ?_
                refine r_get (f := 0) C dX3_reckon_77 ⟨by decide, by decide⟩ rfl rfl kU3 (by decide) kf_X3_11 rfl rfl ?_
                refine r_iload C dX3_reckon_80 rfl ?_
                refine r_aaldv (t0 := 3) C dX3_reckon_82 ⟨by decide, by decide⟩ rfl rfl (vp_in_nI ho2 (by decide)) (nI_clamp (by omega)) ?_
                refine r_aload_n C dX3_reckon_83 rfl rfl ?_
                refine r_get (f := 7) C dX3_reckon_84 ⟨by decide, by decide⟩ rfl rfl kU3 (by decide) kf_X3_36 rfl rfl ?_
                obtain ⟨hfr, hfrd⟩ := (hF _ ho2).2 h65
                obtain ⟨f1, f2, f3, f4, f5⟩ := hfr
                have hvs : ∀ q, q < flen σ (o i) → σ 2 (o i) q = 13 → t8 (σ 3 (o i) q).toNatClampNeg = oL (V (σ 3 (o i) q).toNatClampNeg) := fun q hq hk => by
                  obtain ⟨d, hd, e⟩ := isC_nI ((f4 q hq).2.2 hk)
                  rw [e, nI_clamp (by omega)]
                  have hrd : bt (σ 7 3 (o i)) d = true := by
                    rw [hfrd]
                    exact rsM_in (fun z hz => (f4 z hz).2.2) hq hk e hd
                  obtain ⟨j, hj, e2⟩ := hT i hil d hd hrd
                  rw [← e2]
                  refine hdone j hj ?_
                  rw [e2]
                  exact hncl (o i) d ho2 hd h50 hrd
                refine r_callV C dX3_reckon_87 (c_reckon (upF σ 4 s4) (upT τ 8 t8) (o i) (flen σ (o i)) V (by omega) f1 f3 f4 f5 hvs) rfl ⟨by decide, Nat.lt_of_lt_of_le ho2 (by decide)⟩ rfl rfl kB_X0_reckon rfl kI_X0_reckon kV_X0_reckon kl_X3_71 (by decide) (Nat.le_of_ble_eq_true rfl) (by decide) ?_
                rintro r9 σ' τ' ⟨g4, rfl, rfl, rfl⟩
                rw [upR_upF]
                exact j90 _ _ (by rw [hV _ ho2, if_neg (by rw [h65]; decide)]; rfl)
              · have h65 := b2i_n.mp c65
                refine r_aload_n C dX3_reckon_68 rfl rfl ?_
                refine r_iload C dX3_reckon_69 rfl ?_
                refine r_ialdv (v := σ fr cr (o i)) C dX3_reckon_71 hrok (hrc _ _) (vp_in_nI ho2 (by decide)) (by rw [nI_clamp (by omega)]; show (if fr = 4 then _ else σ fr cr) (o i) = _; rw [if_neg hr4]) ?_
                refine r_i2l C dX3_reckon_72 ?_
                refine r_goto (tgt := 90) C dX3_reckon_73 (by decide) ?_
                exact j90 _ _ (by rw [hV _ ho2, if_pos h65]; rfl)
      refine r_iconst (v := 0) C dX3_reckon_25 rfl ?_
      refine r_istore C dX3_reckon_26 (by decide) rfl ?_
      refine r_swk (loop 17 0 (by omega) (by omega) (σ 4) (τ 8) (fun j hj => absurd hj (Nat.not_lt_zero j))) (upF_id σ 4) (upT_id τ 8) ?_ rfl
      rw [hneed]
      rfl
    · have n7 := Int32.not_lt.mp c7
      exact absurd (isC_of hc).2 c7
end
section
/-! ===== laying the order anew ===== -/
def arK (rd : Nat → Int32) (k : Nat) (P : Int32) (ord ro : Nat → Int32) (o : Nat → Nat) : Prop :=
  k ≤ 16 ∧ m16 P ∧ (∀ c, c < 16 → (bt P c = true ↔ ∃ i, i < k ∧ o i = c)) ∧ ordI ord o k ∧ ordJ o k ∧ ordT rd o k ∧ ∀ c, c < 16 → bt P c = true → rsE rd ro c
theorem sub_mask {x P : Int32} (h : x &&& (P ^^^ (-1)) = 0) {d : Nat} (hd : d < 16) (hx : bt x d = true) : bt P d = true := by
  have h1 := b_and x (P ^^^ (-1)) d
  rw [h, b_0, hx, Bool.true_and, bt_not P (by omega)] at h1
  cases hp : bt P d with
  | true => rfl
  | false => rw [hp] at h1; cases h1
theorem nsub_mask {x P : Int32} (hx : m16 x) (h : ¬ x &&& (P ^^^ (-1)) = 0) : ∃ d, d < 16 ∧ bt x d = true ∧ bt P d = false := by
  obtain ⟨i, hi, h2⟩ := mask_ne0 h
  rw [b_and, Bool.and_eq_true, bt_not P hi] at h2
  refine ⟨i, ?_, h2.1, by simpa using h2.2⟩
  rcases Nat.lt_or_ge i 16 with q | q
  · exact q
  · rw [hx i q] at h2; exact absurd h2.1 (by decide)
theorem arK_push {rd : Nat → Int32} {k : Nat} {P : Int32} {ord ro : Nat → Int32} {o : Nat → Nat} (hA : arK rd k P ord ro o) (hk : k < 16) {c : Nat} (hc : c < 16) (h1 : bt P c = false) (h2 : rd c &&& (P ^^^ (-1)) = 0) (hm : m16 (rd c)) :
    arK rd (k + 1) (P ||| b1 c) (upd ord k (nI c)) (upd ro c (rotF ro (rd c) 16)) (fun i => if i = k then c else o i) := by
  obtain ⟨a1, a2, a3, a4, a5, a6, a7⟩ := hA
  have hPo : ∀ i, i < k → bt P (o i) = true := fun i hi => (a3 _ (a4 i hi).2).mpr ⟨i, hi, rfl⟩
  refine ⟨by omega, m16_or a2 (m16_b1 hc), fun d hd => ?_, fun i hi => ?_, fun i j hi hj e => ?_, fun i hi d hd hr => ?_, fun d hd hp => ?_⟩
  · rw [b_or, Bool.or_eq_true, a3 d hd, bt_b1 (by omega)]
    constructor
    · rintro (⟨i, hi, e⟩ | h)
      · exact ⟨i, by omega, by dsimp only; rw [if_neg (by omega)]; exact e⟩
      · exact ⟨k, by omega, by dsimp only; rw [if_pos rfl]; exact (of_decide_eq_true h).symm⟩
    · rintro ⟨i, hi, e⟩
      dsimp only at e
      by_cases q : i = k
      · rw [if_pos q] at e
        exact Or.inr (decide_eq_true e.symm)
      · rw [if_neg q] at e
        exact Or.inl ⟨i, by omega, e⟩
  · unfold upd
    dsimp only
    by_cases q : i = k
    · rw [if_pos q, if_pos q]; exact ⟨rfl, hc⟩
    · rw [if_neg q, if_neg q]; exact a4 i (by omega)
  · have hne : ∀ z, z < k → o z ≠ c := fun z hz q => by
      have := hPo z hz
      rw [q, h1] at this
      cases this
    dsimp only at e
    by_cases q : i = k
    · by_cases q2 : j = k
      · omega
      · rw [if_pos q, if_neg q2] at e
        exact absurd e.symm (hne j (by omega))
    · by_cases q2 : j = k
      · rw [if_neg q, if_pos q2] at e
        exact absurd e (hne i (by omega))
      · rw [if_neg q, if_neg q2] at e
        exact a5 i j (by omega) (by omega) e
  · dsimp only at hr
    by_cases q : i = k
    · rw [if_pos q] at hr
      obtain ⟨j, hj, e⟩ := (a3 d hd).mp (sub_mask h2 hd hr)
      exact ⟨j, by omega, by dsimp only; rw [if_neg (by omega)]; exact e⟩
    · rw [if_neg q] at hr
      obtain ⟨j, hj, e⟩ := a6 i (by omega) d hd hr
      exact ⟨j, hj, by dsimp only; rw [if_neg (by omega)]; exact e⟩
  · have hro : ∀ e, bt P e = true → (upd ro c (rotF ro (rd c) 16)) e = ro e := fun e he => by
      unfold upd
      rw [if_neg]
      intro q
      rw [q, h1] at he
      cases he
    by_cases q : d = c
    · subst q
      have hself : (upd ro d (rotF ro (rd d) 16)) d = rotF ro (rd d) 16 := by unfold upd; rw [if_pos rfl]
      refine ⟨?_, fun x => ?_⟩
      · rw [hself]
        intro x hx
        rw [rotF_bt, hm x hx, Bool.false_or]
        rcases hq : anyB _ 16 with _ | _
        · rfl
        · obtain ⟨e, he, h3⟩ := anyB_true.mp hq
          rw [Bool.and_eq_true] at h3
          rw [(a7 e he (sub_mask h2 he h3.1)).1 x hx] at h3
          exact absurd h3.2 (by decide)
      · rw [hself, rotF_bt]
        congr 1
        apply anyB_congr
        intro e he
        cases hr : bt (rd d) e with
        | false => rfl
        | true => rw [hro e (sub_mask h2 he hr)]
    · have hpd : bt P d = true := by
        rw [b_or, bt_b1 (by omega), decide_eq_false q, Bool.or_false] at hp
        exact hp
      obtain ⟨g1, g2⟩ := a7 d hd hpd
      refine ⟨by rw [hro d hpd]; exact g1, fun x => ?_⟩
      rw [hro d hpd, g2 x]
      congr 1
      apply anyB_congr
      intro e he
      cases hr : bt (rd d) e with
      | false => rfl
      | true =>
        obtain ⟨i, hi, rfl⟩ := (a3 d hd).mp hpd
        obtain ⟨j, hj, rfl⟩ := a6 i hi e he hr
        rw [hro _ (hPo j (by omega))]
/-- while not all are laid, one can be -/
theorem ar_next {rd : Nat → Int32} {P : Int32} {rk : Nat → Nat} (hm : ∀ c, c < 16 → m16 (rd c)) (hrk : ∀ c d, c < 16 → d < 16 → bt (rd c) d = true → rk d < rk c) : ∀ n c, c < 16 → rk c < n → bt P c = false → ∃ c, c < 16 ∧ bt P c = false ∧ rd c &&& (P ^^^ (-1)) = 0 := by
  intro n
  induction n with
  | zero => intro c _ h; omega
  | succ n ih =>
    intro c hc hn hp
    by_cases h : rd c &&& (P ^^^ (-1)) = 0
    · exact ⟨c, hc, hp, h⟩
    · obtain ⟨d, hd, h1, h2⟩ := nsub_mask (hm c hc) h
      exact ih d hd (by have := hrk c d hc hd h1; omega) h2
theorem arK_open {rd : Nat → Int32} {k : Nat} {P : Int32} {ord ro : Nat → Int32} {o : Nat → Nat} (hA : arK rd k P ord ro o) (hk : k < 16) : ∃ c, c < 16 ∧ bt P c = false := by
  rcases Classical.em (∃ c, c < 16 ∧ bt P c = false) with q | q
  · exact q
  · exfalso
    have hall : ∀ c, c < 16 → ∃ i, i < k ∧ o i = c := fun c hc => (hA.2.2.1 c hc).mp (by
      cases hb : bt P c with
      | true => rfl
      | false => exact absurd ⟨c, hc, hb⟩ q)
    have hx : ∀ c, ∃ i, c < 16 → i < k ∧ o i = c := fun c => by
      by_cases h : c < 16
      · obtain ⟨i, hi⟩ := hall c h
        exact ⟨i, fun _ => hi⟩
      · exact ⟨0, fun z => absurd z h⟩
    have := fb_holes k 16 (fun c => Classical.choose (hx c)) (fun c hc => (Classical.choose_spec (hx c) hc).1) (fun a b hab hb e => by
      have e1 := (Classical.choose_spec (hx a) (by omega)).2
      have e2 := (Classical.choose_spec (hx b) hb).2
      have e3 : Classical.choose (hx a) = Classical.choose (hx b) := e
      rw [e3, e2] at e1
      omega)
    omega
theorem arK_end {rd : Nat → Int32} {P : Int32} {ord ro : Nat → Int32} {o : Nat → Nat} (hA : arK rd 16 P ord ro o) : ordI ord o 16 ∧ ordT rd o 16 ∧ ordJ o 16 ∧ ordS o ∧ ∀ c, c < 16 → rsE rd ro c := by
  obtain ⟨a1, a2, a3, a4, a5, a6, a7⟩ := hA
  have hS : ordS o := fun c hc => by
    obtain ⟨i, hi, e⟩ := fb_onto (n := 16) (f := o) (fun i hi => (a4 i hi).2) (fun i j hij hj e => by have := a5 i j (by omega) hj e; omega) hc
    exact ⟨i, hi, e⟩
  exact ⟨a4, a6, a5, hS, fun c hc => a7 c hc ((a3 c hc).mpr (hS c hc))⟩
theorem arK_0 (rd ord ro : Nat → Int32) (o : Nat → Nat) : arK rd 0 0 ord ro o := by
  refine ⟨by omega, m16_0, fun c hc => ⟨fun h => ?_, fun ⟨i, hi, _⟩ => absurd hi (Nat.not_lt_zero i)⟩, fun i hi => absurd hi (Nat.not_lt_zero i), fun i j hi => absurd hi (Nat.not_lt_zero i), fun i hi => absurd hi (Nat.not_lt_zero i), fun c hc h => ?_⟩
  · rw [b_0] at h; cases h
  · rw [b_0] at h; cases h
theorem up3_swap (σ : gSig) (f a b i : Nat) (x y : Nat → Int32) (v : Int32) (h : a ≠ b) : up3 (upR (upR σ f a x) f b y) f a i v = upR (upR σ f a (upd x i v)) f b y := by
  funext f' c' i'
  unfold up3 upR upd
  by_cases h1 : f' = f
  · by_cases h2 : c' = a
    · subst h2
      by_cases h3 : i' = i <;> simp [h1, h3, h]
    · simp [h1, h2]
  · simp [h1]
end
section
/-! ===== the sheet: arrange, makeInput, makeFormula: printed by g19.py ===== -/
def arQ (σ1 : gSig) (τ : gTau) : Option Value → gSig → gTau → Prop := fun r σ' τ' => ∃ (ord ro : Nat → Int32) (o : Nat → Nat), none = r ∧ upR (upR σ1 7 5 ord) 7 4 ro = σ' ∧ τ = τ' ∧ ordI ord o 16 ∧ ordT (σ1 7 3) o 16 ∧ ordJ o 16 ∧ ordS o ∧ ∀ c, c < 16 → rsE (σ1 7 3) ro c
set_option maxRecDepth 100000 in
set_option maxHeartbeats 4000000 in
theorem c_arrange {l : Launch} {D : va_G} {ad : Nat → Nat → Nat} {aC : Nat → ClassId} (σ : gSig) (τ : gTau) (rk : Nat → Nat) (hm : ∀ c, c < 16 → m16 (σ 7 3 c)) (hrk : ∀ c d, c < 16 → d < 16 → bt (σ 7 3 c) d = true → rk d < rk c) : CZ l D ad aC yX3_arrange cX3_arrange 5 none 2 [.ref (ad 5 0)] σ τ (arQ σ τ) := by
  refine CZ.of (own := RX3) (by decide +kernel) rfl (Nat.le_of_ble_eq_true rfl) (fun S C => ?_)
  refine r_iconst (v := 0) C dX3_arrange_0 rfl ?_
  refine r_istore_n C dX3_arrange_1 rfl (by decide) rfl ?_
  refine r_iconst (v := 0) C dX3_arrange_2 rfl ?_
  refine r_istore_n C dX3_arrange_3 rfl (by decide) rfl ?_
  refine r_iconst (v := 0) C dX3_arrange_4 rfl ?_
  refine r_istore_n C dX3_arrange_5 rfl (by decide) rfl ?_
  have lp1 : ∀ m r, r ≤ 16 → 16 - r < m → ∀ (k : Nat) (P : Int32) (ord ro : Nat → Int32) (o : Nat → Nat), arK (σ 7 3) k P ord ro o → r ≤ k → S 0 (upR (upR σ 7 5 ord) 7 4 ro) τ 6 [some (.ref (ad 5 0)), some (.int P), some (.int (nI k)), some (.int (nI r)), none] [] := by
    intro m
    induction m with
    | zero => intro r _ hm; omega
    | succ m ih1 =>
      intro r hr hmr k P ord ro o hA hrk1
      have hk16 := hA.1
      refine r_iload_n C dX3_arrange_6 rfl rfl ?_
      refine r_bipush (v := 16) C dX3_arrange_7 rfl ?_
      refine r_icmpge (tgt := 105) C dX3_arrange_9 (by decide) (fun c9 => ?_) (fun c9 => ?_)
      · have n9 := Int32.not_lt.mpr c9
        have hr16 : r = 16 := by
          have := (nI_leI (a := 16) (by omega) (by omega)).mp c9
          omega
        have hk : k = 16 := by omega
        subst hk
        exact r_ret C dX3_arrange_105 rfl (by decide) ⟨ord, ro, o, rfl, rfl, rfl, arK_end hA⟩
      · have n9 := Int32.not_le.mp c9
        have hrl : r < 16 := (nI_ltI (b := 16) (by omega) (by omega)).mp n9
        refine r_iload_n C dX3_arrange_12 rfl rfl ?_
        refine r_bipush (v := 16) C dX3_arrange_13 rfl ?_
        refine r_icmpge (tgt := 105) C dX3_arrange_15 (by decide) (fun c15 => ?_) (fun c15 => ?_)
        · have n15 := Int32.not_lt.mpr c15
          have hk : k = 16 := by
            have := (nI_leI (a := 16) (by omega) (by omega)).mp c15
            omega
          subst hk
          exact r_ret C dX3_arrange_105 rfl (by decide) ⟨ord, ro, o, rfl, rfl, rfl, arK_end hA⟩
        · have n15 := Int32.not_le.mp c15
          have hkl : k < 16 := (nI_ltI (b := 16) (by omega) (by omega)).mp n15
          obtain ⟨c9, hc9, hp9⟩ := arK_open hA hkl
          obtain ⟨cs, hcs, hcs1, hcs2⟩ := ar_next (P := P) hm hrk (rk c9 + 1) c9 hc9 (by omega) hp9
          refine r_iconst (v := 0) C dX3_arrange_18 rfl ?_
          refine r_istore C dX3_arrange_19 (by decide) rfl ?_
          have lp2 : ∀ m j, j ≤ 16 → 16 - j < m → ∀ (k2 : Nat) (P2 : Int32) (ord2 ro2 : Nat → Int32) (o2 : Nat → Nat), arK (σ 7 3) k2 P2 ord2 ro2 o2 → (k < k2 ∨ k2 = k ∧ P2 = P ∧ ¬ cs < j) → S 0 (upR (upR σ 7 5 ord2) 7 4 ro2) τ 21 [some (.ref (ad 5 0)), some (.int P2), some (.int (nI k2)), some (.int (nI r)), some (.int (nI j))] [] := by
            intro m
            induction m with
            | zero => intro j _ hm; omega
            | succ m ih2 =>
              intro j hj hmj k2 P2 ord2 ro2 o2 hA2 hp2
              have hk216 := hA2.1
              refine r_iload C dX3_arrange_21 rfl ?_
              refine r_bipush (v := 16) C dX3_arrange_23 rfl ?_
              refine r_icmpge (tgt := 99) C dX3_arrange_25 (by decide) (fun c25 => ?_) (fun c25 => ?_)
              · have n25 := Int32.not_lt.mpr c25
                have hj16 : j = 16 := by
                  have := (nI_leI (a := 16) (by omega) (by omega)).mp c25
                  omega
                subst hj16
                refine r_iinc C dX3_arrange_99 rfl rfl (by decide) rfl ?_
                refine r_goto (tgt := 6) C dX3_arrange_102 (by decide) ?_
                refine r_drop C [4] ?_
                exact r_swk (ih1 (r + 1) (by omega) (by omega) k2 P2 ord2 ro2 o2 hA2 (by rcases hp2 with q | ⟨-, -, q⟩ <;> omega)) rfl rfl (by rw [← nI_p1]; rfl) rfl
              · have n25 := Int32.not_le.mp c25
                have hjl : j < 16 := (nI_ltI (b := 16) (by omega) (by omega)).mp n25
                refine r_iload_n C dX3_arrange_28 rfl rfl ?_
                refine r_bipush (v := 16) C dX3_arrange_29 rfl ?_
                refine r_icmpge (tgt := 93) C dX3_arrange_31 (by decide) (fun c31 => ?_) (fun c31 => ?_)
                · have n31 := Int32.not_lt.mpr c31
                  have hk2 : k2 = 16 := by
                    have := (nI_leI (a := 16) (by omega) (by omega)).mp c31
                    omega
                  have hA3 := hA2
                  have hp3 : k < k2 ∨ k2 = k ∧ P2 = P ∧ ¬ cs < j + 1 := Or.inl (by omega)
                  refine r_iinc C dX3_arrange_93 rfl rfl (by decide) rfl ?_
                  refine r_goto (tgt := 21) C dX3_arrange_96 (by decide) ?_
                  exact r_swk (ih2 (j + 1) (by omega) (by omega) _ _ _ _ _ hA3 hp3) rfl rfl (by first | (rw [← nI_p1 j]; rfl) | (rw [← nI_p1 j, ← nI_p1 k2]; rfl)) rfl
                · have n31 := Int32.not_le.mp c31
                  have hk2l : k2 < 16 := (nI_ltI (b := 16) (by omega) (by omega)).mp n31
                  refine r_iload_n C dX3_arrange_34 rfl rfl ?_
                  refine r_iload C dX3_arrange_35 rfl ?_
                  refine r_callSN C dX3_arrange_37 (c_has (upR (upR σ 7 5 ord2) 7 4 ro2) τ P2 (nI j)) rfl kB_X5_has rfl kS_X5_has kl_X3_46 (by decide) (Nat.le_of_ble_eq_true rfl) (by decide) ?_
                  rintro r9 σ' τ' ⟨rfl, rfl, rfl⟩
                  rw [hasB_bt hjl]
                  refine r_ifne (tgt := 93) C dX3_arrange_40 (by decide) (fun c40 => ?_) (fun c40 => ?_)
                  · have h40 := b2i_n.mp c40
                    have hA3 := hA2
                    have hp3 : k < k2 ∨ k2 = k ∧ P2 = P ∧ ¬ cs < j + 1 := by
                      rcases hp2 with q | ⟨q1, q2, q3⟩
                      · exact Or.inl q
                      · refine Or.inr ⟨q1, q2, fun q => ?_⟩
                        have e : cs = j := by omega
                        subst e
                        rw [q2] at h40
                        rw [hcs1] at h40
                        cases h40
                    refine r_iinc C dX3_arrange_93 rfl rfl (by decide) rfl ?_
                    refine r_goto (tgt := 21) C dX3_arrange_96 (by decide) ?_
                    exact r_swk (ih2 (j + 1) (by omega) (by omega) _ _ _ _ _ hA3 hp3) rfl rfl (by first | (rw [← nI_p1 j]; rfl) | (rw [← nI_p1 j, ← nI_p1 k2]; rfl)) rfl
                  · have h40 := b2i_0.mp c40
                    refine r_aload_n C dX3_arrange_43 rfl rfl ?_
                    refine r_get (f := 4) C dX3_arrange_44 ⟨by decide, by decide⟩ rfl rfl kU3 (by decide) kf_X3_27 rfl rfl ?_
                    refine r_iload C dX3_arrange_47 rfl ?_
                    refine r_ialdv (v := σ 7 3 j) C dX3_arrange_49 ⟨by decide, by decide⟩ rfl (vp_in_nI hjl (by decide)) (by rw [nI_clamp (by omega)]; rfl) ?_
                    refine r_iload_n C dX3_arrange_50 rfl rfl ?_
                    refine r_iconst (v := (-1)) C dX3_arrange_51 rfl ?_
                    refine r_ixor C dX3_arrange_52 ?_
                    refine r_iand C dX3_arrange_53 ?_
                    refine r_ifne (tgt := 93) C dX3_arrange_54 (by decide) (fun c54 => ?_) (fun c54 => ?_)
                    · have hA3 := hA2
                      have hp3 : k < k2 ∨ k2 = k ∧ P2 = P ∧ ¬ cs < j + 1 := by
                        rcases hp2 with q | ⟨q1, q2, q3⟩
                        · exact Or.inl q
                        · refine Or.inr ⟨q1, q2, fun q => ?_⟩
                          have e : cs = j := by omega
                          subst e
                          rw [q2] at c54
                          exact c54 hcs2
                      refine r_iinc C dX3_arrange_93 rfl rfl (by decide) rfl ?_
                      refine r_goto (tgt := 21) C dX3_arrange_96 (by decide) ?_
                      exact r_swk (ih2 (j + 1) (by omega) (by omega) _ _ _ _ _ hA3 hp3) rfl rfl (by first | (rw [← nI_p1 j]; rfl) | (rw [← nI_p1 j, ← nI_p1 k2]; rfl)) rfl
                    · skip
                      refine r_aload_n C dX3_arrange_57 rfl rfl ?_
                      refine r_get (f := 6) C dX3_arrange_58 ⟨by decide, by decide⟩ rfl rfl kU3 (by decide) kf_X3_33 rfl rfl ?_
                      refine r_iload_n C dX3_arrange_61 rfl rfl ?_
                      refine r_iload C dX3_arrange_62 rfl ?_
                      refine r_iastv C dX3_arrange_64 ⟨by decide, by decide⟩ (fun _ => rfl) (vp_in_nI hk2l (by decide)) (nI_clamp (by omega)) ?_
                      rw [up3_swap _ _ _ _ _ _ _ _ (by decide)]
                      refine r_iinc C dX3_arrange_65 rfl rfl (by decide) rfl ?_
                      refine r_iload_n C dX3_arrange_68 rfl rfl ?_
                      refine r_iconst (v := 1) C dX3_arrange_69 rfl ?_
                      refine r_iload C dX3_arrange_70 rfl ?_
                      refine r_ishl C dX3_arrange_72 ?_
                      refine r_ior C dX3_arrange_73 ?_
                      refine r_istore_n C dX3_arrange_74 rfl (by decide) rfl ?_
                      refine r_aload_n C dX3_arrange_75 rfl rfl ?_
                      refine r_get (f := 5) C dX3_arrange_76 ⟨by decide, by decide⟩ rfl rfl kU3 (by decide) kf_X3_30 rfl rfl ?_
                      refine r_iload C dX3_arrange_79 rfl ?_
                      refine r_aload_n C dX3_arrange_81 rfl rfl ?_
                      refine r_aload_n C dX3_arrange_82 rfl rfl ?_
                      refine r_get (f := 4) C dX3_arrange_83 ⟨by decide, by decide⟩ rfl rfl kU3 (by decide) kf_X3_27 rfl rfl ?_
                      refine r_iload C dX3_arrange_86 rfl ?_
                      refine r_ialdv (v := σ 7 3 j) C dX3_arrange_88 ⟨by decide, by decide⟩ rfl (vp_in_nI hjl (by decide)) (by rw [nI_clamp (by omega)]; rfl) ?_
                      refine r_callV C dX3_arrange_89 (c_restedOnThrough (upR (upR σ 7 5 (upd ord2 k2 (nI j))) 7 4 ro2) τ (σ 7 3 j)) rfl ⟨by decide, by decide⟩ rfl rfl kB_X3_restedOnThrough rfl kI_X3_restedOnThrough kV_X3_restedOnThrough kl_X3_61 (by decide) (Nat.le_of_ble_eq_true rfl) (by decide) ?_
                      rintro r9 σ' τ' ⟨rfl, rfl, rfl⟩
                      refine r_iastv C dX3_arrange_92 ⟨by decide, by decide⟩ (fun _ => rfl) (vp_in_nI hjl (by decide)) (nI_clamp (by omega)) ?_
                      rw [up3_upR]
                      have hA3 := arK_push hA2 hk2l hjl h40 c54 (hm j hjl)
                      have hp3 : k < k2 + 1 ∨ k2 + 1 = k ∧ P2 ||| b1 j = P ∧ ¬ cs < j + 1 := Or.inl (by rcases hp2 with q | ⟨q, -⟩ <;> omega)
                      refine r_iinc C dX3_arrange_93 rfl rfl (by decide) rfl ?_
                      refine r_goto (tgt := 21) C dX3_arrange_96 (by decide) ?_
                      exact r_swk (ih2 (j + 1) (by omega) (by omega) _ _ _ _ _ hA3 hp3) rfl rfl (by first | (rw [← nI_p1 j]; rfl) | (rw [← nI_p1 j, ← nI_p1 k2]; rfl)) rfl
          exact lp2 17 0 (by omega) (by omega) k P ord ro o hA (Or.inr ⟨rfl, rfl, by omega⟩)
  refine r_swk (lp1 17 0 (by omega) (by omega) 0 0 (σ 7 5) (σ 7 4) (fun _ => 0) (arK_0 _ _ _ _) (by omega)) ?_ rfl rfl rfl
  rw [upR_id, upR_id]
def inS (σ : gSig) (cell : Nat) (lo hi : Int32) : gSig := up3 (up3 (up3 (up3 (up3 σ 5 0 8 (σ 5 0 8 ||| b1 cell)) 7 0 cell lo) 7 1 cell hi) 7 2 cell lo) 7 3 cell 0
set_option maxRecDepth 100000 in
set_option maxHeartbeats 4000000 in
theorem c_makeInput {l : Launch} {D : va_G} {ad : Nat → Nat → Nat} {aC : Nat → ClassId} (σ : gSig) (τ : gTau) (cell : Nat) (lo hi : Int32) (rk : Nat → Nat) (hc : cell < 16) (hm : ∀ c, c < 16 → m16 ((inS σ cell lo hi) 7 3 c)) (hrk : ∀ c d, c < 16 → d < 16 → bt ((inS σ cell lo hi) 7 3 c) d = true → rk d < rk c) : CZ l D ad aC yX3_makeInput cX3_makeInput 4 none 3 [.ref (ad 5 0), .int (nI cell), .int lo, .int hi] σ τ (arQ (inS σ cell lo hi) τ) := by
  refine CZ.of (own := RX3) (by decide +kernel) rfl (Nat.le_of_ble_eq_true rfl) (fun S C => ?_)
  refine r_aload_n C dX3_makeInput_0 rfl rfl ?_
  refine r_dup C dX3_makeInput_1 rfl ?_
  refine r_get (f := 8) C dX3_makeInput_2 ⟨by decide, by decide⟩ rfl rfl kU3 (by decide) kf_X3_41 rfl rfl ?_
  refine r_iconst (v := 1) C dX3_makeInput_5 rfl ?_
  refine r_iload_n C dX3_makeInput_6 rfl rfl ?_
  refine r_ishl C dX3_makeInput_7 ?_
  refine r_ior C dX3_makeInput_8 ?_
  refine r_put (f := 8) C dX3_makeInput_9 ⟨by decide, by decide⟩ rfl rfl kU3 tyX3 tyX3_ok nmX3 (by decide) kf_X3_41 rfl rfl (by decide +kernel) (Nat.le_of_ble_eq_true rfl) (by simp [cel, up3]) ?_
  refine r_aload_n C dX3_makeInput_12 rfl rfl ?_
  refine r_get (f := 1) C dX3_makeInput_13 ⟨by decide, by decide⟩ rfl rfl kU3 (by decide) kf_X3_17 rfl rfl ?_
  refine r_iload_n C dX3_makeInput_16 rfl rfl ?_
  refine r_iload_n C dX3_makeInput_17 rfl rfl ?_
  refine r_iastv C dX3_makeInput_18 ⟨by decide, by decide⟩ (fun _ => rfl) (vp_in_nI hc (by decide)) (nI_clamp (by omega)) ?_
  refine r_aload_n C dX3_makeInput_19 rfl rfl ?_
  refine r_get (f := 2) C dX3_makeInput_20 ⟨by decide, by decide⟩ rfl rfl kU3 (by decide) kf_X3_21 rfl rfl ?_
  refine r_iload_n C dX3_makeInput_23 rfl rfl ?_
  refine r_iload_n C dX3_makeInput_24 rfl rfl ?_
  refine r_iastv C dX3_makeInput_25 ⟨by decide, by decide⟩ (fun _ => rfl) (vp_in_nI hc (by decide)) (nI_clamp (by omega)) ?_
  refine r_aload_n C dX3_makeInput_26 rfl rfl ?_
  refine r_get (f := 3) C dX3_makeInput_27 ⟨by decide, by decide⟩ rfl rfl kU3 (by decide) kf_X3_24 rfl rfl ?_
  refine r_iload_n C dX3_makeInput_30 rfl rfl ?_
  refine r_iload_n C dX3_makeInput_31 rfl rfl ?_
  refine r_iastv C dX3_makeInput_32 ⟨by decide, by decide⟩ (fun _ => rfl) (vp_in_nI hc (by decide)) (nI_clamp (by omega)) ?_
  refine r_aload_n C dX3_makeInput_33 rfl rfl ?_
  refine r_get (f := 4) C dX3_makeInput_34 ⟨by decide, by decide⟩ rfl rfl kU3 (by decide) kf_X3_27 rfl rfl ?_
  refine r_iload_n C dX3_makeInput_37 rfl rfl ?_
  refine r_iconst (v := 0) C dX3_makeInput_38 rfl ?_
  refine r_iastv C dX3_makeInput_39 ⟨by decide, by decide⟩ (fun _ => rfl) (vp_in_nI hc (by decide)) (nI_clamp (by omega)) ?_
  refine r_aload_n C dX3_makeInput_40 rfl rfl ?_
  refine r_callV C dX3_makeInput_41 (c_arrange (inS σ cell lo hi) τ rk hm hrk) rfl ⟨by decide, by decide⟩ rfl rfl kB_X3_arrange rfl kI_X3_arrange kV_X3_arrange kl_X3_50 (by decide) (Nat.le_of_ble_eq_true rfl) (by decide) ?_
  intro r9 σ' τ' hq
  have hq2 := hq
  obtain ⟨ord, ro, o, rfl, rfl, rfl, -⟩ := hq
  exact r_ret C dX3_makeInput_44 rfl (by decide) hq2
def fmS (σ : gSig) (cell k : Nat) : gSig := up3 (cpyS (up3 σ 5 0 8 (σ 5 0 8 &&& (b1 cell ^^^ (-1)))) cell 16) 7 3 cell (rsM (σ 2 16) (σ 3 16) k)
theorem cpyS_fm (σ : gSig) (c c2 f : Nat) (h1 : f ≠ 1) (h2 : f ≠ 2) (h3 : f ≠ 3) : cpyS σ c c2 f = σ f := by
  funext c' i'
  simp [cpyS, up3, upR, h1, h2, h3]
theorem cpyS_at (σ : gSig) (c c2 f c' : Nat) (h : c' ≠ c) : cpyS σ c c2 f c' = σ f c' := by
  funext i'
  simp [cpyS, up3, upR, h]
set_option maxRecDepth 100000 in
set_option maxHeartbeats 4000000 in
theorem c_makeFormula {l : Launch} {D : va_G} {ad : Nat → Nat → Nat} {aC : Nat → ClassId} (σ : gSig) (τ : gTau) (cell k : Nat) (rk : Nat → Nat) (hc : cell < 16) (hk : σ 1 16 3 = nI k) (hk2 : k ≤ 12) (hm : ∀ c, c < 16 → m16 ((fmS σ cell k) 7 3 c)) (hrk : ∀ c d, c < 16 → d < 16 → bt ((fmS σ cell k) 7 3 c) d = true → rk d < rk c) : CZ l D ad aC yX3_makeFormula cX3_makeFormula 3 none 3 [.ref (ad 5 0), .int (nI cell), .ref (ad 1 16)] σ τ (arQ (fmS σ cell k) τ) := by
  refine CZ.of (own := RX3) (by decide +kernel) rfl (Nat.le_of_ble_eq_true rfl) (fun S C => ?_)
  refine r_aload_n C dX3_makeFormula_0 rfl rfl ?_
  refine r_dup C dX3_makeFormula_1 rfl ?_
  refine r_get (f := 8) C dX3_makeFormula_2 ⟨by decide, by decide⟩ rfl rfl kU3 (by decide) kf_X3_41 rfl rfl ?_
  refine r_iconst (v := 1) C dX3_makeFormula_5 rfl ?_
  refine r_iload_n C dX3_makeFormula_6 rfl rfl ?_
  refine r_ishl C dX3_makeFormula_7 ?_
  refine r_iconst (v := (-1)) C dX3_makeFormula_8 rfl ?_
  refine r_ixor C dX3_makeFormula_9 ?_
  refine r_iand C dX3_makeFormula_10 ?_
  refine r_put (f := 8) C dX3_makeFormula_11 ⟨by decide, by decide⟩ rfl rfl kU3 tyX3 tyX3_ok nmX3 (by decide) kf_X3_41 rfl rfl (by decide +kernel) (Nat.le_of_ble_eq_true rfl) (by simp [cel, up3]) ?_
  refine r_aload_n C dX3_makeFormula_14 rfl rfl ?_
  refine r_get (f := 0) C dX3_makeFormula_15 ⟨by decide, by decide⟩ rfl rfl kU3 (by decide) kf_X3_11 rfl rfl ?_
  refine r_iload_n C dX3_makeFormula_18 rfl rfl ?_
  refine r_aaldv (t0 := 3) C dX3_makeFormula_19 ⟨by decide, by decide⟩ rfl rfl (vp_in_nI hc (by decide)) (nI_clamp (by omega)) ?_
  refine r_aload_n C dX3_makeFormula_20 rfl rfl ?_
  refine r_callV C dX3_makeFormula_21 (c_copyFrom (up3 σ 5 0 8 (σ 5 0 8 &&& (b1 cell ^^^ (-1)))) τ cell 16 (by omega) (by decide) (by omega)) rfl ⟨by decide, Nat.lt_of_lt_of_le hc (by decide)⟩ rfl rfl kB_X0_copyFrom rfl kI_X0_copyFrom kV_X0_copyFrom kl_X3_53 (by decide) (Nat.le_of_ble_eq_true rfl) (by decide) ?_
  rintro r9 σ' τ' ⟨rfl, rfl, rfl⟩
  refine r_aload_n C dX3_makeFormula_24 rfl rfl ?_
  refine r_get (f := 4) C dX3_makeFormula_25 ⟨by decide, by decide⟩ rfl rfl kU3 (by decide) kf_X3_27 rfl rfl ?_
  refine r_iload_n C dX3_makeFormula_28 rfl rfl ?_
  refine r_aload_n C dX3_makeFormula_29 rfl rfl ?_
  have hne : (16 : Nat) ≠ cell := by omega
  have e2 : cpyS (up3 σ 5 0 8 (σ 5 0 8 &&& (b1 cell ^^^ (-1)))) cell 16 2 16 = σ 2 16 := (cpyS_at _ _ _ _ _ hne).trans (up3_ne _ _ _ _ _ (by simp))
  have e3 : cpyS (up3 σ 5 0 8 (σ 5 0 8 &&& (b1 cell ^^^ (-1)))) cell 16 3 16 = σ 3 16 := (cpyS_at _ _ _ _ _ hne).trans (up3_ne _ _ _ _ _ (by simp))
  have e1 : cpyS (up3 σ 5 0 8 (σ 5 0 8 &&& (b1 cell ^^^ (-1)))) cell 16 1 16 3 = nI k := by
    rw [cpyS_at _ _ _ _ _ hne, up3_ne _ _ _ _ _ (by simp)]
    exact hk
  refine r_callV C dX3_makeFormula_30 (c_readSet (cpyS (up3 σ 5 0 8 (σ 5 0 8 &&& (b1 cell ^^^ (-1)))) cell 16) τ 16 k (by decide) e1 hk2) rfl ⟨by decide, by decide⟩ rfl rfl kB_X0_readSet rfl kI_X0_readSet kV_X0_readSet kl_X3_57 (by decide) (Nat.le_of_ble_eq_true rfl) (by decide) ?_
  rintro r9 σ' τ' ⟨rfl, rfl, rfl⟩
  rw [e2, e3]
  refine r_iastv C dX3_makeFormula_33 ⟨by decide, by decide⟩ (fun _ => rfl) (vp_in_nI hc (by decide)) (nI_clamp (by omega)) ?_
  refine r_aload_n C dX3_makeFormula_34 rfl rfl ?_
  refine r_callV C dX3_makeFormula_35 (c_arrange (fmS σ cell k) τ rk hm hrk) rfl ⟨by decide, by decide⟩ rfl rfl kB_X3_arrange rfl kI_X3_arrange kV_X3_arrange kl_X3_50 (by decide) (Nat.le_of_ble_eq_true rfl) (by decide) ?_
  intro r9 σ' τ' hq
  have hq2 := hq
  obtain ⟨ord, ro, o, rfl, rfl, rfl, -⟩ := hq
  exact r_ret C dX3_makeFormula_38 rfl (by decide) hq2
end
section
/-! ===== the values of all cells, properties, rows of trials, and how they are made smaller: words for both sides ===== -/
theorem evN_congr {V V' : Nat → Option Int32} {kd kd' nm nm' : Nat → Int32} : ∀ {n : Nat}, (∀ q, q < n → kd q = kd' q ∧ (kd q = 12 → nm q = nm' q) ∧ (kd q = 13 → nm q = nm' q ∧ V (nm q).toNatClampNeg = V' (nm q).toNatClampNeg)) → evN V kd nm n = evN V' kd' nm' n
  | 0, _ => rfl
  | n + 1, h => by
    show (evN V kd nm n).bind _ = (evN V' kd' nm' n).bind _
    rw [evN_congr (fun q hq => h q (by omega))]
    congr 1
    funext st
    obtain ⟨h1, h2, h3⟩ := h n (by omega)
    unfold evS
    rw [← h1]
    by_cases e : kd n = 12
    · rw [if_pos e, if_pos e, h2 e]
    · rw [if_neg e, if_neg e]
      by_cases e2 : kd n = 13
      · rw [if_pos e2, if_pos e2, ← (h3 e2).1, (h3 e2).2]
      · rw [if_neg e2, if_neg e2]
theorem evF_congr {V V' : Nat → Option Int32} {kd kd' nm nm' : Nat → Int32} {n : Nat} (h : ∀ q, q < n → kd q = kd' q ∧ (kd q = 12 → nm q = nm' q) ∧ (kd q = 13 → nm q = nm' q ∧ V (nm q).toNatClampNeg = V' (nm q).toNatClampNeg)) : evF V kd nm n = evF V' kd' nm' n := by
  unfold evF
  rw [evN_congr h]
/-- the values, as far as f steps go down -/
def vN (inp : Nat → Bool) (kd nm : Nat → Nat → Int32) (ln : Nat → Nat) (row : Nat → Int32) : Nat → Nat → Option Int32
  | 0, _ => none
  | f + 1, c => if inp c then some (row c) else evF (vN inp kd nm ln row f) (kd c) (nm c) (ln c)
/-- what the parts read lies ahead in an order -/
def lnK (inp : Nat → Bool) (kd nm : Nat → Nat → Int32) (ln : Nat → Nat) (o : Nat → Nat) : Prop := ∀ i, i < 16 → inp (o i) = false → ∀ q, q < ln (o i) → kd (o i) q = 13 → ∃ j, j < i ∧ nm (o i) q = nI (o j) ∧ o j < 16
theorem vN_stay {inp : Nat → Bool} {kd nm : Nat → Nat → Int32} {ln : Nat → Nat} {row : Nat → Int32} {o : Nat → Nat} (h : lnK inp kd nm ln o) : ∀ n i, i < n → i < 16 → ∀ f f', i < f → i < f' → vN inp kd nm ln row f (o i) = vN inp kd nm ln row f' (o i) := by
  intro n
  induction n with
  | zero => intro i hi; omega
  | succ n ih =>
    intro i hi hi16 f f' hf hf'
    obtain ⟨f, rfl⟩ : ∃ z, f = z + 1 := ⟨f - 1, by omega⟩
    obtain ⟨f', rfl⟩ : ∃ z, f' = z + 1 := ⟨f' - 1, by omega⟩
    unfold vN
    cases hb : inp (o i) with
    | true => rfl
    | false =>
      simp only [Bool.false_eq_true, if_false]
      refine evF_congr (fun q hq => ⟨rfl, fun _ => rfl, fun hk => ⟨rfl, ?_⟩⟩)
      obtain ⟨j, hj, e, hjo⟩ := h i hi16 hb q hq hk
      rw [e, nI_clamp (by omega)]
      exact ih j (by omega) (by omega) f f' (by omega) (by omega)
theorem vN_succ (inp : Nat → Bool) (kd nm : Nat → Nat → Int32) (ln : Nat → Nat) (row : Nat → Int32) (f c : Nat) : vN inp kd nm ln row (f + 1) c = if inp c then some (row c) else evF (vN inp kd nm ln row f) (kd c) (nm c) (ln c) := rfl
theorem vN_eqf {inp : Nat → Bool} {kd nm : Nat → Nat → Int32} {ln : Nat → Nat} {row : Nat → Int32} {o : Nat → Nat} (h : lnK inp kd nm ln o) (hS : ordS o) (f : Nat) (hf : 15 ≤ f) : ∀ c, c < 16 → vN inp kd nm ln row (f + 1) c = if inp c then some (row c) else evF (vN inp kd nm ln row (f + 1)) (kd c) (nm c) (ln c) := by
  intro c hc
  obtain ⟨i, hi, rfl⟩ := hS c hc
  rw [vN_succ]
  cases hb : inp (o i) with
  | true => rfl
  | false =>
    simp only [Bool.false_eq_true, if_false]
    refine evF_congr (fun q hq => ⟨rfl, fun _ => rfl, fun hk => ⟨rfl, ?_⟩⟩)
    obtain ⟨j, hj, e, hjo⟩ := h i hi hb q hq hk
    rw [e, nI_clamp (by omega)]
    exact vN_stay h 16 j (by omega) (by omega) f (f + 1) (by omega) (by omega)
theorem vN_eq {inp : Nat → Bool} {kd nm : Nat → Nat → Int32} {ln : Nat → Nat} {row : Nat → Int32} {o : Nat → Nat} (h : lnK inp kd nm ln o) (hS : ordS o) : ∀ c, c < 16 → vN inp kd nm ln row 16 c = if inp c then some (row c) else evF (vN inp kd nm ln row 16) (kd c) (nm c) (ln c) := vN_eqf h hS 15 (by decide)
/-- one valuation alone -/
theorem vN_one {inp : Nat → Bool} {kd nm : Nat → Nat → Int32} {ln : Nat → Nat} {row : Nat → Int32} {o : Nat → Nat} (h : lnK inp kd nm ln o) (hS : ordS o) {V : Nat → Option Int32} (hV : ∀ c, c < 16 → V c = if inp c then some (row c) else evF V (kd c) (nm c) (ln c)) : ∀ n i, i < n → i < 16 → o i < 16 → V (o i) = vN inp kd nm ln row 16 (o i) := by
  intro n
  induction n with
  | zero => intro i hi; omega
  | succ n ih =>
    intro i hi hi16 ho
    rw [hV _ ho, vN_eq h hS _ ho]
    cases hb : inp (o i) with
    | true => rfl
    | false =>
      simp only [Bool.false_eq_true, if_false]
      refine evF_congr (fun q hq => ⟨rfl, fun _ => rfl, fun hk => ⟨rfl, ?_⟩⟩)
      obtain ⟨j, hj, e, hjo⟩ := h i hi16 hb q hq hk
      rw [e, nI_clamp (by omega)]
      exact ih j (by omega) (by omega) hjo
/-- the class's values by a row -/
def gV (σ : gSig) (row : Nat → Int32) : Nat → Option Int32 := vN (fun c => bt (σ 5 0 8) c) (fun c => σ 2 c) (fun c => σ 3 c) (fun c => flen σ c) row 16
theorem shK_ln {σ : gSig} {o : Nat → Nat} (hK : shK σ o) : lnK (fun c => bt (σ 5 0 8) c) (fun c => σ 2 c) (fun c => σ 3 c) (fun c => flen σ c) o := by
  obtain ⟨hO, hT, hJ, hS, hR, hF, hI⟩ := hK
  intro i hi hb q hq hk
  obtain ⟨ho1, ho2⟩ := hO i hi
  obtain ⟨⟨f1, f2, f3, f4, f5⟩, f6⟩ := (hF _ ho2).2 hb
  obtain ⟨d, hd, e⟩ := isC_nI ((f4 q hq).2.2 hk)
  have hrd : bt (σ 7 3 (o i)) d = true := by
    rw [f6]
    exact rsM_in (fun z hz => (f4 z hz).2.2) hq hk e hd
  obtain ⟨j, hj, e2⟩ := hT i hi d hd hrd
  exact ⟨j, hj, by rw [e2]; exact e, by omega⟩
theorem gV_eq {σ : gSig} {o : Nat → Nat} (hK : shK σ o) (row : Nat → Int32) : vEq σ row (gV σ row) := fun c hc => by
  have h := vN_eq (row := row) (shK_ln hK) hK.2.2.2.1 c hc
  exact h
/-- whether a property holds: by the values by a row -/
def prH (Vf : (Nat → Int32) → Nat → Option Int32) (inp : Nat → Bool) (hi : Nat → Int32) (cell : Nat) (kd n : Int32) (row : Nat → Int32) : Bool :=
  match Vf row cell with
  | none => false
  | some v => if kd = 0 then decide (n ≤ v) else if kd = 1 then decide (v ≤ n) else if kd = 2 then decide (Vf row n.toNatClampNeg = some v) else
    if inp n.toNatClampNeg = false ∨ hi n.toNatClampNeg ≤ row n.toNatClampNeg then true else
    match Vf (upd row n.toNatClampNeg (row n.toNatClampNeg + 1)) cell with
    | none => false
    | some w => decide (v ≤ w)
/-- the first that doesn't hold; none: -1 -/
def fbE (h : Nat → Bool) (q : Nat) (res : Int32) : Prop := (res = -1 ∧ ∀ z, z < q → h z = true) ∨ ∃ p, p < q ∧ res = nI p ∧ h p = false ∧ ∀ z, z < p → h z = true
/-- the number behind a number drawn -/
def nxD (a d : Nat) : Nat := if a ≤ 1 then d else (421 * d + 1663) % 7875
/-- an input's value in a row -/
def rvV (a : Nat) (lo hi : Int32) (d : Nat) : Int32 := if a = 0 then lo else if a = 1 then hi else lo + (nI d - nI d / (hi - lo + 1) * (hi - lo + 1))
/-- a row filled, as far as n cells go -/
def frF (inp : Nat → Bool) (lo hi : Nat → Int32) (a : Nat) (row : Nat → Int32) (d : Nat) : Nat → (Nat → Int32) × Nat
  | 0 => (row, d)
  | c + 1 => if inp c then (upd (frF inp lo hi a row d c).1 c (rvV a (lo c) (hi c) (nxD a (frF inp lo hi a row d c).2)), nxD a (frF inp lo hi a row d c).2) else frF inp lo hi a row d c
/-- an input made smaller by half and half -/
def dlF (h : (Nat → Int32) → Bool) (row : Nat → Int32) (c : Nat) : Nat → Nat → Option (Nat → Int32)
  | 0, _ => none
  | f + 1, l => if l = 0 then none else if h (upd row c (row c - nI l)) = false then some (upd row c (row c - nI l)) else dlF h row c f (l / 2)
/-- one step smaller: from the input n on, in rising order, k of them -/
def ssF (inp : Nat → Bool) (lo : Nat → Int32) (h : (Nat → Int32) → Bool) (row : Nat → Int32) : Nat → Nat → Option (Nat → Int32)
  | 0, _ => none
  | k + 1, n => if inp n then (match dlF h row n 32 (row n - lo n).toNatClampNeg with
    | some r => some r
    | none => ssF inp lo h row k (n + 1)) else ssF inp lo h row k (n + 1)
/-- so many steps at most: how many, and the row -/
def msF (step : (Nat → Int32) → Option (Nat → Int32)) : Nat → (Nat → Int32) → Nat × (Nat → Int32)
  | 0, row => (0, row)
  | k + 1, row => match step row with
    | none => (0, row)
    | some r => ((msF step k r).1 + 1, (msF step k r).2)
/-- inputs in their ranges -/
def rwK (inp : Nat → Bool) (lo hi : Nat → Int32) (row : Nat → Int32) : Prop := ∀ c, c < 16 → inp c = true → lo c ≤ row c ∧ row c ≤ hi c
def rgK (inp : Nat → Bool) (lo hi : Nat → Int32) : Prop := ∀ c, c < 16 → inp c = true → (-1000000 : Int32) ≤ lo c ∧ lo c ≤ hi c ∧ hi c ≤ 1000000
theorem rg_int {lo hi : Int32} (h : (-1000000 : Int32) ≤ lo ∧ lo ≤ hi ∧ hi ≤ 1000000) : (-1000000 : Int) ≤ lo.toInt ∧ lo.toInt ≤ hi.toInt ∧ hi.toInt ≤ 1000000 := by
  obtain ⟨h1, h2, h3⟩ := h
  have a := Int32.le_iff_toInt_le.mp h1
  have b := Int32.le_iff_toInt_le.mp h2
  have c := Int32.le_iff_toInt_le.mp h3
  have e1 : (-1000000 : Int32).toInt = -1000000 := by decide
  have e2 : (1000000 : Int32).toInt = 1000000 := by decide
  omega
theorem i32_sub {x y : Int32} (hx : (-1000000 : Int) ≤ x.toInt ∧ x.toInt ≤ 1000000) (hy : (-1000000 : Int) ≤ y.toInt ∧ y.toInt ≤ 1000000) : (x - y).toInt = x.toInt - y.toInt := fb_subI (by omega) (by omega)
theorem rg_size {lo hi : Int32} (h : (-1000000 : Int32) ≤ lo ∧ lo ≤ hi ∧ hi ≤ 1000000) : ∃ z : Nat, 1 ≤ z ∧ z ≤ 2000001 ∧ hi - lo + 1 = nI z ∧ (z : Int) = hi.toInt - lo.toInt + 1 := by
  obtain ⟨h1, h2, h3⟩ := rg_int h
  have e := i32_sub (x := hi) (y := lo) (by omega) (by omega)
  refine ⟨(hi.toInt - lo.toInt + 1).toNat, by omega, by omega, ?_, by omega⟩
  apply Int32.toInt_inj.mp
  have h1' : (1 : Int32).toInt = 1 := by decide
  have h2' := fb_addI (x := hi - lo) (y := 1) (by rw [e, h1']; omega) (by rw [e, h1']; omega)
  rw [h2', e, nI_toInt (by omega), h1']
  omega
theorem nI_div {m k : Nat} (hm : m < 2 ^ 31) (hk : k < 2 ^ 31) : nI m / nI k = nI (m / k) := by
  apply Int32.toInt_inj.mp
  have hq : m / k < 2 ^ 31 := Nat.lt_of_le_of_lt (Nat.div_le_self m k) hm
  rw [Int32.toInt_div, nI_toInt hm, nI_toInt hk, nI_toInt hq]
  rw [show (m : Int).tdiv (k : Int) = ((m / k : Nat) : Int) from (Int.ofNat_tdiv m k).symm]
  generalize m / k = z at hq
  exact fb_bmod (by omega) (by omega)
theorem nI_rem {m k : Nat} (hm : m < 2 ^ 31) (hk : k < 2 ^ 31) : nI m - nI m / nI k * nI k = nI (m % k) := by
  rw [nI_div hm hk]
  apply Int32.toInt_inj.mp
  have hle : m / k * k ≤ m := Nat.div_mul_le_self m k
  have hq : m / k < 2 ^ 31 := Nat.lt_of_le_of_lt (Nat.div_le_self m k) hm
  have hdm : m / k * k + m % k = m := by rw [Nat.mul_comm]; exact Nat.div_add_mod m k
  generalize m / k = z at *
  generalize m % k = w at *
  have hcast : ((z * k : Nat) : Int) = (z : Int) * (k : Int) := Int.natCast_mul _ _
  generalize hzk : z * k = y at *
  have e : (nI z * nI k).toInt = (y : Int) := by
    rw [fb_mulI, nI_toInt hq, nI_toInt hk, ← hcast]
    · rw [nI_toInt hq, nI_toInt hk, ← hcast]; omega
    · rw [nI_toInt hq, nI_toInt hk, ← hcast]; omega
  rw [fb_subI, e, nI_toInt hm, nI_toInt (by omega)]
  · omega
  · rw [e, nI_toInt hm]; omega
  · rw [e, nI_toInt hm]; omega
theorem fmN {m k : Nat} (hm : m < 2 ^ 31) (hk : k < 2 ^ 31) : fmJ (nI m) (nI k) = nI (m % k) := by
  unfold fmJ
  have hx : (0 : Int32) ≤ nI m ^^^ nI k := by
    rw [fb_xorI]
    exact nI_pos' (Nat.xor_lt_two_pow hm hk)
  rw [if_pos hx, nI_rem hm hk]
theorem nx_drawn {d : Nat} (hd : d < 7875) : fmJ (421 * nI d + 1663) 7875 = nI ((421 * d + 1663) % 7875) := by
  have e : (421 : Int32) * nI d + 1663 = nI (421 * d + 1663) := by
    rw [← nI_add]
    congr 1
    apply Int32.toInt_inj.mp
    have e1 : (421 : Int32).toInt = 421 := by decide
    rw [fb_mulI, nI_toInt (by omega), nI_toInt (by omega), e1]
    · omega
    · rw [nI_toInt (by omega), e1]; omega
    · rw [nI_toInt (by omega), e1]; omega
  rw [e]
  exact fmN (k := 7875) (by omega) (by decide)
theorem nxD_lt {a d : Nat} (h : d < 7875) : nxD a d < 7875 := by
  unfold nxD
  split
  · exact h
  · exact Nat.mod_lt _ (by decide)
end
section
/-! ===== properties: printed by g21.py ===== -/
theorem lgc_lt {x y : Int64} : lg_cmp x y < 0 ↔ x < y := by
  unfold lg_cmp
  by_cases h : x > y
  · rw [if_pos h]
    refine ⟨fun q => absurd q (by decide), fun q => ?_⟩
    rw [gt_iff_lt, fa_lt64] at h
    rw [fa_lt64] at q
    omega
  · rw [if_neg h]
    by_cases e : x = y
    · rw [if_pos e]
      refine ⟨fun q => absurd q (by decide), fun q => ?_⟩
      rw [fa_lt64, e] at q
      omega
    · rw [if_neg e]
      refine ⟨fun _ => ?_, fun _ => by decide⟩
      rw [gt_iff_lt, fa_lt64] at h
      rw [fa_eq64] at e
      rw [fa_lt64]
      omega
theorem lgc_gt {x y : Int64} : 0 < lg_cmp x y ↔ y < x := by
  unfold lg_cmp
  by_cases h : x > y
  · rw [if_pos h]
    exact ⟨fun _ => h, fun _ => by decide⟩
  · rw [if_neg h]
    by_cases e : x = y
    · rw [if_pos e]
      exact ⟨fun q => absurd q (by decide), fun q => absurd q h⟩
    · rw [if_neg e]
      exact ⟨fun q => absurd q (by decide), fun q => absurd q h⟩
theorem gV_upF (σ : gSig) (s4 : Nat → Nat → Int32) : gV (upF σ 4 s4) = gV σ := rfl
/-- whether a cell's property p holds for a row -/
def prC (σ : gSig) (c p cell : Nat) (row : Nat → Int32) : Bool := prH (gV σ) (fun z => bt (σ 5 0 8) z) (σ 7 1) cell (σ 11 c p) (σ 12 c p) row
theorem prC_upF (σ : gSig) (s4 : Nat → Nat → Int32) (c p cell : Nat) : prC (upF σ 4 s4) c p cell = prC σ c p cell := rfl
/-- the last kind -/
def riH (Vf : (Nat → Int32) → Nat → Option Int32) (inp : Nat → Bool) (hi : Nat → Int32) (cell m : Nat) (v : Int32) (row : Nat → Int32) : Bool :=
  if inp m = false ∨ hi m ≤ row m then true else
    match Vf (upd row m (row m + 1)) cell with
    | none => false
    | some w => decide (v ≤ w)
/-- a cell's properties stand as they should -/
def plK (σ : gSig) (c q : Nat) : Prop := σ 10 c 2 = nI q ∧ q ≤ 4 ∧ ∀ p, p < q → (¬ σ 11 c p < 0 ∧ σ 11 c p ≤ 3) ∧ (σ 11 c p = 2 ∨ σ 11 c p = 3 → isC (σ 12 c p))
theorem row_back (σ : gSig) (s4 : Nat → Nat → Int32) (m : Nat) : up3 (upF (upR σ 14 0 (upd (σ 14 0) m (σ 14 0 m + 1))) 4 s4) 14 0 m (σ 14 0 m + 1 - 1) = upF σ 4 s4 := by
  funext f' c' i'
  unfold up3 upF upR upd
  by_cases h1 : f' = 14
  · subst h1
    by_cases h2 : c' = 0
    · subst h2
      by_cases h3 : i' = m
      · subst h3; simp
      · simp [h3]
    · simp [h2]
  · simp [h1]
set_option maxRecDepth 100000 in
set_option maxHeartbeats 4000000 in
theorem c_rises {l : Launch} {D : va_G} {ad : Nat → Nat → Nat} {aC : Nat → ClassId} (σ : gSig) (τ : gTau) (cell m : Nat) (v : Int32) (o : Nat → Nat) (hcell : cell < 16) (hm16 : m < 16) (hK : shK σ o) : CZ l D ad aC yX2_rises cX2_rises 8 (some .boolean) 5 [.long v.toInt64, .int (nI m), .ref (ad 5 0), .int (nI cell), .ref (ad 14 0)] σ τ (fun r σ' τ' => ∃ s4 t8, some (.int (b2i (riH (gV σ) (fun z => bt (σ 5 0 8) z) (σ 7 1) cell m v (σ 14 0)))) = r ∧ upF σ 4 s4 = σ' ∧ upT τ 8 t8 = τ') := by
  refine CZ.of (own := RX2) (by decide +kernel) rfl (Nat.le_of_ble_eq_true rfl) (fun S C => ?_)
  refine r_aload_n C dX2_rises_0 rfl rfl ?_
  refine r_iload_n C dX2_rises_1 rfl rfl ?_
  refine r_callV C dX2_rises_2 (c_isInput σ τ (nI m)) rfl ⟨by decide, by decide⟩ rfl rfl kB_X3_isInput rfl kI_X3_isInput kV_X3_isInput kl_X2_38 (by decide) (Nat.le_of_ble_eq_true rfl) (by decide) ?_
  rintro r9 σ' τ' ⟨rfl, rfl, rfl⟩
  rw [hasB_bt hm16]
  refine r_ifeq (tgt := 21) C dX2_rises_5 (by decide) (fun c5 => ?_) (fun c5 => ?_)
  · have h5 := b2i_0.mp c5
    have hres : riH (gV σ) (fun z => bt (σ 5 0 8) z) (σ 7 1) cell m v (σ 14 0) = true := if_pos (Or.inl h5)
    have hs4 := upF_id σ 4
    have ht8 := upT_id τ 8
    refine r_iconst (v := 1) C dX2_rises_21 rfl ?_
    exact r_zret C dX2_rises_22 rfl (by decide) (by decide) ⟨_, _, by rw [hres]; rfl, hs4, ht8⟩
  · have h5 := b2i_n.mp c5
    refine r_aload C dX2_rises_8 rfl ?_
    refine r_iload_n C dX2_rises_10 rfl rfl ?_
    refine r_ialdv (v := σ 14 0 m) C dX2_rises_11 ⟨by decide, by decide⟩ rfl (vp_in_nI hm16 (by decide)) (by rw [nI_clamp (by omega)]) ?_
    refine r_aload_n C dX2_rises_12 rfl rfl ?_
    refine r_get (f := 2) C dX2_rises_13 ⟨by decide, by decide⟩ rfl rfl kU3 (by decide) kf_X2_42 rfl rfl ?_
    refine r_iload_n C dX2_rises_16 rfl rfl ?_
    refine r_ialdv (v := σ 7 1 m) C dX2_rises_17 ⟨by decide, by decide⟩ rfl (vp_in_nI hm16 (by decide)) (by rw [nI_clamp (by omega)]) ?_
    refine r_icmplt (tgt := 23) C dX2_rises_18 (by decide) (fun c18 => ?_) (fun c18 => ?_)
    · have n18 := Int32.not_le.mpr c18
      refine r_aload C dX2_rises_23 rfl ?_
      refine r_iload_n C dX2_rises_25 rfl rfl ?_
      refine r_dup2 C dX2_rises_26 rfl rfl ?_
      refine r_ialdv (v := σ 14 0 m) C dX2_rises_27 ⟨by decide, by decide⟩ rfl (vp_in_nI hm16 (by decide)) (by rw [nI_clamp (by omega)]) ?_
      refine r_iconst (v := 1) C dX2_rises_28 rfl ?_
      refine r_iadd C dX2_rises_29 ?_
      refine r_iastv C dX2_rises_30 ⟨by decide, by decide⟩ (fun _ => rfl) (vp_in_nI hm16 (by decide)) (nI_clamp (by omega)) ?_
      rw [up3_eq]
      refine r_aload_n C dX2_rises_31 rfl rfl ?_
      refine r_iload C dX2_rises_32 rfl ?_
      refine r_aload C dX2_rises_34 rfl ?_
      refine r_callV C dX2_rises_36 (c_sReckon (upR σ 14 0 (upd (σ 14 0) m (σ 14 0 m + 1))) τ cell 14 0 o (gV σ (upd (σ 14 0) m (σ 14 0 m + 1))) hcell (show shK (upR σ 14 0 (upd (σ 14 0) m (σ 14 0 m + 1))) o from hK) (gV_eq (show shK (upR σ 14 0 (upd (σ 14 0) m (σ 14 0 m + 1))) o from hK) _) ⟨by decide, by decide⟩ (by decide) (fun _ _ => rfl)) rfl ⟨by decide, by decide⟩ rfl rfl kB_X3_reckon rfl kI_X3_reckon kV_X3_reckon kl_X2_26 (by decide) (Nat.le_of_ble_eq_true rfl) (by decide) ?_
      rintro r9 σ' τ' ⟨s4, t8, rfl, rfl, rfl⟩
      refine r_lstore C dX2_rises_39 (by decide) rfl ?_
      refine r_aload C dX2_rises_41 rfl ?_
      refine r_iload_n C dX2_rises_43 rfl rfl ?_
      refine r_dup2 C dX2_rises_44 rfl rfl ?_
      refine r_ialdv (v := σ 14 0 m + 1) C dX2_rises_45 ⟨by decide, by decide⟩ rfl (vp_in_nI hm16 (by decide)) (by rw [nI_clamp (by omega)]; show upd (σ 14 0) m (σ 14 0 m + 1) m = _; unfold upd; rw [if_pos rfl]) ?_
      refine r_iconst (v := 1) C dX2_rises_46 rfl ?_
      refine r_isub C dX2_rises_47 ?_
      refine r_iastv C dX2_rises_48 ⟨by decide, by decide⟩ (fun _ => rfl) (vp_in_nI hm16 (by decide)) (nI_clamp (by omega)) ?_
      rw [row_back]
      have hn1 : ¬ (bt (σ 5 0 8) m = false ∨ σ 7 1 m ≤ σ 14 0 m) := fun q => by
        rcases q with q | q
        · rw [h5] at q; cases q
        · exact absurd q (Int32.not_le.mpr c18)
      have hri : riH (gV σ) (fun z => bt (σ 5 0 8) z) (σ 7 1) cell m v (σ 14 0) = (match gV σ (upd (σ 14 0) m (σ 14 0 m + 1)) cell with | none => false | some w => decide (v ≤ w)) := if_neg hn1
      refine r_lload C dX2_rises_49 rfl ?_
      refine r_ldc2 C dX2_rises_51 kc_X2_32 ?_
      refine r_lcmp C dX2_rises_54 ?_
      refine r_ifeq (tgt := 69) C dX2_rises_55 (by decide) (fun c55 => ?_) (fun c55 => ?_)
      · have e55 := lg_cmp_0 c55
        have hres : riH (gV σ) (fun z => bt (σ 5 0 8) z) (σ 7 1) cell m v (σ 14 0) = false := by
          rw [hri]
          cases hw : gV σ (upd (σ 14 0) m (σ 14 0 m + 1)) cell with
          | none => rfl
          | some x => rw [hw] at e55; exact absurd e55 (oL_ne x)
        refine r_iconst (v := 0) C dX2_rises_69 rfl ?_
        exact r_zret C dX2_rises_70 rfl (by decide) (by decide) ⟨s4, t8, by rw [hres]; rfl, rfl, rfl⟩
      · obtain ⟨w, hw⟩ := oL_some (fun q => c55 (by rw [q]; exact lg_cmp_self _))
        refine r_lload C dX2_rises_58 rfl ?_
        refine r_lload_n C dX2_rises_60 rfl rfl ?_
        refine r_lcmp C dX2_rises_61 ?_
        refine r_iflt (tgt := 69) C dX2_rises_62 (by decide) (fun c62 => ?_) (fun c62 => ?_)
        · have hres : riH (gV σ) (fun z => bt (σ 5 0 8) z) (σ 7 1) cell m v (σ 14 0) = false := by
            rw [hri, hw]
            rw [hw] at c62
            exact decide_eq_false (Int32.not_le.mpr ((fa_wide_lt w v).mp (lgc_lt.mp c62)))
          refine r_iconst (v := 0) C dX2_rises_69 rfl ?_
          exact r_zret C dX2_rises_70 rfl (by decide) (by decide) ⟨s4, t8, by rw [hres]; rfl, rfl, rfl⟩
        · have hres : riH (gV σ) (fun z => bt (σ 5 0 8) z) (σ 7 1) cell m v (σ 14 0) = true := by
            rw [hri, hw]
            rw [hw] at c62
            exact decide_eq_true (Int32.not_lt.mp (fun q => c62 (lgc_lt.mpr ((fa_wide_lt w v).mpr q))))
          refine r_iconst (v := 1) C dX2_rises_65 rfl ?_
          refine r_goto (tgt := 70) C dX2_rises_66 (by decide) ?_
          exact r_zret C dX2_rises_70 rfl (by decide) (by decide) ⟨s4, t8, by rw [hres]; rfl, rfl, rfl⟩
    · have n18 := Int32.not_lt.mp c18
      have hres : riH (gV σ) (fun z => bt (σ 5 0 8) z) (σ 7 1) cell m v (σ 14 0) = true := if_pos (Or.inr n18)
      have hs4 := upF_id σ 4
      have ht8 := upT_id τ 8
      refine r_iconst (v := 1) C dX2_rises_21 rfl ?_
      exact r_zret C dX2_rises_22 rfl (by decide) (by decide) ⟨_, _, by rw [hres]; rfl, hs4, ht8⟩
set_option maxRecDepth 100000 in
set_option maxHeartbeats 4000000 in
theorem c_holds {l : Launch} {D : va_G} {ad : Nat → Nat → Nat} {aC : Nat → ClassId} (σ : gSig) (τ : gTau) (c p q cell : Nat) (o : Nat → Nat) (hc : c < 16) (hcell : cell < 16) (hK : shK σ o) (hq : σ 10 c 2 = nI q) (hq4 : q ≤ 4) (hp : p < q) (hpl : ∀ p, p < q → (¬ σ 11 c p < 0 ∧ σ 11 c p ≤ 3) ∧ (σ 11 c p = 2 ∨ σ 11 c p = 3 → isC (σ 12 c p))) : CZ l D ad aC yX2_holds cX2_holds 8 (some .boolean) 6 [.ref (ad 10 c), .int (nI p), .ref (ad 5 0), .int (nI cell), .ref (ad 14 0)] σ τ (fun r σ' τ' => ∃ s4 t8, some (.int (b2i (prC σ c p cell (σ 14 0)))) = r ∧ upF σ 4 s4 = σ' ∧ upT τ 8 t8 = τ') := by
  refine CZ.of (own := RX2) (by decide +kernel) rfl (Nat.le_of_ble_eq_true rfl) (fun S C => ?_)
  refine r_iload_n C dX2_holds_0 rfl rfl ?_
  refine r_iflt (tgt := 12) C dX2_holds_1 (by decide) (fun c1 => ?_) (fun c1 => ?_)
  · exact absurd c1 (nI_pos (by omega))
  · refine r_iload_n C dX2_holds_4 rfl rfl ?_
    refine r_aload_n C dX2_holds_5 rfl rfl ?_
    refine r_get (f := 2) (v := .int (nI q)) C dX2_holds_6 ⟨by decide, hc⟩ rfl rfl kU2 (by decide) kf_X2_18 rfl (by rw [← hq]; rfl) ?_
    refine r_icmplt (tgt := 14) C dX2_holds_9 (by decide) (fun c9 => ?_) (fun c9 => ?_)
    · have n9 := Int32.not_le.mpr c9
      refine r_aload_n C dX2_holds_14 rfl rfl ?_
      refine r_iload_n C dX2_holds_15 rfl rfl ?_
      refine r_aload C dX2_holds_16 rfl ?_
      refine r_callV C dX2_holds_18 (c_sReckon σ τ cell 14 0 o (gV σ (σ 14 0)) hcell hK (gV_eq hK _) ⟨by decide, by decide⟩ (by decide) (fun _ _ => rfl)) rfl ⟨by decide, by decide⟩ rfl rfl kB_X3_reckon rfl kI_X3_reckon kV_X3_reckon kl_X2_26 (by decide) (Nat.le_of_ble_eq_true rfl) (by decide) ?_
      rintro r9 σ' τ' ⟨s4, t8, rfl, rfl, rfl⟩
      refine r_lstore C dX2_holds_21 (by decide) rfl ?_
      refine r_lload C dX2_holds_23 rfl ?_
      refine r_ldc2 C dX2_holds_25 kc_X2_32 ?_
      refine r_lcmp C dX2_holds_28 ?_
      refine r_ifne (tgt := 34) C dX2_holds_29 (by decide) (fun c29 => ?_) (fun c29 => ?_)
      · obtain ⟨v, hv⟩ := oL_some (fun z => c29 (by rw [z]; exact lg_cmp_self _))
        rw [hv]
        have hv2 : ∀ x, x = v → gV σ (σ 14 0) cell = some x := fun x e => by rw [e]; exact hv
        have hcel : ∃ z, prC σ c p cell (σ 14 0) = z ∧ z = (if σ 11 c p = 0 then decide (σ 12 c p ≤ v) else if σ 11 c p = 1 then decide (v ≤ σ 12 c p) else if σ 11 c p = 2 then decide (gV σ (σ 14 0) (σ 12 c p).toNatClampNeg = some v) else riH (gV σ) (fun z => bt (σ 5 0 8) z) (σ 7 1) cell (σ 12 c p).toNatClampNeg v (σ 14 0)) := by
          refine ⟨_, rfl, ?_⟩
          unfold prC prH
          rw [hv]
          rfl
        obtain ⟨z, hz1, hz2⟩ := hcel
        obtain ⟨⟨hk0, hk3⟩, hnn⟩ := hpl p hp
        refine r_aload_n C dX2_holds_34 rfl rfl ?_
        refine r_get (f := 1) C dX2_holds_35 ⟨by decide, hc⟩ rfl rfl kU2 (by decide) kf_X2_15 rfl rfl ?_
        refine r_iload_n C dX2_holds_38 rfl rfl ?_
        refine r_ialdv (v := σ 12 c p) C dX2_holds_39 ⟨by decide, hc⟩ rfl (vp_in_nI (show p < 4 by omega) (by decide)) (by rw [nI_clamp (by omega)]; rfl) ?_
        refine r_istore C dX2_holds_40 (by decide) rfl ?_
        refine r_aload_n C dX2_holds_42 rfl rfl ?_
        refine r_get (f := 0) C dX2_holds_43 ⟨by decide, hc⟩ rfl rfl kU2 (by decide) kf_X2_9 rfl rfl ?_
        refine r_iload_n C dX2_holds_46 rfl rfl ?_
        refine r_ialdv (v := σ 11 c p) C dX2_holds_47 ⟨by decide, hc⟩ rfl (vp_in_nI (show p < 4 by omega) (by decide)) (by rw [nI_clamp (by omega)]; rfl) ?_
        by_cases h0 : σ 11 c p = 0
        · refine r_swIn (tgt := 76) C dX2_holds_48 (by rw [h0]; decide) (by rw [h0]; decide) (by rw [h0]; rfl) (by decide) ?_
          refine r_lload C dX2_holds_76 rfl ?_
          refine r_iload C dX2_holds_78 rfl ?_
          refine r_i2l C dX2_holds_80 ?_
          refine r_lcmp C dX2_holds_81 ?_
          refine r_iflt (tgt := 89) C dX2_holds_82 (by decide) (fun c82 => ?_) (fun c82 => ?_)
          · have hres : prC σ c p cell (σ 14 0) = false := by
              rw [hz1, hz2, if_pos h0]
              exact decide_eq_false (Int32.not_le.mpr ((fa_wide_lt _ _).mp (lgc_lt.mp c82)))
            refine r_iconst (v := 0) C dX2_holds_89 rfl ?_
            exact r_zret C dX2_holds_90 rfl (by decide) (by decide) ⟨s4, t8, by rw [hres]; rfl, rfl, rfl⟩
          · have hres : prC σ c p cell (σ 14 0) = true := by
              rw [hz1, hz2, if_pos h0]
              exact decide_eq_true (Int32.not_lt.mp (fun x => c82 (lgc_lt.mpr ((fa_wide_lt _ _).mpr x))))
            refine r_iconst (v := 1) C dX2_holds_85 rfl ?_
            refine r_goto (tgt := 90) C dX2_holds_86 (by decide) ?_
            exact r_zret C dX2_holds_90 rfl (by decide) (by decide) ⟨s4, t8, by rw [hres]; rfl, rfl, rfl⟩
        · skip
          by_cases h1 : σ 11 c p = 1
          · refine r_swIn (tgt := 91) C dX2_holds_48 (by rw [h1]; decide) (by rw [h1]; decide) (by rw [h1]; rfl) (by decide) ?_
            refine r_lload C dX2_holds_91 rfl ?_
            refine r_iload C dX2_holds_93 rfl ?_
            refine r_i2l C dX2_holds_95 ?_
            refine r_lcmp C dX2_holds_96 ?_
            refine r_ifgt (tgt := 104) C dX2_holds_97 (by decide) (fun c97 => ?_) (fun c97 => ?_)
            · have hres : prC σ c p cell (σ 14 0) = false := by
                rw [hz1, hz2, if_neg h0, if_pos h1]
                exact decide_eq_false (Int32.not_le.mpr ((fa_wide_lt _ _).mp (lgc_gt.mp c97)))
              refine r_iconst (v := 0) C dX2_holds_104 rfl ?_
              exact r_zret C dX2_holds_105 rfl (by decide) (by decide) ⟨s4, t8, by rw [hres]; rfl, rfl, rfl⟩
            · have hres : prC σ c p cell (σ 14 0) = true := by
                rw [hz1, hz2, if_neg h0, if_pos h1]
                exact decide_eq_true (Int32.not_lt.mp (fun x => c97 (lgc_gt.mpr ((fa_wide_lt _ _).mpr x))))
              refine r_iconst (v := 1) C dX2_holds_100 rfl ?_
              refine r_goto (tgt := 105) C dX2_holds_101 (by decide) ?_
              exact r_zret C dX2_holds_105 rfl (by decide) (by decide) ⟨s4, t8, by rw [hres]; rfl, rfl, rfl⟩
          · skip
            by_cases h2 : σ 11 c p = 2
            · refine r_swIn (tgt := 106) C dX2_holds_48 (by rw [h2]; decide) (by rw [h2]; decide) (by rw [h2]; rfl) (by decide) ?_
              refine r_lload C dX2_holds_106 rfl ?_
              refine r_aload_n C dX2_holds_108 rfl rfl ?_
              refine r_iload C dX2_holds_109 rfl ?_
              refine r_aload C dX2_holds_111 rfl ?_
              obtain ⟨m, hm16, hme⟩ := isC_nI (hnn (Or.inl h2))
              rw [hme]
              refine r_callV C dX2_holds_113 (c_sReckon (upF σ 4 s4) (upT τ 8 t8) m 14 0 o (gV σ (σ 14 0)) hm16 (show shK (upF σ 4 s4) o from hK) (gV_eq (show shK (upF σ 4 s4) o from hK) _) ⟨by decide, by decide⟩ (by decide) (fun _ _ => rfl)) rfl ⟨by decide, by decide⟩ rfl rfl kB_X3_reckon rfl kI_X3_reckon kV_X3_reckon kl_X2_26 (by decide) (Nat.le_of_ble_eq_true rfl) (by decide) ?_
              rintro r9 σ' τ' ⟨s4b, t8b, rfl, rfl, rfl⟩
              rw [upF_upF, upT_upT]
              refine r_lcmp C dX2_holds_116 ?_
              refine r_ifne (tgt := 124) C dX2_holds_117 (by decide) (fun c117 => ?_) (fun c117 => ?_)
              · have hres : prC σ c p cell (σ 14 0) = false := by
                  rw [hz1, hz2, if_neg h0, if_neg h1, if_pos h2, hme, nI_clamp (by omega)]
                  refine decide_eq_false (fun x => ?_)
                  rw [x] at c117
                  exact c117 (lg_cmp_self _)
                refine r_iconst (v := 0) C dX2_holds_124 rfl ?_
                exact r_zret C dX2_holds_125 rfl (by decide) (by decide) ⟨s4b, t8b, by rw [hres]; rfl, rfl, rfl⟩
              · have hres : prC σ c p cell (σ 14 0) = true := by
                  rw [hz1, hz2, if_neg h0, if_neg h1, if_pos h2, hme, nI_clamp (by omega)]
                  refine decide_eq_true ?_
                  have e := lg_cmp_0 c117
                  cases hw : gV σ (σ 14 0) m with
                  | none => rw [hw] at e; exact absurd e (oL_ne v)
                  | some x =>
                    rw [hw] at e
                    rw [(fa_wide_eq v x).mp e]
                refine r_iconst (v := 1) C dX2_holds_120 rfl ?_
                refine r_goto (tgt := 125) C dX2_holds_121 (by decide) ?_
                exact r_zret C dX2_holds_125 rfl (by decide) (by decide) ⟨s4b, t8b, by rw [hres]; rfl, rfl, rfl⟩
            · skip
              have h3 : σ 11 c p = 3 := by
                have a := (fa_le _ _).mp hk3
                have b : ¬ (σ 11 c p).toInt < (0 : Int32).toInt := fun q => hk0 ((fa_lt _ _).mpr q)
                have e0 := lv_neT h0 (a := 0) (by decide)
                have e1 := lv_neT h1 (a := 1) (by decide)
                have e2 := lv_neT h2 (a := 2) (by decide)
                have z0 : (0 : Int32).toInt = 0 := by decide
                have z3 : (3 : Int32).toInt = 3 := by decide
                exact (fa_eq _ _).mpr (by omega)
              refine r_swOut (tgt := 126) C dX2_holds_48 (by rw [h3]; decide) (by decide) ?_
              refine r_lload C dX2_holds_126 rfl ?_
              refine r_iload C dX2_holds_128 rfl ?_
              refine r_aload_n C dX2_holds_130 rfl rfl ?_
              refine r_iload_n C dX2_holds_131 rfl rfl ?_
              refine r_aload C dX2_holds_132 rfl ?_
              obtain ⟨m, hm16, hme⟩ := isC_nI (hnn (Or.inr h3))
              rw [hme]
              refine r_callS C dX2_holds_134 (c_rises (upF σ 4 s4) (upT τ 8 t8) cell m v o hcell hm16 (show shK (upF σ 4 s4) o from hK)) rfl kB_X2_rises rfl kS_X2_rises kl_X2_34 (by decide) (Nat.le_of_ble_eq_true rfl) (by decide) ?_
              rintro r9 σ' τ' ⟨s4b, t8b, rfl, rfl, rfl⟩
              rw [upF_upF, upT_upT]
              exact r_zret C dX2_holds_137 rfl (by decide) (b2i_01 _) ⟨s4b, t8b, by
  rw [hz1, hz2, if_neg h0, if_neg h1, if_neg h2, hme, nI_clamp (by omega)]
  rfl, rfl, rfl⟩
      · have e29 := lg_cmp_0 c29
        have hres : prC σ c p cell (σ 14 0) = false := by
          unfold prC prH
          cases hw : gV σ (σ 14 0) cell with
          | none => rfl
          | some x => rw [hw] at e29; exact absurd e29 (oL_ne x)
        refine r_iconst (v := 0) C dX2_holds_32 rfl ?_
        exact r_zret C dX2_holds_33 rfl (by decide) (by decide) ⟨s4, t8, by rw [hres]; rfl, rfl, rfl⟩
    · have n9 := Int32.not_lt.mp c9
      exact absurd (nI_lt hp (by omega)) c9
set_option maxRecDepth 100000 in
set_option maxHeartbeats 4000000 in
theorem c_firstBroken {l : Launch} {D : va_G} {ad : Nat → Nat → Nat} {aC : Nat → ClassId} (σ : gSig) (τ : gTau) (c q cell : Nat) (o : Nat → Nat) (hc : c < 16) (hcell : cell < 16) (hK : shK σ o) (hq : σ 10 c 2 = nI q) (hq4 : q ≤ 4) (hpl : ∀ p, p < q → (¬ σ 11 c p < 0 ∧ σ 11 c p ≤ 3) ∧ (σ 11 c p = 2 ∨ σ 11 c p = 3 → isC (σ 12 c p))) : CZ l D ad aC yX2_firstBroken cX2_firstBroken 5 (some .int) 7 [.ref (ad 10 c), .ref (ad 5 0), .int (nI cell), .ref (ad 14 0)] σ τ (fun r σ' τ' => ∃ s4 t8 res, some (.int res) = r ∧ upF σ 4 s4 = σ' ∧ upT τ 8 t8 = τ' ∧ fbE (fun z => prC σ c z cell (σ 14 0)) q res) := by
  refine CZ.of (own := RX2) (by decide +kernel) rfl (Nat.le_of_ble_eq_true rfl) (fun S C => ?_)
  refine r_iconst (v := 0) C dX2_firstBroken_0 rfl ?_
  refine r_istore C dX2_firstBroken_1 (by decide) rfl ?_
  have loop : ∀ m p, p ≤ q → q - p < m → ∀ (s4 : Nat → Nat → Int32) (t8 : Nat → Int64), (∀ z, z < p → prC σ c z cell (σ 14 0) = true) → S 0 (upF σ 4 s4) (upT τ 8 t8) 3 [some (.ref (ad 10 c)), some (.ref (ad 5 0)), some (.int (nI cell)), some (.ref (ad 14 0)), some (.int (nI p))] [] := by
    intro m
    induction m with
    | zero => intro p _ hm; omega
    | succ m ih =>
      intro p hpq hm s4 t8 hdone
      refine r_iload C dX2_firstBroken_3 rfl ?_
      refine r_aload_n C dX2_firstBroken_5 rfl rfl ?_
      refine r_get (f := 2) (v := .int (nI q)) C dX2_firstBroken_6 ⟨by decide, hc⟩ rfl rfl kU2 (by decide) kf_X2_18 rfl (by rw [← hq]; rfl) ?_
      refine r_icmpge (tgt := 33) C dX2_firstBroken_9 (by decide) (fun c9 => ?_) (fun c9 => ?_)
      · have n9 := Int32.not_lt.mpr c9
        have hpe : p = q := by
          have := (nI_leI (by omega) (by omega)).mp c9
          omega
        subst hpe
        refine r_iconst (v := (-1)) C dX2_firstBroken_33 rfl ?_
        exact r_iret C dX2_firstBroken_34 rfl (by decide) ⟨s4, t8, -1, rfl, rfl, rfl, Or.inl ⟨rfl, hdone⟩⟩
      · have n9 := Int32.not_le.mp c9
        have hp : p < q := (nI_ltI (by omega) (by omega)).mp n9
        refine r_aload_n C dX2_firstBroken_12 rfl rfl ?_
        refine r_iload C dX2_firstBroken_13 rfl ?_
        refine r_aload_n C dX2_firstBroken_15 rfl rfl ?_
        refine r_iload_n C dX2_firstBroken_16 rfl rfl ?_
        refine r_aload_n C dX2_firstBroken_17 rfl rfl ?_
        refine r_callV C dX2_firstBroken_18 (c_holds (upF σ 4 s4) (upT τ 8 t8) c p q cell o hc hcell (show shK (upF σ 4 s4) o from hK) hq hq4 hp hpl) rfl ⟨by decide, hc⟩ rfl rfl kB_X2_holds rfl kI_X2_holds kV_X2_holds kl_X2_22 (by decide) (Nat.le_of_ble_eq_true rfl) (by decide) ?_
        rintro r9 σ' τ' ⟨s4b, t8b, rfl, rfl, rfl⟩
        rw [upF_upF, upT_upT, show prC (upF σ 4 s4) c p cell ((upF σ 4 s4) 14 0) = prC σ c p cell (σ 14 0) from rfl]
        refine r_ifne (tgt := 27) C dX2_firstBroken_21 (by decide) (fun c21 => ?_) (fun c21 => ?_)
        · have h21 := b2i_n.mp c21
          have hnew : ∀ z, z < p + 1 → prC σ c z cell (σ 14 0) = true := fun z hz => by
            by_cases e : z = p
            · subst e; exact h21
            · exact hdone z (by omega)
          refine r_iinc C dX2_firstBroken_27 rfl rfl (by decide) rfl ?_
          refine r_goto (tgt := 3) C dX2_firstBroken_30 (by decide) ?_
          exact r_swk (ih (p + 1) (by omega) (by omega) _ _ hnew) rfl rfl (by rw [← nI_p1]; rfl) rfl
        · have h21 := b2i_0.mp c21
          refine r_iload C dX2_firstBroken_24 rfl ?_
          exact r_iret C dX2_firstBroken_26 rfl (by decide) ⟨s4b, t8b, nI p, rfl, rfl, rfl, Or.inr ⟨p, hp, rfl, h21, hdone⟩⟩
  exact r_swk (loop (q + 1) 0 (by omega) (by omega) (σ 4) (τ 8) (fun z hz => absurd hz (Nat.not_lt_zero z))) (upF_id σ 4) (upT_id τ 8) rfl rfl
def addS (σ : gSig) (c q : Nat) (kd n : Int32) : gSig := up3 (up3 (up3 σ 11 c q kd) 12 c q n) 10 c 2 (nI (q + 1))
set_option maxRecDepth 100000 in
set_option maxHeartbeats 4000000 in
theorem c_add {l : Launch} {D : va_G} {ad : Nat → Nat → Nat} {aC : Nat → ClassId} (σ : gSig) (τ : gTau) (c q : Nat) (kd n : Int32) (hc : c < 16) (hq : σ 10 c 2 = nI q) (hq4 : q ≤ 4) : CZ l D ad aC yX2_add cX2_add 3 (some .boolean) 0 [.ref (ad 10 c), .int kd, .int n] σ τ (gEq (some (.int (b2i (decide (q < 4))))) (if q < 4 then addS σ c q kd n else σ) τ) := by
  refine CZ.of (own := RX2) (by decide +kernel) rfl (Nat.le_of_ble_eq_true rfl) (fun S C => ?_)
  refine r_aload_n C dX2_add_0 rfl rfl ?_
  refine r_get (f := 2) (v := .int (nI q)) C dX2_add_1 ⟨by decide, hc⟩ rfl rfl kU2 (by decide) kf_X2_18 rfl (by rw [← hq]; rfl) ?_
  refine r_iconst (v := 4) C dX2_add_4 rfl ?_
  refine r_icmplt (tgt := 10) C dX2_add_5 (by decide) (fun c5 => ?_) (fun c5 => ?_)
  · have n5 := Int32.not_le.mpr c5
    have hq4l : q < 4 := (nI_ltI (by omega) (by decide)).mp c5
    refine r_aload_n C dX2_add_10 rfl rfl ?_
    refine r_get (f := 0) C dX2_add_11 ⟨by decide, hc⟩ rfl rfl kU2 (by decide) kf_X2_9 rfl rfl ?_
    refine r_aload_n C dX2_add_14 rfl rfl ?_
    refine r_get (f := 2) (v := .int (nI q)) C dX2_add_15 ⟨by decide, hc⟩ rfl rfl kU2 (by decide) kf_X2_18 rfl (by rw [← hq]; rfl) ?_
    refine r_iload_n C dX2_add_18 rfl rfl ?_
    refine r_iastv C dX2_add_19 ⟨by decide, hc⟩ (fun _ => rfl) (vp_in_nI hq4l (by decide)) (nI_clamp (by omega)) ?_
    refine r_aload_n C dX2_add_20 rfl rfl ?_
    refine r_get (f := 1) C dX2_add_21 ⟨by decide, hc⟩ rfl rfl kU2 (by decide) kf_X2_15 rfl rfl ?_
    refine r_aload_n C dX2_add_24 rfl rfl ?_
    refine r_get (f := 2) (v := .int (nI q)) C dX2_add_25 ⟨by decide, hc⟩ rfl rfl kU2 (by decide) kf_X2_18 rfl (by rw [← hq]; rfl) ?_
    refine r_iload_n C dX2_add_28 rfl rfl ?_
    refine r_iastv C dX2_add_29 ⟨by decide, hc⟩ (fun _ => rfl) (vp_in_nI hq4l (by decide)) (nI_clamp (by omega)) ?_
    refine r_aload_n C dX2_add_30 rfl rfl ?_
    refine r_dup C dX2_add_31 rfl ?_
    refine r_get (f := 2) (v := .int (nI q)) C dX2_add_32 ⟨by decide, hc⟩ rfl rfl kU2 (by decide) kf_X2_18 rfl (by rw [← hq]; rfl) ?_
    refine r_iconst (v := 1) C dX2_add_35 rfl ?_
    refine r_iadd C dX2_add_36 ?_
    refine r_put (f := 2) C dX2_add_37 ⟨by decide, hc⟩ rfl rfl kU2 tyX2 tyX2_ok nmX2 (by decide) kf_X2_18 rfl rfl (by decide +kernel) (Nat.le_of_ble_eq_true rfl) (by simp [cel, up3]) ?_
    refine r_iconst (v := 1) C dX2_add_40 rfl ?_
    exact r_zret C dX2_add_41 rfl (by decide) (by decide) ⟨by rw [decide_eq_true hq4l]; rfl, by rw [if_pos hq4l, addS, ← nI_1], rfl⟩
  · have n5 := Int32.not_lt.mp c5
    have hq4n : ¬ q < 4 := fun x => absurd (nI_lt x (by decide)) c5
    refine r_iconst (v := 0) C dX2_add_8 rfl ?_
    exact r_zret C dX2_add_9 rfl (by decide) (by decide) ⟨by rw [decide_eq_false hq4n]; rfl, by rw [if_neg hq4n], rfl⟩
end
section
/-! ===== trials, first half: printed by g22.py ===== -/
theorem r_aaldA {l : Launch} {D : va_G} {ad : Nat → Nat → Nat} {aC : Nat → ClassId} {cc : ByteArray} {own : String} {nL : Nat} {rt : Option FieldType} {d u : Nat} {X : Prop} {PV : Option Value → gSig → gTau → Prop} {PX : String → gSig → gTau → Prop} {S : gS} {n : Nat} {σ : gSig} {τ : gTau} {pc : Nat} {L : gLoc} {st : List Value}
    (C : Cx l D ad aC cc own nL rt d u X PV PX S) {fm c0 t0 len fa j : Nat} {ct : ClassId} {E : FieldType} {i : Int32} (hd : decode cc pc = .ok (.aaload, 1)) (hok : gok fm c0) (hcel : cel ad aC σ τ fm c0 = .inl (ct, len, .inr (.inr (.inr (.inr (fun j => some (ad fa j))))))) (ht : (gty aC)[t0]? = some (ct, .array E)) (hin : vp_in i len) (hj : i.toNatClampNeg = j) (k : S n σ τ (pc + 1) L (.ref (ad fa j) :: st)) : S n σ τ pc L (.int i :: .ref (ad fm c0) :: st) := by
  obtain ⟨p, e, s, m, args, below, meth, c, Q, hx, hb, hml, hown, hts, hr, hlk, hK, hN, hI, hQ, hX, rfl⟩ := C
  intro H locs ls hP hS hl
  obtain ⟨q0, hg, -⟩ := Wd_get (ad := ad) (aC := aC) hok
  have he := hg σ τ
  rw [hcel] at he
  have hlt : i.toNatClampNeg < len := Nat.not_le.mp fun q => hin (Or.inr q)
  subst hj
  exact W.aald (v := .ref (ad fa i.toNatClampNeg)) (ty := .array E) hx hb (hP q0 _ he) ((hK.2 t0 _ ht).1 len (fun j => va_rf (some (ad fa j)))) rfl (fun q => by cases q) (by show ¬ (i < 0 ∨ (arrV _ _ _).slots.size ≤ _); rw [arrV_size]; exact hin) (by show (arrV _ _ _).slots[_]? = _; rw [arrV_read _ _ hlt]; rfl) rfl rfl hd (k H locs ls hP hS hl)
theorem up3_id {σ : gSig} {f c i : Nat} {x : Int32} (h : σ f c i = x) : up3 σ f c i x = σ := by
  funext f' c' i'
  unfold up3
  split
  · rename_i q; rw [q.1, q.2.1, q.2.2, h]
  · rfl
theorem up3_up3 (σ : gSig) (f c i : Nat) (x y : Int32) : up3 (up3 σ f c i x) f c i y = up3 σ f c i y := by
  funext f' c' i'
  unfold up3
  split <;> simp_all
/-- a row of a trial, and the number drawn last -/
def rwS (σ : gSig) (row : Nat → Int32) (d : Nat) : gSig := up3 (upR σ 14 0 row) 13 0 7 (nI d)
theorem rwS_d (σ : gSig) (row : Nat → Int32) (d d' : Nat) : up3 (rwS σ row d) 13 0 7 (nI d') = rwS σ row d' := up3_up3 _ _ _ _ _ _
theorem rwS_row (σ : gSig) (row : Nat → Int32) (d c : Nat) (x : Int32) : up3 (rwS σ row d) 14 0 c x = rwS σ (upd row c x) d := by
  funext f' c' i'
  unfold rwS up3 upR upd
  by_cases h1 : f' = 14
  · subst h1
    by_cases h2 : c' = 0
    · subst h2
      by_cases h3 : i' = c <;> simp [h3]
    · simp [h2]
  · simp [h1]
theorem rwS_id (σ : gSig) (d : Nat) (h : σ 13 0 7 = nI d) : rwS σ (σ 14 0) d = σ := by
  unfold rwS
  rw [upR_id]
  exact up3_id h
abbrev inpC (σ : gSig) : Nat → Bool := fun z => bt (σ 5 0 8) z
theorem frF_d {inp : Nat → Bool} {lo hi : Nat → Int32} {a : Nat} {row : Nat → Int32} {d : Nat} (hd : d < 7875) : ∀ n, (frF inp lo hi a row d n).2 < 7875
  | 0 => hd
  | n + 1 => by
    unfold frF
    split
    · exact nxD_lt (frF_d hd n)
    · exact frF_d hd n
theorem frF_t {inp : Nat → Bool} {lo hi : Nat → Int32} {a : Nat} {row : Nat → Int32} {d c : Nat} (h : inp c = true) : frF inp lo hi a row d (c + 1) = (upd (frF inp lo hi a row d c).1 c (rvV a (lo c) (hi c) (nxD a (frF inp lo hi a row d c).2)), nxD a (frF inp lo hi a row d c).2) := if_pos h
theorem frF_f {inp : Nat → Bool} {lo hi : Nat → Int32} {a : Nat} {row : Nat → Int32} {d c : Nat} (h : inp c = false) : frF inp lo hi a row d (c + 1) = frF inp lo hi a row d c := if_neg (by rw [h]; decide)
set_option maxRecDepth 100000 in
set_option maxHeartbeats 4000000 in
theorem c_untry {l : Launch} {D : va_G} {ad : Nat → Nat → Nat} {aC : Nat → ClassId} (σ : gSig) (τ : gTau) (cs : Int32) : CZ l D ad aC yX4_untry cX4_untry 3 (some .int) 1 [.ref (ad 13 0), .int cs] σ τ (gEq (some (.int (bcJ (σ 13 0 5 &&& cs)))) (up3 σ 13 0 5 (σ 13 0 5 &&& (cs ^^^ (-1)))) τ) := by
  refine CZ.of (own := RX4) (by decide +kernel) rfl (Nat.le_of_ble_eq_true rfl) (fun S C => ?_)
  refine r_aload_n C dX4_untry_0 rfl rfl ?_
  refine r_get (f := 5) C dX4_untry_1 ⟨by decide, by decide⟩ rfl rfl kU4 (by decide) kf_X4_29 rfl rfl ?_
  refine r_iload_n C dX4_untry_4 rfl rfl ?_
  refine r_iand C dX4_untry_5 ?_
  refine r_istore_n C dX4_untry_6 rfl (by decide) rfl ?_
  refine r_aload_n C dX4_untry_7 rfl rfl ?_
  refine r_dup C dX4_untry_8 rfl ?_
  refine r_get (f := 5) C dX4_untry_9 ⟨by decide, by decide⟩ rfl rfl kU4 (by decide) kf_X4_29 rfl rfl ?_
  refine r_iload_n C dX4_untry_12 rfl rfl ?_
  refine r_iconst (v := (-1)) C dX4_untry_13 rfl ?_
  refine r_ixor C dX4_untry_14 ?_
  refine r_iand C dX4_untry_15 ?_
  refine r_put (f := 5) C dX4_untry_16 ⟨by decide, by decide⟩ rfl rfl kU4 tyX4 tyX4_ok nmX4 (by decide) kf_X4_29 rfl rfl (by decide +kernel) (Nat.le_of_ble_eq_true rfl) (by simp [cel, up3]) ?_
  refine r_iload_n C dX4_untry_19 rfl rfl ?_
  refine r_callS C dX4_untry_20 (c_bitCount (up3 σ 13 0 5 (σ 13 0 5 &&& (cs ^^^ (-1)))) τ (σ 13 0 5 &&& cs)) rfl kB_J6_bitCount_0f7a4 rfl kS_J6_bitCount_0f7a4 kl_X4_33 (by decide) (Nat.le_of_ble_eq_true rfl) (by decide) ?_
  rintro r9 σ' τ' ⟨rfl, rfl, rfl⟩
  exact r_iret C dX4_untry_23 rfl (by decide) ⟨rfl, rfl, rfl⟩
set_option maxRecDepth 100000 in
set_option maxHeartbeats 4000000 in
theorem c_rowValue {l : Launch} {D : va_G} {ad : Nat → Nat → Nat} {aC : Nat → ClassId} (σ : gSig) (τ : gTau) (a d : Nat) (lo hi : Int32) (ha : a < 20) (hd : d < 7875) (hd0 : σ 13 0 7 = nI d) (hr : (-1000000 : Int32) ≤ lo ∧ lo ≤ hi ∧ hi ≤ 1000000) : CZ l D ad aC yX4_rowValue cX4_rowValue 5 (some .int) 1 [.ref (ad 13 0), .int (nI a), .int lo, .int hi] σ τ (gEq (some (.int (rvV a lo hi (nxD a d)))) (up3 σ 13 0 7 (nI (nxD a d))) τ) := by
  refine CZ.of (own := RX4) (by decide +kernel) rfl (Nat.le_of_ble_eq_true rfl) (fun S C => ?_)
  refine r_iload_n C dX4_rowValue_0 rfl rfl ?_
  refine r_ifne (tgt := 6) C dX4_rowValue_1 (by decide) (fun c1 => ?_) (fun c1 => ?_)
  · have ha0 : ¬ a = 0 := fun q => c1 (by rw [q]; rfl)
    refine r_iload_n C dX4_rowValue_6 rfl rfl ?_
    refine r_iconst (v := 1) C dX4_rowValue_7 rfl ?_
    refine r_icmpne (tgt := 13) C dX4_rowValue_8 (by decide) (fun c8 => ?_) (fun c8 => ?_)
    · have ha1 : ¬ a = 1 := fun q => c8 (by rw [q]; rfl)
      have hnx : nxD a d = (421 * d + 1663) % 7875 := by unfold nxD; rw [if_neg (by omega)]
      obtain ⟨z, hz1, hz2, hz3, hz4⟩ := rg_size hr
      refine r_aload_n C dX4_rowValue_13 rfl rfl ?_
      refine r_sipush (v := 421) C dX4_rowValue_14 rfl ?_
      refine r_aload_n C dX4_rowValue_17 rfl rfl ?_
      refine r_get (f := 7) (v := .int (nI d)) C dX4_rowValue_18 ⟨by decide, by decide⟩ rfl rfl kU4 (by decide) kf_X4_39 rfl (by rw [← hd0]; rfl) ?_
      refine r_imul C dX4_rowValue_21 ?_
      refine r_sipush (v := 1663) C dX4_rowValue_22 rfl ?_
      refine r_iadd C dX4_rowValue_25 ?_
      refine r_sipush (v := 7875) C dX4_rowValue_26 rfl ?_
      refine r_callS C dX4_rowValue_29 (c_floorMod σ τ (421 * nI d + 1663) 7875 (by decide)) rfl kB_J9_floorMod_7cf53 rfl kS_J9_floorMod_7cf53 kl_X4_88 (by decide) (Nat.le_of_ble_eq_true rfl) (by decide) ?_
      rintro r9 σ' τ' ⟨rfl, rfl, rfl⟩
      rw [nx_drawn hd, ← hnx]
      refine r_put (f := 7) C dX4_rowValue_32 ⟨by decide, by decide⟩ rfl rfl kU4 tyX4 tyX4_ok nmX4 (by decide) kf_X4_39 rfl rfl (by decide +kernel) (Nat.le_of_ble_eq_true rfl) (by simp [cel, up3]) ?_
      refine r_iload_n C dX4_rowValue_35 rfl rfl ?_
      refine r_iload_n C dX4_rowValue_36 rfl rfl ?_
      refine r_isub C dX4_rowValue_37 ?_
      refine r_iconst (v := 1) C dX4_rowValue_38 rfl ?_
      refine r_iadd C dX4_rowValue_39 ?_
      rw [hz3]
      refine r_istore C dX4_rowValue_40 (by decide) rfl ?_
      refine r_iload C dX4_rowValue_42 rfl ?_
      refine r_iconst (v := 1) C dX4_rowValue_44 rfl ?_
      refine r_icmpge (tgt := 52) C dX4_rowValue_45 (by decide) (fun c45 => ?_) (fun c45 => ?_)
      · have n45 := Int32.not_lt.mpr c45
        refine r_iload_n C dX4_rowValue_52 rfl rfl ?_
        refine r_aload_n C dX4_rowValue_53 rfl rfl ?_
        refine r_get (f := 7) (v := .int (nI (nxD a d))) C dX4_rowValue_54 ⟨by decide, by decide⟩ rfl rfl kU4 (by decide) kf_X4_39 rfl (by simp [up3_at]) ?_
        refine r_iload C dX4_rowValue_57 rfl ?_
        refine r_irem C dX4_rowValue_59 (fun q => by have := (nI_eq (b := 0) (by omega) (by decide)).mp q; omega) ?_
        refine r_iadd C dX4_rowValue_60 ?_
        exact r_iret C dX4_rowValue_61 rfl (by decide) ⟨by unfold rvV; rw [if_neg ha0, if_neg ha1, hz3], rfl, rfl⟩
      · have n45 := Int32.not_le.mp c45
        exact absurd ((nI_leI (a := 1) (by decide) (by omega)).mpr hz1) c45
    · have ha1 : a = 1 := (nI_eq (by omega) (by decide)).mp c8
      have hret : rvV a lo hi (nxD a d) = hi := by unfold rvV; rw [if_neg ha0, if_pos ha1]
      have hnx : nxD a d = d := by unfold nxD; rw [if_pos (by omega)]
      refine r_iload_n C dX4_rowValue_11 rfl rfl ?_
      exact r_iret C dX4_rowValue_12 rfl (by decide) ⟨by rw [hret], by rw [hnx]; exact up3_id hd0, rfl⟩
  · have ha0 : a = 0 := (nI_eq (by omega) (by decide)).mp c1
    have hret : rvV a lo hi (nxD a d) = lo := by unfold rvV; rw [if_pos ha0]
    have hnx : nxD a d = d := by unfold nxD; rw [if_pos (by omega)]
    refine r_iload_n C dX4_rowValue_4 rfl rfl ?_
    exact r_iret C dX4_rowValue_5 rfl (by decide) ⟨by rw [hret], by rw [hnx]; exact up3_id hd0, rfl⟩
set_option maxRecDepth 100000 in
set_option maxHeartbeats 4000000 in
theorem c_fillRow {l : Launch} {D : va_G} {ad : Nat → Nat → Nat} {aC : Nat → ClassId} (σ : gSig) (τ : gTau) (a d : Nat) (ha : a < 20) (hd : d < 7875) (hd0 : σ 13 0 7 = nI d) (hrg : rgK (inpC σ) (σ 7 0) (σ 7 1)) : CZ l D ad aC yX4_fillRow cX4_fillRow 4 none 2 [.ref (ad 13 0), .int (nI a), .ref (ad 5 0)] σ τ (gEq none (rwS σ (frF (inpC σ) (σ 7 0) (σ 7 1) a (σ 14 0) d 16).1 (frF (inpC σ) (σ 7 0) (σ 7 1) a (σ 14 0) d 16).2) τ) := by
  refine CZ.of (own := RX4) (by decide +kernel) rfl (Nat.le_of_ble_eq_true rfl) (fun S C => ?_)
  refine r_iconst (v := 0) C dX4_fillRow_0 rfl ?_
  refine r_istore_n C dX4_fillRow_1 rfl (by decide) rfl ?_
  have loop : ∀ m c, c ≤ 16 → 16 - c < m → S 0 (rwS σ (frF (inpC σ) (σ 7 0) (σ 7 1) a (σ 14 0) d c).1 (frF (inpC σ) (σ 7 0) (σ 7 1) a (σ 14 0) d c).2) τ 2 [some (.ref (ad 13 0)), some (.int (nI a)), some (.ref (ad 5 0)), some (.int (nI c))] [] := by
    intro m
    induction m with
    | zero => intro c _ hm; omega
    | succ m ihloop =>
      intro c hiloop hmloop
      refine r_iload_n C dX4_fillRow_2 rfl rfl ?_
      refine r_bipush (v := 16) C dX4_fillRow_3 rfl ?_
      refine r_icmpge (tgt := 45) C dX4_fillRow_5 (by decide) (fun c5 => ?_) (fun c5 => ?_)
      · have n5 := Int32.not_lt.mpr c5
        have hloope : c = 16 := by
          have := (nI_leI (a := 16) (by omega) (by omega)).mp c5
          omega
        subst hloope
        exact r_ret C dX4_fillRow_45 rfl (by decide) ⟨rfl, rfl, rfl⟩
      · have n5 := Int32.not_le.mp c5
        have hloopl : c < 16 := (nI_ltI (b := 16) (by omega) (by omega)).mp n5
        refine r_aload_n C dX4_fillRow_8 rfl rfl ?_
        refine r_iload_n C dX4_fillRow_9 rfl rfl ?_
        refine r_callV C dX4_fillRow_10 (c_isInput (rwS σ (frF (inpC σ) (σ 7 0) (σ 7 1) a (σ 14 0) d c).1 (frF (inpC σ) (σ 7 0) (σ 7 1) a (σ 14 0) d c).2) τ (nI c)) rfl ⟨by decide, by decide⟩ rfl rfl kB_X3_isInput rfl kI_X3_isInput kV_X3_isInput kl_X4_74 (by decide) (Nat.le_of_ble_eq_true rfl) (by decide) ?_
        rintro r9 σ' τ' ⟨rfl, rfl, rfl⟩
        rw [show hasB ((rwS σ (frF (inpC σ) (σ 7 0) (σ 7 1) a (σ 14 0) d c).1 (frF (inpC σ) (σ 7 0) (σ 7 1) a (σ 14 0) d c).2) 5 0 8) (nI c) = bt (σ 5 0 8) c from hasB_bt hloopl _]
        refine r_ifeq (tgt := 39) C dX4_fillRow_13 (by decide) (fun c13 => ?_) (fun c13 => ?_)
        · have h13 : inpC σ c = false := b2i_0.mp c13
          have hstep := frF_f (lo := σ 7 0) (hi := σ 7 1) (a := a) (row := σ 14 0) (d := d) h13
          refine r_iinc C dX4_fillRow_39 rfl rfl (by decide) rfl ?_
          refine r_goto (tgt := 2) C dX4_fillRow_42 (by decide) ?_
          exact r_swk (ihloop (c + 1) (by omega) (by omega)) (by rw [hstep]) rfl (by rw [← nI_p1]; rfl) rfl
        · have h13 : inpC σ c = true := b2i_n.mp c13
          have hstep := frF_t (lo := σ 7 0) (hi := σ 7 1) (a := a) (row := σ 14 0) (d := d) h13
          refine r_aload_n C dX4_fillRow_16 rfl rfl ?_
          refine r_get (f := 0) C dX4_fillRow_17 ⟨by decide, by decide⟩ rfl rfl kU4 (by decide) kf_X4_9 rfl rfl ?_
          refine r_iload_n C dX4_fillRow_20 rfl rfl ?_
          refine r_aload_n C dX4_fillRow_21 rfl rfl ?_
          refine r_iload_n C dX4_fillRow_22 rfl rfl ?_
          refine r_aload_n C dX4_fillRow_23 rfl rfl ?_
          refine r_get (f := 1) C dX4_fillRow_24 ⟨by decide, by decide⟩ rfl rfl kU3 (by decide) kf_X4_78 rfl rfl ?_
          refine r_iload_n C dX4_fillRow_27 rfl rfl ?_
          refine r_ialdv (v := σ 7 0 c) C dX4_fillRow_28 ⟨by decide, by decide⟩ rfl (vp_in_nI hloopl (by decide)) (by rw [nI_clamp (by omega)]; rfl) ?_
          refine r_aload_n C dX4_fillRow_29 rfl rfl ?_
          refine r_get (f := 2) C dX4_fillRow_30 ⟨by decide, by decide⟩ rfl rfl kU3 (by decide) kf_X4_81 rfl rfl ?_
          refine r_iload_n C dX4_fillRow_33 rfl rfl ?_
          refine r_ialdv (v := σ 7 1 c) C dX4_fillRow_34 ⟨by decide, by decide⟩ rfl (vp_in_nI hloopl (by decide)) (by rw [nI_clamp (by omega)]; rfl) ?_
          refine r_callV C dX4_fillRow_35 (c_rowValue (rwS σ (frF (inpC σ) (σ 7 0) (σ 7 1) a (σ 14 0) d c).1 (frF (inpC σ) (σ 7 0) (σ 7 1) a (σ 14 0) d c).2) τ a (frF (inpC σ) (σ 7 0) (σ 7 1) a (σ 14 0) d c).2 (σ 7 0 c) (σ 7 1 c) ha (frF_d hd c) (by unfold rwS; simp [up3_at]) (hrg c hloopl h13)) rfl ⟨by decide, by decide⟩ rfl rfl kB_X4_rowValue rfl kI_X4_rowValue kV_X4_rowValue kl_X4_84 (by decide) (Nat.le_of_ble_eq_true rfl) (by decide) ?_
          rintro r9 σ' τ' ⟨rfl, rfl, rfl⟩
          rw [rwS_d]
          refine r_iastv C dX4_fillRow_38 ⟨by decide, by decide⟩ (fun _ => rfl) (vp_in_nI hloopl (by decide)) (nI_clamp (by omega)) ?_
          rw [rwS_row]
          refine r_iinc C dX4_fillRow_39 rfl rfl (by decide) rfl ?_
          refine r_goto (tgt := 2) C dX4_fillRow_42 (by decide) ?_
          exact r_swk (ihloop (c + 1) (by omega) (by omega)) (by rw [hstep]) rfl (by rw [← nI_p1]; rfl) rfl
  refine r_swk (loop 17 0 (by omega) (by omega)) ?_ rfl rfl rfl
  exact rwS_id σ d hd0
def kfS (σ : gSig) (cell : Nat) (b t inp : Int32) : gSig := upR (up3 (up3 (up3 (up3 (up3 σ 13 0 5 (σ 13 0 5 &&& (b1 cell ^^^ (-1)))) 13 0 6 (σ 13 0 6 ||| b1 cell)) 14 1 cell b) 14 2 cell t) 14 3 cell inp) 16 cell (va_cpy (σ 14 0) (σ 16 cell) 0 0 16)
theorem kl_copy4 : Jvm.Cond.methodLink RX4 68 arraycopyName ∈ wsG := wsG_of (by decide +kernel) (by decide +kernel)
set_option maxRecDepth 100000 in
set_option maxHeartbeats 4000000 in
theorem c_keepFailed {l : Launch} {D : va_G} {ad : Nat → Nat → Nat} {aC : Nat → ClassId} (σ : gSig) (τ : gTau) (cell : Nat) (b t inp : Int32) (hc : cell < 16) : CZ l D ad aC yX4_keepFailed cX4_keepFailed 5 none 1 [.ref (ad 13 0), .int (nI cell), .int b, .int t, .int inp] σ τ (gEq none (kfS σ cell b t inp) τ) := by
  refine CZ.of (own := RX4) (by decide +kernel) rfl (Nat.le_of_ble_eq_true rfl) (fun S C => ?_)
  refine r_aload_n C dX4_keepFailed_0 rfl rfl ?_
  refine r_dup C dX4_keepFailed_1 rfl ?_
  refine r_get (f := 5) C dX4_keepFailed_2 ⟨by decide, by decide⟩ rfl rfl kU4 (by decide) kf_X4_29 rfl rfl ?_
  refine r_iconst (v := 1) C dX4_keepFailed_5 rfl ?_
  refine r_iload_n C dX4_keepFailed_6 rfl rfl ?_
  refine r_ishl C dX4_keepFailed_7 ?_
  refine r_iconst (v := (-1)) C dX4_keepFailed_8 rfl ?_
  refine r_ixor C dX4_keepFailed_9 ?_
  refine r_iand C dX4_keepFailed_10 ?_
  refine r_put (f := 5) C dX4_keepFailed_11 ⟨by decide, by decide⟩ rfl rfl kU4 tyX4 tyX4_ok nmX4 (by decide) kf_X4_29 rfl rfl (by decide +kernel) (Nat.le_of_ble_eq_true rfl) (by simp [cel, up3]) ?_
  refine r_aload_n C dX4_keepFailed_14 rfl rfl ?_
  refine r_dup C dX4_keepFailed_15 rfl ?_
  refine r_get (f := 6) (v := .int (σ 13 0 6)) C dX4_keepFailed_16 ⟨by decide, by decide⟩ rfl rfl kU4 (by decide) kf_X4_65 rfl (by simp [up3_at]) ?_
  refine r_iconst (v := 1) C dX4_keepFailed_19 rfl ?_
  refine r_iload_n C dX4_keepFailed_20 rfl rfl ?_
  refine r_ishl C dX4_keepFailed_21 ?_
  refine r_ior C dX4_keepFailed_22 ?_
  refine r_put (f := 6) C dX4_keepFailed_23 ⟨by decide, by decide⟩ rfl rfl kU4 tyX4 tyX4_ok nmX4 (by decide) kf_X4_65 rfl rfl (by decide +kernel) (Nat.le_of_ble_eq_true rfl) (by simp [cel, up3]) ?_
  refine r_aload_n C dX4_keepFailed_26 rfl rfl ?_
  refine r_get (f := 1) C dX4_keepFailed_27 ⟨by decide, by decide⟩ rfl rfl kU4 (by decide) kf_X4_15 rfl rfl ?_
  refine r_iload_n C dX4_keepFailed_30 rfl rfl ?_
  refine r_iload_n C dX4_keepFailed_31 rfl rfl ?_
  refine r_iastv C dX4_keepFailed_32 ⟨by decide, by decide⟩ (fun _ => rfl) (vp_in_nI hc (by decide)) (nI_clamp (by omega)) ?_
  refine r_aload_n C dX4_keepFailed_33 rfl rfl ?_
  refine r_get (f := 2) C dX4_keepFailed_34 ⟨by decide, by decide⟩ rfl rfl kU4 (by decide) kf_X4_18 rfl rfl ?_
  refine r_iload_n C dX4_keepFailed_37 rfl rfl ?_
  refine r_iload_n C dX4_keepFailed_38 rfl rfl ?_
  refine r_iastv C dX4_keepFailed_39 ⟨by decide, by decide⟩ (fun _ => rfl) (vp_in_nI hc (by decide)) (nI_clamp (by omega)) ?_
  refine r_aload_n C dX4_keepFailed_40 rfl rfl ?_
  refine r_get (f := 3) C dX4_keepFailed_41 ⟨by decide, by decide⟩ rfl rfl kU4 (by decide) kf_X4_21 rfl rfl ?_
  refine r_iload_n C dX4_keepFailed_44 rfl rfl ?_
  refine r_iload C dX4_keepFailed_45 rfl ?_
  refine r_iastv C dX4_keepFailed_47 ⟨by decide, by decide⟩ (fun _ => rfl) (vp_in_nI hc (by decide)) (nI_clamp (by omega)) ?_
  refine r_aload_n C dX4_keepFailed_48 rfl rfl ?_
  refine r_get (f := 0) C dX4_keepFailed_49 ⟨by decide, by decide⟩ rfl rfl kU4 (by decide) kf_X4_9 rfl rfl ?_
  refine r_iconst (v := 0) C dX4_keepFailed_52 rfl ?_
  refine r_aload_n C dX4_keepFailed_53 rfl rfl ?_
  refine r_get (f := 4) C dX4_keepFailed_54 ⟨by decide, by decide⟩ rfl rfl kU4 (by decide) kf_X4_26 rfl rfl ?_
  refine r_iload_n C dX4_keepFailed_57 rfl rfl ?_
  refine r_aaldA (t0 := 5) C dX4_keepFailed_58 ⟨by decide, by decide⟩ rfl rfl (vp_in_nI hc (by decide)) (nI_clamp (by omega)) ?_
  refine r_iconst (v := 0) C dX4_keepFailed_59 rfl ?_
  refine r_bipush (v := 16) C dX4_keepFailed_60 rfl ?_
  refine r_copy (fm := 14) (fm1 := 16) C dX4_keepFailed_62 kl_copy4 kn_copy ks_copy ki_copy ⟨by decide, by decide⟩ ⟨by decide, hc⟩ rfl (fun _ => rfl) (by decide) (by decide) (by decide) (by decide) (by decide) (by decide) (by decide +kernel) ?_
  exact r_ret C dX4_keepFailed_65 rfl (by decide) ⟨rfl, rfl, rfl⟩
end
section
/-! ===== trials, second half: printed by g23.py ===== -/
/-- a row in the trial's row, and the stacks as they are -/
def nvS (σ : gSig) (row : Nat → Int32) (s4 : Nat → Nat → Int32) : gSig := upF (upR σ 14 0 row) 4 s4
theorem nvS_row (σ : gSig) (row : Nat → Int32) (s4 : Nat → Nat → Int32) (c : Nat) (x : Int32) : up3 (nvS σ row s4) 14 0 c x = nvS σ (upd row c x) s4 := by
  funext f' c' i'
  unfold nvS up3 upF upR upd
  by_cases h1 : f' = 14
  · subst h1
    by_cases h2 : c' = 0
    · subst h2
      by_cases h3 : i' = c <;> simp [h3]
    · simp [h2]
  · simp [h1]
theorem nvS_upF (σ : gSig) (row : Nat → Int32) (s4 s4' : Nat → Nat → Int32) : upF (nvS σ row s4) 4 s4' = nvS σ row s4' := upF_upF _ _ _ _
theorem nvS_nvS (σ : gSig) (row row' : Nat → Int32) (s4 s4' : Nat → Nat → Int32) : nvS (nvS σ row s4) row' s4' = nvS σ row' s4' := by
  funext f' c'
  unfold nvS upF upR
  by_cases h1 : f' = 4
  · simp [h1]
  · by_cases h2 : f' = 14 ∧ c' = 0 <;> simp [h1, h2]
theorem nvS_id (σ : gSig) : nvS σ (σ 14 0) (σ 4) = σ := by
  unfold nvS
  rw [upR_id]
  exact upF_id σ 4
theorem upd_back (row : Nat → Int32) (c : Nat) (x : Int32) : upd (upd row c (row c - x)) c (row c - x + x) = row := by
  funext i
  unfold upd
  by_cases h : i = c
  · rw [if_pos h, h]
    exact Int32.sub_add_cancel _ _
  · rw [if_neg h, if_neg h]
theorem dlF_0 (h : (Nat → Int32) → Bool) (row : Nat → Int32) (c : Nat) : ∀ f, dlF h row c f 0 = none
  | 0 => rfl
  | f + 1 => if_pos rfl
theorem dlF_hit {h : (Nat → Int32) → Bool} {row : Nat → Int32} {c f l : Nat} (hl : ¬ l = 0) (hh : h (upd row c (row c - nI l)) = false) : dlF h row c (f + 1) l = some (upd row c (row c - nI l)) := by
  unfold dlF
  rw [if_neg hl, if_pos hh]
theorem dlF_miss {h : (Nat → Int32) → Bool} {row : Nat → Int32} {c f l : Nat} (hl : ¬ l = 0) (hh : h (upd row c (row c - nI l)) = true) : dlF h row c (f + 1) l = dlF h row c f (l / 2) := by
  conv => lhs; unfold dlF
  rw [if_neg hl, if_neg (by rw [hh]; decide)]
theorem ssF_no {inp : Nat → Bool} {lo : Nat → Int32} {h : (Nat → Int32) → Bool} {row : Nat → Int32} {k n : Nat} (hi : inp n = false) : ssF inp lo h row (k + 1) n = ssF inp lo h row k (n + 1) := if_neg (by rw [hi]; decide)
theorem ssF_hit {inp : Nat → Bool} {lo : Nat → Int32} {h : (Nat → Int32) → Bool} {row r : Nat → Int32} {k n : Nat} (hi : inp n = true) (hd : dlF h row n 32 (row n - lo n).toNatClampNeg = some r) : ssF inp lo h row (k + 1) n = some r := by
  unfold ssF
  rw [if_pos hi, hd]
theorem ssF_miss {inp : Nat → Bool} {lo : Nat → Int32} {h : (Nat → Int32) → Bool} {row : Nat → Int32} {k n : Nat} (hi : inp n = true) (hd : dlF h row n 32 (row n - lo n).toNatClampNeg = none) : ssF inp lo h row (k + 1) n = ssF inp lo h row k (n + 1) := by
  conv => lhs; unfold ssF
  rw [if_pos hi, hd]
/-- how far an input is from its lowest value -/
theorem rw_less {inp : Nat → Bool} {lo hi row : Nat → Int32} (hg : rgK inp lo hi) (hw : rwK inp lo hi row) {c : Nat} (hc : c < 16) (hi1 : inp c = true) : ∃ l : Nat, l ≤ 2000000 ∧ row c - lo c = nI l ∧ (row c).toInt = (lo c).toInt + l := by
  obtain ⟨h1, h2, h3⟩ := rg_int (hg c hc hi1)
  obtain ⟨h4, h5⟩ := hw c hc hi1
  rw [fa_le] at h4 h5
  have e := i32_sub (x := row c) (y := lo c) (by omega) (by omega)
  refine ⟨((row c).toInt - (lo c).toInt).toNat, by omega, ?_, by omega⟩
  apply Int32.toInt_inj.mp
  rw [e, nI_toInt (by omega)]
  omega
theorem rw_down {inp : Nat → Bool} {lo hi row : Nat → Int32} (hg : rgK inp lo hi) (hw : rwK inp lo hi row) {c l : Nat} (hc : c < 16) (hi1 : inp c = true) (hl : (lo c).toInt + l ≤ (row c).toInt) : rwK inp lo hi (upd row c (row c - nI l)) := by
  intro d hd hd1
  unfold upd
  by_cases e : d = c
  · subst e
    rw [if_pos rfl]
    obtain ⟨h1, h2, h3⟩ := rg_int (hg d hd hi1)
    obtain ⟨h4, h5⟩ := hw d hd hi1
    rw [fa_le] at h4 h5
    have e2 : (row d - nI l).toInt = (row d).toInt - l := by
      rw [fb_subI, nI_toInt (by omega)]
      · rw [nI_toInt (by omega)]; omega
      · rw [nI_toInt (by omega)]; omega
    rw [fa_le, fa_le, e2]
    omega
  · rw [if_neg e]
    exact hw d hd hd1
theorem dlF_rw {inp : Nat → Bool} {lo hi : Nat → Int32} {h : (Nat → Int32) → Bool} {row : Nat → Int32} (hg : rgK inp lo hi) (hw : rwK inp lo hi row) {c : Nat} (hc : c < 16) (hi1 : inp c = true) : ∀ f l r, (lo c).toInt + (l : Nat) ≤ (row c).toInt → dlF h row c f l = some r → rwK inp lo hi r := by
  intro f
  induction f with
  | zero => intro l r _ hd; cases hd
  | succ f ih =>
    intro l r hl hd
    by_cases h0 : l = 0
    · subst h0; rw [dlF_0] at hd; cases hd
    · cases hh : h (upd row c (row c - nI l)) with
      | false =>
        rw [dlF_hit h0 hh] at hd
        cases hd
        exact rw_down hg hw hc hi1 hl
      | true =>
        rw [dlF_miss h0 hh] at hd
        exact ih (l / 2) r (by omega) hd
theorem ssF_rw {inp : Nat → Bool} {lo hi : Nat → Int32} {h : (Nat → Int32) → Bool} {row : Nat → Int32} (hg : rgK inp lo hi) (hw : rwK inp lo hi row) : ∀ k n r, n + k ≤ 16 → ssF inp lo h row k n = some r → rwK inp lo hi r := by
  intro k
  induction k with
  | zero => intro n r _ hs; cases hs
  | succ k ih =>
    intro n r hn hs
    cases hi1 : inp n with
    | false => rw [ssF_no hi1] at hs; exact ih (n + 1) r (by omega) hs
    | true =>
      obtain ⟨l, hl, e1, e2⟩ := rw_less hg hw (show n < 16 by omega) hi1
      cases hd : dlF h row n 32 (row n - lo n).toNatClampNeg with
      | none => rw [ssF_miss hi1 hd] at hs; exact ih (n + 1) r (by omega) hs
      | some r2 =>
        rw [ssF_hit hi1 hd] at hs
        cases hs
        rw [e1, nI_clamp (by omega)] at hd
        exact dlF_rw hg hw (by omega) hi1 32 l r (by omega) hd
/-- one step smaller of a trial's row -/
def ssC (σ : gSig) (c p cell : Nat) (row : Nat → Int32) : Option (Nat → Int32) := ssF (inpC σ) (σ 7 0) (prC σ c p cell) row 16 0
set_option maxRecDepth 100000 in
set_option maxHeartbeats 4000000 in
theorem c_stepSmaller {l : Launch} {D : va_G} {ad : Nat → Nat → Nat} {aC : Nat → ClassId} (σ : gSig) (τ : gTau) (c p q cell : Nat) (o : Nat → Nat) (hc : c < 16) (hcell : cell < 16) (hK : shK σ o) (hq : σ 10 c 2 = nI q) (hq4 : q ≤ 4) (hp : p < q) (hpl : ∀ p, p < q → (¬ σ 11 c p < 0 ∧ σ 11 c p ≤ 3) ∧ (σ 11 c p = 2 ∨ σ 11 c p = 3 → isC (σ 12 c p))) (hrg : rgK (inpC σ) (σ 7 0) (σ 7 1)) (hrw : rwK (inpC σ) (σ 7 0) (σ 7 1) (σ 14 0)) : CZ l D ad aC yX4_stepSmaller cX4_stepSmaller 7 (some .boolean) 7 [.ref (ad 13 0), .int (nI p), .ref (ad 10 c), .ref (ad 5 0), .int (nI cell)] σ τ (fun r σ' τ' => ∃ s4 t8, some (.int (b2i (ssC σ c p cell (σ 14 0)).isSome)) = r ∧ nvS σ ((ssC σ c p cell (σ 14 0)).getD (σ 14 0)) s4 = σ' ∧ upT τ 8 t8 = τ') := by
  refine CZ.of (own := RX4) (by decide +kernel) rfl (Nat.le_of_ble_eq_true rfl) (fun S C => ?_)
  refine r_iconst (v := 0) C dX4_stepSmaller_0 rfl ?_
  refine r_istore C dX4_stepSmaller_1 (by decide) rfl ?_
  have lp1 : ∀ m i, i ≤ 16 → 16 - i < m → ∀ (s4 : Nat → Nat → Int32) (t8 : Nat → Int64), ssC σ c p cell (σ 14 0) = ssF (inpC σ) (σ 7 0) (prC σ c p cell) (σ 14 0) (16 - i) i → S 0 (nvS σ (σ 14 0) s4) (upT τ 8 t8) 3 [some (.ref (ad 13 0)), some (.int (nI p)), some (.ref (ad 10 c)), some (.ref (ad 5 0)), some (.int (nI cell)), some (.int (nI i)), none] [] := by
    intro m
    induction m with
    | zero => intro i _ hm; omega
    | succ m ih1 =>
      intro i hi hm s4 t8 hss
      refine r_iload C dX4_stepSmaller_3 rfl ?_
      refine r_bipush (v := 16) C dX4_stepSmaller_5 rfl ?_
      refine r_icmpge (tgt := 100) C dX4_stepSmaller_7 (by decide) (fun c7 => ?_) (fun c7 => ?_)
      · have n7 := Int32.not_lt.mpr c7
        have hi16 : i = 16 := by
          have := (nI_leI (a := 16) (by omega) (by omega)).mp c7
          omega
        subst hi16
        have hnone : ssC σ c p cell (σ 14 0) = none := hss
        refine r_iconst (v := 0) C dX4_stepSmaller_100 rfl ?_
        exact r_zret C dX4_stepSmaller_101 rfl (by decide) (by decide) ⟨s4, t8, by rw [hnone]; rfl, by rw [hnone]; rfl, rfl⟩
      · have n7 := Int32.not_le.mp c7
        have hil : i < 16 := (nI_ltI (b := 16) (by omega) (by omega)).mp n7
        obtain ⟨kz, hkz⟩ : ∃ z, 16 - i = z + 1 := ⟨16 - i - 1, by omega⟩
        have hkz2 : kz = 16 - (i + 1) := by omega
        refine r_aload_n C dX4_stepSmaller_10 rfl rfl ?_
        refine r_iload C dX4_stepSmaller_11 rfl ?_
        refine r_callV C dX4_stepSmaller_13 (c_isInput (nvS σ (σ 14 0) s4) (upT τ 8 t8) (nI i)) rfl ⟨by decide, by decide⟩ rfl rfl kB_X3_isInput rfl kI_X3_isInput kV_X3_isInput kl_X4_74 (by decide) (Nat.le_of_ble_eq_true rfl) (by decide) ?_
        rintro r9 σ' τ' ⟨rfl, rfl, rfl⟩
        rw [show hasB ((nvS σ (σ 14 0) s4) 5 0 8) (nI i) = bt (σ 5 0 8) i from hasB_bt hil _]
        refine r_ifne (tgt := 22) C dX4_stepSmaller_16 (by decide) (fun c16 => ?_) (fun c16 => ?_)
        · have h16 : inpC σ i = true := b2i_n.mp c16
          obtain ⟨l0, hl0, hl1, hl2⟩ := rw_less hrg hrw hil h16
          refine r_aload_n C dX4_stepSmaller_22 rfl rfl ?_
          refine r_get (f := 0) C dX4_stepSmaller_23 ⟨by decide, by decide⟩ rfl rfl kU4 (by decide) kf_X4_9 rfl rfl ?_
          refine r_iload C dX4_stepSmaller_26 rfl ?_
          refine r_ialdv (v := σ 14 0 i) C dX4_stepSmaller_28 ⟨by decide, by decide⟩ rfl (vp_in_nI hil (by decide)) (by rw [nI_clamp (by omega)]; rfl) ?_
          refine r_aload_n C dX4_stepSmaller_29 rfl rfl ?_
          refine r_get (f := 1) C dX4_stepSmaller_30 ⟨by decide, by decide⟩ rfl rfl kU3 (by decide) kf_X4_78 rfl rfl ?_
          refine r_iload C dX4_stepSmaller_33 rfl ?_
          refine r_ialdv (v := σ 7 0 i) C dX4_stepSmaller_35 ⟨by decide, by decide⟩ rfl (vp_in_nI hil (by decide)) (by rw [nI_clamp (by omega)]; rfl) ?_
          refine r_isub C dX4_stepSmaller_36 ?_
          rw [hl1]
          refine r_istore C dX4_stepSmaller_37 (by decide) rfl ?_
          have lp2 : ∀ m l, l < m → ∀ (f : Nat) (s4 : Nat → Nat → Int32) (t8 : Nat → Int64), l < 2 ^ f → l ≤ l0 → dlF (prC σ c p cell) (σ 14 0) i 32 l0 = dlF (prC σ c p cell) (σ 14 0) i f l → S 0 (nvS σ (σ 14 0) s4) (upT τ 8 t8) 39 [some (.ref (ad 13 0)), some (.int (nI p)), some (.ref (ad 10 c)), some (.ref (ad 5 0)), some (.int (nI cell)), some (.int (nI i)), some (.int (nI l))] [] := by
            intro m
            induction m with
            | zero => intro l hl; omega
            | succ m ih2 =>
              intro l hlm f s4 t8 hf hll0 hdl
              refine r_iload C dX4_stepSmaller_39 rfl ?_
              refine r_ifle (tgt := 94) C dX4_stepSmaller_41 (by decide) (fun c41 => ?_) (fun c41 => ?_)
              · have hlz : l = 0 := by
                  have := (nI_leI (b := 0) (by omega) (by decide)).mp c41
                  omega
                have hss2 : ssC σ c p cell (σ 14 0) = ssF (inpC σ) (σ 7 0) (prC σ c p cell) (σ 14 0) (16 - (i + 1)) (i + 1) := by
                  rw [hss, hkz, ssF_miss h16, hkz2]
                  rw [show σ 14 0 i - σ 7 0 i = nI l0 from hl1, nI_clamp (by omega), hdl, hlz, dlF_0]
                refine r_iinc C dX4_stepSmaller_94 rfl rfl (by decide) rfl ?_
                refine r_goto (tgt := 3) C dX4_stepSmaller_97 (by decide) ?_
                refine r_drop C [6] ?_
                exact r_swk (ih1 (i + 1) (by omega) (by omega) _ _ hss2) rfl rfl (by rw [← nI_p1]; rfl) rfl
              · have hlz : ¬ l = 0 := fun q => c41 (by rw [q]; decide)
                obtain ⟨f, rfl⟩ : ∃ z, f = z + 1 := by
                  cases f with
                  | zero => simp at hf; omega
                  | succ f => exact ⟨f, rfl⟩
                refine r_aload_n C dX4_stepSmaller_44 rfl rfl ?_
                refine r_get (f := 0) C dX4_stepSmaller_45 ⟨by decide, by decide⟩ rfl rfl kU4 (by decide) kf_X4_9 rfl rfl ?_
                refine r_iload C dX4_stepSmaller_48 rfl ?_
                refine r_dup2 C dX4_stepSmaller_50 rfl rfl ?_
                refine r_ialdv (v := σ 14 0 i) C dX4_stepSmaller_51 ⟨by decide, by decide⟩ rfl (vp_in_nI hil (by decide)) (by rw [nI_clamp (by omega)]; rfl) ?_
                refine r_iload C dX4_stepSmaller_52 rfl ?_
                refine r_isub C dX4_stepSmaller_54 ?_
                refine r_iastv C dX4_stepSmaller_55 ⟨by decide, by decide⟩ (fun _ => rfl) (vp_in_nI hil (by decide)) (nI_clamp (by omega)) ?_
                rw [nvS_row]
                refine r_aload_n C dX4_stepSmaller_56 rfl rfl ?_
                refine r_iload_n C dX4_stepSmaller_57 rfl rfl ?_
                refine r_aload_n C dX4_stepSmaller_58 rfl rfl ?_
                refine r_iload C dX4_stepSmaller_59 rfl ?_
                refine r_aload_n C dX4_stepSmaller_61 rfl rfl ?_
                refine r_get (f := 0) C dX4_stepSmaller_62 ⟨by decide, by decide⟩ rfl rfl kU4 (by decide) kf_X4_9 rfl rfl ?_
                refine r_callV C dX4_stepSmaller_65 (c_holds (nvS σ (upd (σ 14 0) i (σ 14 0 i - nI l)) s4) (upT τ 8 t8) c p q cell o hc hcell (show shK (nvS σ (upd (σ 14 0) i (σ 14 0 i - nI l)) s4) o from hK) hq hq4 hp hpl) rfl ⟨by decide, hc⟩ rfl rfl kB_X2_holds rfl kI_X2_holds kV_X2_holds kl_X4_98 (by decide) (Nat.le_of_ble_eq_true rfl) (by decide) ?_
                rintro r9 σ' τ' ⟨s4b, t8b, rfl, rfl, rfl⟩
                rw [nvS_upF, upT_upT, show prC (nvS σ (upd (σ 14 0) i (σ 14 0 i - nI l)) s4) c p cell ((nvS σ (upd (σ 14 0) i (σ 14 0 i - nI l)) s4) 14 0) = prC σ c p cell (upd (σ 14 0) i (σ 14 0 i - nI l)) from rfl]
                refine r_ifne (tgt := 73) C dX4_stepSmaller_68 (by decide) (fun c68 => ?_) (fun c68 => ?_)
                · have h68 := b2i_n.mp c68
                  have hdl2 : dlF (prC σ c p cell) (σ 14 0) i 32 l0 = dlF (prC σ c p cell) (σ 14 0) i f (l / 2) := by rw [hdl]; exact dlF_miss hlz h68
                  refine r_aload_n C dX4_stepSmaller_73 rfl rfl ?_
                  refine r_get (f := 0) C dX4_stepSmaller_74 ⟨by decide, by decide⟩ rfl rfl kU4 (by decide) kf_X4_9 rfl rfl ?_
                  refine r_iload C dX4_stepSmaller_77 rfl ?_
                  refine r_dup2 C dX4_stepSmaller_79 rfl rfl ?_
                  refine r_ialdv (v := σ 14 0 i - nI l) C dX4_stepSmaller_80 ⟨by decide, by decide⟩ rfl (vp_in_nI hil (by decide)) (by rw [nI_clamp (by omega)]; show upd (σ 14 0) i _ i = _; unfold upd; rw [if_pos rfl]) ?_
                  refine r_iload C dX4_stepSmaller_81 rfl ?_
                  refine r_iadd C dX4_stepSmaller_83 ?_
                  refine r_iastv C dX4_stepSmaller_84 ⟨by decide, by decide⟩ (fun _ => rfl) (vp_in_nI hil (by decide)) (nI_clamp (by omega)) ?_
                  rw [nvS_row, upd_back]
                  refine r_iload C dX4_stepSmaller_85 rfl ?_
                  refine r_iconst (v := 2) C dX4_stepSmaller_87 rfl ?_
                  refine r_idiv C dX4_stepSmaller_88 (by decide) ?_
                  rw [show nI l / 2 = nI (l / 2) from nI_div (k := 2) (by omega) (by decide)]
                  refine r_istore C dX4_stepSmaller_89 (by decide) rfl ?_
                  refine r_goto (tgt := 39) C dX4_stepSmaller_91 (by decide) ?_
                  exact r_swk (ih2 (l / 2) (by omega) f s4b t8b (by rw [Nat.pow_succ] at hf; omega) (by omega) hdl2) rfl rfl rfl rfl
                · have h68 := b2i_0.mp c68
                  have hsome : ssC σ c p cell (σ 14 0) = some (upd (σ 14 0) i (σ 14 0 i - nI l)) := by
                    rw [hss, hkz]
                    refine ssF_hit h16 ?_
                    rw [show σ 14 0 i - σ 7 0 i = nI l0 from hl1, nI_clamp (by omega), hdl]
                    exact dlF_hit hlz h68
                  refine r_iconst (v := 1) C dX4_stepSmaller_71 rfl ?_
                  exact r_zret C dX4_stepSmaller_72 rfl (by decide) (by decide) ⟨s4b, t8b, by rw [hsome]; rfl, by rw [hsome]; rfl, rfl⟩
          exact lp2 (l0 + 1) l0 (by omega) 32 s4 t8 (by omega) (by omega) rfl
        · have h16 : inpC σ i = false := b2i_0.mp c16
          have hss2 : ssC σ c p cell (σ 14 0) = ssF (inpC σ) (σ 7 0) (prC σ c p cell) (σ 14 0) (16 - (i + 1)) (i + 1) := by rw [hss, hkz, ssF_no h16, hkz2]
          refine r_goto (tgt := 94) C dX4_stepSmaller_19 (by decide) ?_
          refine r_iinc C dX4_stepSmaller_94 rfl rfl (by decide) rfl ?_
          refine r_goto (tgt := 3) C dX4_stepSmaller_97 (by decide) ?_
          refine r_drop C [6] ?_
          exact r_swk (ih1 (i + 1) (by omega) (by omega) _ _ hss2) rfl rfl (by rw [← nI_p1]; rfl) rfl
  exact r_swk (lp1 17 0 (by omega) (by omega) (σ 4) (τ 8) rfl) (nvS_id σ) (upT_id τ 8) rfl rfl
theorem msF_none {step : (Nat → Int32) → Option (Nat → Int32)} {k : Nat} {row : Nat → Int32} (h : step row = none) : msF step (k + 1) row = (0, row) := by
  unfold msF
  rw [h]
theorem msF_some {step : (Nat → Int32) → Option (Nat → Int32)} {k : Nat} {row r : Nat → Int32} (h : step row = some r) : msF step (k + 1) row = ((msF step k r).1 + 1, (msF step k r).2) := by
  conv => lhs; unfold msF
  rw [h]
set_option maxRecDepth 100000 in
set_option maxHeartbeats 4000000 in
theorem c_makeSmaller {l : Launch} {D : va_G} {ad : Nat → Nat → Nat} {aC : Nat → ClassId} (σ : gSig) (τ : gTau) (c p q cell : Nat) (o : Nat → Nat) (hc : c < 16) (hcell : cell < 16) (hK : shK σ o) (hq : σ 10 c 2 = nI q) (hq4 : q ≤ 4) (hp : p < q) (hpl : ∀ p, p < q → (¬ σ 11 c p < 0 ∧ σ 11 c p ≤ 3) ∧ (σ 11 c p = 2 ∨ σ 11 c p = 3 → isC (σ 12 c p))) (hrg : rgK (inpC σ) (σ 7 0) (σ 7 1)) (hrw : rwK (inpC σ) (σ 7 0) (σ 7 1) (σ 14 0)) : CZ l D ad aC yX4_makeSmaller cX4_makeSmaller 6 (some .int) 8 [.ref (ad 13 0), .int (nI p), .ref (ad 10 c), .ref (ad 5 0), .int (nI cell)] σ τ (fun r σ' τ' => ∃ s4 t8, some (.int (nI (msF (ssC σ c p cell) 60 (σ 14 0)).1)) = r ∧ nvS σ (msF (ssC σ c p cell) 60 (σ 14 0)).2 s4 = σ' ∧ upT τ 8 t8 = τ') := by
  refine CZ.of (own := RX4) (by decide +kernel) rfl (Nat.le_of_ble_eq_true rfl) (fun S C => ?_)
  refine r_iconst (v := 0) C dX4_makeSmaller_0 rfl ?_
  refine r_istore C dX4_makeSmaller_1 (by decide) rfl ?_
  have lp : ∀ m i, i ≤ 60 → 60 - i < m → ∀ (row : Nat → Int32) (s4 : Nat → Nat → Int32) (t8 : Nat → Int64), rwK (inpC σ) (σ 7 0) (σ 7 1) row → (msF (ssC σ c p cell) 60 (σ 14 0)) = ((msF (ssC σ c p cell) (60 - i) row).1 + i, (msF (ssC σ c p cell) (60 - i) row).2) → S 0 (nvS σ row s4) (upT τ 8 t8) 3 [some (.ref (ad 13 0)), some (.int (nI p)), some (.ref (ad 10 c)), some (.ref (ad 5 0)), some (.int (nI cell)), some (.int (nI i))] [] := by
    intro m
    induction m with
    | zero => intro i _ hm; omega
    | succ m ih =>
      intro i hi hm row s4 t8 hrw hms
      refine r_iload C dX4_makeSmaller_3 rfl ?_
      refine r_bipush (v := 60) C dX4_makeSmaller_5 rfl ?_
      refine r_icmpge (tgt := 31) C dX4_makeSmaller_7 (by decide) (fun c7 => ?_) (fun c7 => ?_)
      · have n7 := Int32.not_lt.mpr c7
        have hi60 : i = 60 := by
          have := (nI_leI (a := 60) (by omega) (by omega)).mp c7
          omega
        subst hi60
        refine r_bipush (v := 60) C dX4_makeSmaller_31 rfl ?_
        exact r_iret C dX4_makeSmaller_33 rfl (by decide) ⟨s4, t8, by rw [hms]; rfl, by rw [hms]; rfl, rfl⟩
      · have n7 := Int32.not_le.mp c7
        have hil : i < 60 := (nI_ltI (b := 60) (by omega) (by omega)).mp n7
        obtain ⟨kz, hkz⟩ : ∃ z, 60 - i = z + 1 := ⟨60 - i - 1, by omega⟩
        have hkz2 : kz = 60 - (i + 1) := by omega
        refine r_aload_n C dX4_makeSmaller_10 rfl rfl ?_
        refine r_iload_n C dX4_makeSmaller_11 rfl rfl ?_
        refine r_aload_n C dX4_makeSmaller_12 rfl rfl ?_
        refine r_aload_n C dX4_makeSmaller_13 rfl rfl ?_
        refine r_iload C dX4_makeSmaller_14 rfl ?_
        refine r_callV C dX4_makeSmaller_16 (c_stepSmaller (nvS σ row s4) (upT τ 8 t8) c p q cell o hc hcell (show shK (nvS σ row s4) o from hK) hq hq4 hp hpl hrg hrw) rfl ⟨by decide, by decide⟩ rfl rfl kB_X4_stepSmaller rfl kI_X4_stepSmaller kV_X4_stepSmaller kl_X4_94 (by decide) (Nat.le_of_ble_eq_true rfl) (by decide) ?_
        rintro r9 σ' τ' ⟨s4b, t8b, rfl, rfl, rfl⟩
        rw [nvS_nvS, upT_upT, show ssC (nvS σ row s4) c p cell ((nvS σ row s4) 14 0) = ssC σ c p cell row from rfl]
        refine r_ifne (tgt := 25) C dX4_makeSmaller_19 (by decide) (fun c19 => ?_) (fun c19 => ?_)
        · have h19 := b2i_n.mp c19
          obtain ⟨r, hr⟩ : ∃ r, ssC σ c p cell row = some r := Option.isSome_iff_exists.mp h19
          rw [hr]
          have hrw2 : rwK (inpC σ) (σ 7 0) (σ 7 1) ((some r).getD row) := ssF_rw hrg hrw 16 0 r (by omega) hr
          have hms2 : (msF (ssC σ c p cell) 60 (σ 14 0)) = ((msF (ssC σ c p cell) (60 - (i + 1)) ((some r).getD row)).1 + (i + 1), (msF (ssC σ c p cell) (60 - (i + 1)) ((some r).getD row)).2) := by
            rw [hms, hkz, msF_some hr, hkz2, Nat.add_right_comm, Nat.add_assoc]
            rfl
          refine r_iinc C dX4_makeSmaller_25 rfl rfl (by decide) rfl ?_
          refine r_goto (tgt := 3) C dX4_makeSmaller_28 (by decide) ?_
          exact r_swk (ih (i + 1) (by omega) (by omega) _ _ _ hrw2 hms2) rfl rfl (by rw [← nI_p1]; rfl) rfl
        · have h19 := b2i_0.mp c19
          have hnone : ssC σ c p cell row = none := by
            cases hz : ssC σ c p cell row with
            | none => rfl
            | some r => rw [hz] at h19; cases h19
          rw [hkz, msF_none hnone] at hms
          refine r_iload C dX4_makeSmaller_22 rfl ?_
          exact r_iret C dX4_makeSmaller_24 rfl (by decide) ⟨s4b, t8b, by rw [hms, Nat.zero_add], by rw [hms, hnone]; rfl, rfl⟩
  exact r_swk (lp 61 0 (by omega) (by omega) (σ 14 0) (σ 4) (τ 8) hrw rfl) (nvS_id σ) (upT_id τ 8) rfl rfl
end
section
/-! ===== a trial: printed by g24.py ===== -/
def tS (σ : gSig) (row : Nat → Int32) (d : Nat) (s4 : Nat → Nat → Int32) : gSig := upF (rwS σ row d) 4 s4
theorem tS_rw (σ : gSig) (row row' : Nat → Int32) (d d' : Nat) (s4 : Nat → Nat → Int32) : rwS (tS σ row d s4) row' d' = tS σ row' d' s4 := by
  funext f' c' i'
  unfold rwS tS rwS upF up3 upR
  by_cases h1 : f' = 4
  · simp [h1]
  · by_cases h2 : f' = 13
    · subst h2
      by_cases h3 : c' = 0 ∧ i' = 7
      · simp [h3]
      · simp [h3]
    · by_cases h3 : f' = 14 ∧ c' = 0 <;> simp [h1, h2, h3]
theorem tS_upF (σ : gSig) (row : Nat → Int32) (d : Nat) (s4 s4' : Nat → Nat → Int32) : upF (tS σ row d s4) 4 s4' = tS σ row d s4' := upF_upF _ _ _ _
theorem tS_nv (σ : gSig) (row row' : Nat → Int32) (d : Nat) (s4 s4' : Nat → Nat → Int32) : nvS (tS σ row d s4) row' s4' = tS σ row' d s4' := by
  funext f' c' i'
  unfold nvS tS rwS upF up3 upR
  by_cases h1 : f' = 4
  · simp [h1]
  · by_cases h2 : f' = 14
    · subst h2
      by_cases h3 : c' = 0 <;> simp [h3]
    · simp [h1, h2]
theorem tS_id (σ : gSig) (d : Nat) (h : σ 13 0 7 = nI d) : tS σ (σ 14 0) d (σ 4) = σ := by
  unfold tS
  rw [rwS_id σ d h]
  exact upF_id σ 4
theorem tS_d (σ : gSig) (row : Nat → Int32) (d : Nat) (s4 : Nat → Nat → Int32) : (tS σ row d s4) 13 0 7 = nI d := by simp [tS, rwS, upF, up3_at]
theorem tS_ne (σ : gSig) (row : Nat → Int32) (d : Nat) (s4 : Nat → Nat → Int32) {f : Nat} (h1 : f ≠ 4) (h2 : f ≠ 13) (h3 : f ≠ 14) : (tS σ row d s4) f = σ f := by
  funext c i
  simp [tS, rwS, upF, up3, upR, h1, h2, h3]
theorem tS_row (σ : gSig) (row : Nat → Int32) (d : Nat) (s4 : Nat → Nat → Int32) : (tS σ row d s4) 14 0 = row := by
  funext i
  simp [tS, rwS, upF, up3, upR]
theorem tS_13 (σ : gSig) (row : Nat → Int32) (d : Nat) (s4 : Nat → Nat → Int32) {i : Nat} (h : i ≠ 7) : (tS σ row d s4) 13 0 i = σ 13 0 i := by simp [tS, rwS, upF, up3, upR, h]
/-- what speaks of the sheet alone -/
theorem shK_of {σ σ' : gSig} {o : Nat → Nat} (h1 : σ' 1 = σ 1) (h2 : σ' 2 = σ 2) (h3 : σ' 3 = σ 3) (h5 : σ' 5 = σ 5) (h7 : σ' 7 = σ 7) (h : shK σ o) : shK σ' o := by
  unfold shK rdK frK flen at *
  rw [h1, h2, h3, h5, h7]
  exact h
theorem gV_of {σ σ' : gSig} (h1 : σ' 1 = σ 1) (h2 : σ' 2 = σ 2) (h3 : σ' 3 = σ 3) (h5 : σ' 5 = σ 5) : gV σ' = gV σ := by
  unfold gV flen
  rw [h1, h2, h3, h5]
theorem prC_of {σ σ' : gSig} (h1 : σ' 1 = σ 1) (h2 : σ' 2 = σ 2) (h3 : σ' 3 = σ 3) (h5 : σ' 5 = σ 5) (h7 : σ' 7 = σ 7) (h11 : σ' 11 = σ 11) (h12 : σ' 12 = σ 12) : prC σ' = prC σ := by
  funext c p cell row
  unfold prC
  rw [gV_of h1 h2 h3 h5, h5, h7, h11, h12]
theorem ssC_of {σ σ' : gSig} (h1 : σ' 1 = σ 1) (h2 : σ' 2 = σ 2) (h3 : σ' 3 = σ 3) (h5 : σ' 5 = σ 5) (h7 : σ' 7 = σ 7) (h11 : σ' 11 = σ 11) (h12 : σ' 12 = σ 12) : ssC σ' = ssC σ := by
  funext c p cell row
  unfold ssC
  rw [prC_of h1 h2 h3 h5 h7 h11 h12, h7]
  unfold inpC
  rw [h5]
/-- the rows of a trial -/
def trR (inp : Nat → Bool) (lo hi : Nat → Int32) (row : Nat → Int32) (d : Nat) : Nat → (Nat → Int32) × Nat
  | 0 => (row, d)
  | a + 1 => frF inp lo hi a (trR inp lo hi row d a).1 (trR inp lo hi row d a).2 16
theorem trR_d {inp : Nat → Bool} {lo hi : Nat → Int32} {row : Nat → Int32} {d : Nat} (hd : d < 7875) : ∀ a, (trR inp lo hi row d a).2 < 7875
  | 0 => hd
  | a + 1 => frF_d (trR_d hd a) 16
theorem rv_rg {a d : Nat} {lo hi : Int32} (hd : d < 7875) (h : (-1000000 : Int32) ≤ lo ∧ lo ≤ hi ∧ hi ≤ 1000000) : lo ≤ rvV a lo hi d ∧ rvV a lo hi d ≤ hi := by
  have hb := rg_int h
  unfold rvV
  split
  · exact ⟨Int32.le_refl _, h.2.1⟩
  · split
    · exact ⟨h.2.1, Int32.le_refl _⟩
    · obtain ⟨z, hz1, hz2, hz3, hz4⟩ := rg_size h
      rw [hz3, nI_rem (by omega) (by omega)]
      have hm := Nat.mod_lt d (show z > 0 by omega)
      generalize d % z = w at hm
      have e : (lo + nI w).toInt = lo.toInt + w := by
        rw [fb_addI, nI_toInt (by omega)]
        · rw [nI_toInt (by omega)]; omega
        · rw [nI_toInt (by omega)]; omega
      rw [fa_le, fa_le, e]
      omega
theorem frF_rw {inp : Nat → Bool} {lo hi : Nat → Int32} {a : Nat} {row : Nat → Int32} {d : Nat} (hd : d < 7875) (hg : rgK inp lo hi) : ∀ n, n ≤ 16 → ∀ c, c < n → inp c = true → lo c ≤ (frF inp lo hi a row d n).1 c ∧ (frF inp lo hi a row d n).1 c ≤ hi c
  | 0, _, c, h, _ => absurd h (Nat.not_lt_zero c)
  | n + 1, hn, c, hc, hi1 => by
    cases hb : inp n with
    | false =>
      rw [frF_f hb]
      have : c ≠ n := fun q => by rw [q, hb] at hi1; cases hi1
      exact frF_rw hd hg n (by omega) c (by omega) hi1
    | true =>
      rw [frF_t hb]
      show lo c ≤ upd _ n _ c ∧ upd _ n _ c ≤ hi c
      unfold upd
      by_cases e : c = n
      · subst e
        rw [if_pos rfl]
        exact rv_rg (nxD_lt (frF_d hd c)) (hg c (by omega) hb)
      · rw [if_neg e]
        exact frF_rw hd hg n (by omega) c (by omega) hi1
theorem trR_rw {inp : Nat → Bool} {lo hi : Nat → Int32} {row : Nat → Int32} {d : Nat} (hd : d < 7875) (hg : rgK inp lo hi) (a : Nat) : rwK inp lo hi (trR inp lo hi row d (a + 1)).1 := fun c hc hi1 => frF_rw (trR_d hd a) hg 16 (by omega) c hc hi1
/-- a class's trial's rows -/
abbrev trC (σ : gSig) (seed : Nat) : Nat → (Nat → Int32) × Nat := trR (inpC σ) (σ 7 0) (σ 7 1) (σ 14 0) seed
def okA (σ : gSig) (cell q seed a : Nat) : Prop := ∀ z, z < q → prC σ cell z cell (trC σ seed (a + 1)).1 = true
/-- how a trial ends -/
def runQ (σ : gSig) (τ : gTau) (cell q seed R : Nat) : Option Value → gSig → gTau → Prop := fun r σ' τ' =>
  (∃ s4 t8, (∀ a, a < R → okA σ cell q seed a) ∧ some (.int (-1)) = r ∧ up3 (up3 (tS σ (trC σ seed R).1 (trC σ seed R).2 s4) 13 0 6 (σ 13 0 6 &&& (b1 cell ^^^ (-1)))) 13 0 5 (σ 13 0 5 ||| b1 cell) = σ' ∧ upT τ 8 t8 = τ') ∨
  ∃ a p s4 t8, a < R ∧ p < q ∧ (∀ b, b < a → okA σ cell q seed b) ∧ (∀ z, z < p → prC σ cell z cell (trC σ seed (a + 1)).1 = true) ∧ prC σ cell p cell (trC σ seed (a + 1)).1 = false ∧ some (.int (nI a)) = r ∧
    kfS (tS σ (msF (ssC σ cell p cell) 60 (trC σ seed (a + 1)).1).2 (trC σ seed (a + 1)).2 s4) cell (nI p) (nI (msF (ssC σ cell p cell) 60 (trC σ seed (a + 1)).1).1) (σ 5 0 8) = σ' ∧ upT τ 8 t8 = τ'
set_option maxRecDepth 100000 in
set_option maxHeartbeats 4000000 in
theorem c_run {l : Launch} {D : va_G} {ad : Nat → Nat → Nat} {aC : Nat → ClassId} (σ : gSig) (τ : gTau) (cell q seed R : Nat) (o : Nat → Nat) (hcell : cell < 16) (hK : shK σ o) (hq : σ 10 cell 2 = nI q) (hq4 : q ≤ 4) (hpl : ∀ p, p < q → (¬ σ 11 cell p < 0 ∧ σ 11 cell p ≤ 3) ∧ (σ 11 cell p = 2 ∨ σ 11 cell p = 3 → isC (σ 12 cell p))) (hrg : rgK (inpC σ) (σ 7 0) (σ 7 1)) (hseed : seed < 7875) (hR : R ≤ 20) : CZ l D ad aC yX4_run cX4_run 8 (some .int) 9 [.ref (ad 13 0), .ref (ad 5 0), .ref (ad 10 cell), .int (nI cell), .int (nI seed), .int (nI R)] σ τ (runQ σ τ cell q seed R) := by
  refine CZ.of (own := RX4) (by decide +kernel) rfl (Nat.le_of_ble_eq_true rfl) (fun S C => ?_)
  refine r_aload_n C dX4_run_0 rfl rfl ?_
  refine r_iload C dX4_run_1 rfl ?_
  refine r_put (f := 7) C dX4_run_3 ⟨by decide, by decide⟩ rfl rfl kU4 tyX4 tyX4_ok nmX4 (by decide) kf_X4_39 rfl rfl (by decide +kernel) (Nat.le_of_ble_eq_true rfl) (by simp [cel, up3]) ?_
  refine r_iconst (v := 0) C dX4_run_6 rfl ?_
  refine r_istore C dX4_run_7 (by decide) rfl ?_
  have lp : ∀ m a, a ≤ R → R - a < m → ∀ (s4 : Nat → Nat → Int32) (t8 : Nat → Int64), (∀ b, b < a → okA σ cell q seed b) → S 0 (tS σ (trC σ seed a).1 (trC σ seed a).2 s4) (upT τ 8 t8) 9 [some (.ref (ad 13 0)), some (.ref (ad 5 0)), some (.ref (ad 10 cell)), some (.int (nI cell)), some (.int (nI seed)), some (.int (nI R)), some (.int (nI a)), none] [] := by
    intro m
    induction m with
    | zero => intro a _ hm; omega
    | succ m ih =>
      intro a ha hm s4 t8 hdone
      refine r_iload C dX4_run_9 rfl ?_
      refine r_iload C dX4_run_11 rfl ?_
      refine r_icmpge (tgt := 70) C dX4_run_13 (by decide) (fun c13 => ?_) (fun c13 => ?_)
      · have n13 := Int32.not_lt.mpr c13
        have haR : a = R := by
          have := (nI_leI (by omega) (by omega)).mp c13
          omega
        subst haR
        refine r_aload_n C dX4_run_70 rfl rfl ?_
        refine r_dup C dX4_run_71 rfl ?_
        refine r_get (f := 6) (v := .int (σ 13 0 6)) C dX4_run_72 ⟨by decide, by decide⟩ rfl rfl kU4 (by decide) kf_X4_65 rfl (by rw [← tS_13 σ (trC σ seed a).1 (trC σ seed a).2 s4 (i := 6) (by decide)]; rfl) ?_
        refine r_iconst (v := 1) C dX4_run_75 rfl ?_
        refine r_iload_n C dX4_run_76 rfl rfl ?_
        refine r_ishl C dX4_run_77 ?_
        refine r_iconst (v := (-1)) C dX4_run_78 rfl ?_
        refine r_ixor C dX4_run_79 ?_
        refine r_iand C dX4_run_80 ?_
        refine r_put (f := 6) C dX4_run_81 ⟨by decide, by decide⟩ rfl rfl kU4 tyX4 tyX4_ok nmX4 (by decide) kf_X4_65 rfl rfl (by decide +kernel) (Nat.le_of_ble_eq_true rfl) (by simp [cel, up3]) ?_
        refine r_aload_n C dX4_run_84 rfl rfl ?_
        refine r_dup C dX4_run_85 rfl ?_
        refine r_get (f := 5) (v := .int (σ 13 0 5)) C dX4_run_86 ⟨by decide, by decide⟩ rfl rfl kU4 (by decide) kf_X4_29 rfl (by rw [← tS_13 σ (trC σ seed a).1 (trC σ seed a).2 s4 (i := 5) (by decide)]; simp [up3_at]) ?_
        refine r_iconst (v := 1) C dX4_run_89 rfl ?_
        refine r_iload_n C dX4_run_90 rfl rfl ?_
        refine r_ishl C dX4_run_91 ?_
        refine r_ior C dX4_run_92 ?_
        refine r_put (f := 5) C dX4_run_93 ⟨by decide, by decide⟩ rfl rfl kU4 tyX4 tyX4_ok nmX4 (by decide) kf_X4_29 rfl rfl (by decide +kernel) (Nat.le_of_ble_eq_true rfl) (by simp [cel, up3]) ?_
        refine r_iconst (v := (-1)) C dX4_run_96 rfl ?_
        exact r_iret C dX4_run_97 rfl (by decide) (Or.inl ⟨s4, t8, hdone, rfl, rfl, rfl⟩)
      · have n13 := Int32.not_le.mp c13
        have haR : a < R := (nI_ltI (by omega) (by omega)).mp n13
        have hgen : ∀ s, tS σ (frF (inpC σ) (σ 7 0) (σ 7 1) a (trC σ seed a).1 (trC σ seed a).2 16).1 (frF (inpC σ) (σ 7 0) (σ 7 1) a (trC σ seed a).1 (trC σ seed a).2 16).2 s = (tS σ (trC σ seed (a + 1)).1 (trC σ seed (a + 1)).2 s) := fun _ => rfl
        refine r_aload_n C dX4_run_16 rfl rfl ?_
        refine r_iload C dX4_run_17 rfl ?_
        refine r_aload_n C dX4_run_19 rfl rfl ?_
        have hin0 : inpC (tS σ (trC σ seed a).1 (trC σ seed a).2 s4) = inpC σ := by unfold inpC; rw [(show (tS σ (trC σ seed a).1 (trC σ seed a).2 s4) 5 = σ 5 from (tS_ne _ _ _ _ (by decide) (by decide) (by decide)))]
        refine r_callV C dX4_run_20 (c_fillRow (tS σ (trC σ seed a).1 (trC σ seed a).2 s4) (upT τ 8 t8) a (trC σ seed a).2 (by omega) (trR_d hseed a) (tS_d _ _ _ _) (by rw [hin0, (show (tS σ (trC σ seed a).1 (trC σ seed a).2 s4) 7 = σ 7 from (tS_ne _ _ _ _ (by decide) (by decide) (by decide)))]; exact hrg)) rfl ⟨by decide, by decide⟩ rfl rfl kB_X4_fillRow rfl kI_X4_fillRow kV_X4_fillRow kl_X4_42 (by decide) (Nat.le_of_ble_eq_true rfl) (by decide) ?_
        rintro r9 σ' τ' ⟨rfl, rfl, rfl⟩
        rw [hin0, (show (tS σ (trC σ seed a).1 (trC σ seed a).2 s4) 7 = σ 7 from (tS_ne _ _ _ _ (by decide) (by decide) (by decide))), tS_row, tS_rw, hgen]
        refine r_aload_n C dX4_run_23 rfl rfl ?_
        refine r_aload_n C dX4_run_24 rfl rfl ?_
        refine r_iload_n C dX4_run_25 rfl rfl ?_
        refine r_aload_n C dX4_run_26 rfl rfl ?_
        refine r_get (f := 0) C dX4_run_27 ⟨by decide, by decide⟩ rfl rfl kU4 (by decide) kf_X4_9 rfl rfl ?_
        refine r_callV C dX4_run_30 (c_firstBroken (tS σ (trC σ seed (a + 1)).1 (trC σ seed (a + 1)).2 s4) (upT τ 8 t8) cell q cell o hcell hcell (shK_of (σ' := (tS σ (trC σ seed (a + 1)).1 (trC σ seed (a + 1)).2 s4)) (tS_ne _ _ _ _ (by decide) (by decide) (by decide)) (tS_ne _ _ _ _ (by decide) (by decide) (by decide)) (tS_ne _ _ _ _ (by decide) (by decide) (by decide)) (tS_ne _ _ _ _ (by decide) (by decide) (by decide)) (tS_ne _ _ _ _ (by decide) (by decide) (by decide)) hK) ((congrFun (congrFun (show (tS σ (trC σ seed (a + 1)).1 (trC σ seed (a + 1)).2 s4) 10 = σ 10 from (tS_ne _ _ _ _ (by decide) (by decide) (by decide))) cell) 2).trans hq) hq4 (by rw [show (tS σ (trC σ seed (a + 1)).1 (trC σ seed (a + 1)).2 s4) 11 = σ 11 from (tS_ne _ _ _ _ (by decide) (by decide) (by decide)), show (tS σ (trC σ seed (a + 1)).1 (trC σ seed (a + 1)).2 s4) 12 = σ 12 from (tS_ne _ _ _ _ (by decide) (by decide) (by decide))]; exact hpl)) rfl ⟨by decide, hcell⟩ rfl rfl kB_X2_firstBroken rfl kI_X2_firstBroken kV_X2_firstBroken kl_X4_46 (by decide) (Nat.le_of_ble_eq_true rfl) (by decide) ?_
        rintro r9 σ' τ' ⟨s4b, t8b, res, rfl, rfl, rfl, hfb⟩
        rw [tS_upF, upT_upT]
        rw [prC_of (σ := σ) (σ' := (tS σ (trC σ seed (a + 1)).1 (trC σ seed (a + 1)).2 s4)) (tS_ne _ _ _ _ (by decide) (by decide) (by decide)) (tS_ne _ _ _ _ (by decide) (by decide) (by decide)) (tS_ne _ _ _ _ (by decide) (by decide) (by decide)) (tS_ne _ _ _ _ (by decide) (by decide) (by decide)) (tS_ne _ _ _ _ (by decide) (by decide) (by decide)) (tS_ne _ _ _ _ (by decide) (by decide) (by decide)) (tS_ne _ _ _ _ (by decide) (by decide) (by decide)), tS_row] at hfb
        refine r_istore C dX4_run_33 (by decide) rfl ?_
        refine r_iload C dX4_run_35 rfl ?_
        refine r_iconst (v := (-1)) C dX4_run_37 rfl ?_
        refine r_icmpeq (tgt := 64) C dX4_run_38 (by decide) (fun c38 => ?_) (fun c38 => ?_)
        · have hres := c38
          have hdone2 : ∀ b, b < a + 1 → okA σ cell q seed b := fun b hb => by
            by_cases e : b = a
            · subst e
              rcases hfb with ⟨-, h⟩ | ⟨p, h1, h2, -⟩
              · exact h
              · rw [hres] at h2
                exact absurd (congrArg Int32.toInt h2) (by rw [nI_toInt (by omega)]; have : (-1 : Int32).toInt = -1 := by decide
                                                           omega)
            · exact hdone b (by omega)
          refine r_iinc C dX4_run_64 rfl rfl (by decide) rfl ?_
          refine r_goto (tgt := 9) C dX4_run_67 (by decide) ?_
          refine r_drop C [7] ?_
          exact r_swk (ih (a + 1) (by omega) (by omega) _ _ hdone2) rfl rfl (by rw [← nI_p1]; rfl) rfl
        · obtain ⟨p, hp, hpr, hpf, hpb⟩ : ∃ p, p < q ∧ res = nI p ∧ prC σ cell p cell (trC σ seed (a + 1)).1 = false ∧ ∀ z, z < p → prC σ cell z cell (trC σ seed (a + 1)).1 = true := by
            rcases hfb with ⟨h, -⟩ | h
            · exact absurd h c38
            · exact h
          subst hpr
          refine r_aload_n C dX4_run_41 rfl rfl ?_
          refine r_iload_n C dX4_run_42 rfl rfl ?_
          refine r_iload C dX4_run_43 rfl ?_
          refine r_aload_n C dX4_run_45 rfl rfl ?_
          refine r_iload C dX4_run_46 rfl ?_
          refine r_aload_n C dX4_run_48 rfl rfl ?_
          refine r_aload_n C dX4_run_49 rfl rfl ?_
          refine r_iload_n C dX4_run_50 rfl rfl ?_
          refine r_callV C dX4_run_51 (c_makeSmaller (tS σ (trC σ seed (a + 1)).1 (trC σ seed (a + 1)).2 s4b) (upT τ 8 t8b) cell p q cell o hcell hcell (shK_of (σ' := (tS σ (trC σ seed (a + 1)).1 (trC σ seed (a + 1)).2 s4b)) (tS_ne _ _ _ _ (by decide) (by decide) (by decide)) (tS_ne _ _ _ _ (by decide) (by decide) (by decide)) (tS_ne _ _ _ _ (by decide) (by decide) (by decide)) (tS_ne _ _ _ _ (by decide) (by decide) (by decide)) (tS_ne _ _ _ _ (by decide) (by decide) (by decide)) hK) ((congrFun (congrFun (show (tS σ (trC σ seed (a + 1)).1 (trC σ seed (a + 1)).2 s4b) 10 = σ 10 from (tS_ne _ _ _ _ (by decide) (by decide) (by decide))) cell) 2).trans hq) hq4 hp (by rw [show (tS σ (trC σ seed (a + 1)).1 (trC σ seed (a + 1)).2 s4b) 11 = σ 11 from (tS_ne _ _ _ _ (by decide) (by decide) (by decide)), show (tS σ (trC σ seed (a + 1)).1 (trC σ seed (a + 1)).2 s4b) 12 = σ 12 from (tS_ne _ _ _ _ (by decide) (by decide) (by decide))]; exact hpl) (by unfold inpC; rw [show (tS σ (trC σ seed (a + 1)).1 (trC σ seed (a + 1)).2 s4b) 5 = σ 5 from (tS_ne _ _ _ _ (by decide) (by decide) (by decide)), show (tS σ (trC σ seed (a + 1)).1 (trC σ seed (a + 1)).2 s4b) 7 = σ 7 from (tS_ne _ _ _ _ (by decide) (by decide) (by decide))]; exact hrg) (by unfold inpC; rw [show (tS σ (trC σ seed (a + 1)).1 (trC σ seed (a + 1)).2 s4b) 5 = σ 5 from (tS_ne _ _ _ _ (by decide) (by decide) (by decide)), show (tS σ (trC σ seed (a + 1)).1 (trC σ seed (a + 1)).2 s4b) 7 = σ 7 from (tS_ne _ _ _ _ (by decide) (by decide) (by decide)), tS_row]; exact trR_rw hseed hrg a)) rfl ⟨by decide, by decide⟩ rfl rfl kB_X4_makeSmaller rfl kI_X4_makeSmaller kV_X4_makeSmaller kl_X4_52 (by decide) (Nat.le_of_ble_eq_true rfl) (by decide) ?_
          rintro r9 σ' τ' ⟨s4c, t8c, rfl, rfl, rfl⟩
          rw [tS_nv, upT_upT, ssC_of (σ := σ) (σ' := (tS σ (trC σ seed (a + 1)).1 (trC σ seed (a + 1)).2 s4b)) (tS_ne _ _ _ _ (by decide) (by decide) (by decide)) (tS_ne _ _ _ _ (by decide) (by decide) (by decide)) (tS_ne _ _ _ _ (by decide) (by decide) (by decide)) (tS_ne _ _ _ _ (by decide) (by decide) (by decide)) (tS_ne _ _ _ _ (by decide) (by decide) (by decide)) (tS_ne _ _ _ _ (by decide) (by decide) (by decide)) (tS_ne _ _ _ _ (by decide) (by decide) (by decide)), tS_row]
          refine r_aload_n C dX4_run_54 rfl rfl ?_
          refine r_get (f := 8) (v := .int (σ 5 0 8)) C dX4_run_55 ⟨by decide, by decide⟩ rfl rfl kU3 (by decide) kf_X4_56 rfl (by rw [← (show (tS σ (msF (ssC σ cell p cell) 60 (trC σ seed (a + 1)).1).2 (trC σ seed (a + 1)).2 s4c) 5 = σ 5 from (tS_ne _ _ _ _ (by decide) (by decide) (by decide)))]; rfl) ?_
          refine r_callV C dX4_run_58 (c_keepFailed (tS σ (msF (ssC σ cell p cell) 60 (trC σ seed (a + 1)).1).2 (trC σ seed (a + 1)).2 s4c) (upT τ 8 t8c) cell (nI p) (nI (msF (ssC σ cell p cell) 60 (trC σ seed (a + 1)).1).1) (σ 5 0 8) hcell) rfl ⟨by decide, by decide⟩ rfl rfl kB_X4_keepFailed rfl kI_X4_keepFailed kV_X4_keepFailed kl_X4_61 (by decide) (Nat.le_of_ble_eq_true rfl) (by decide) ?_
          rintro r9 σ' τ' ⟨rfl, rfl, rfl⟩
          refine r_iload C dX4_run_61 rfl ?_
          exact r_iret C dX4_run_63 rfl (by decide) (Or.inr ⟨a, p, s4c, t8c, haR, hp, hdone, hpb, hpf, rfl, rfl, rfl⟩)
  refine r_swk (lp (R + 1) 0 (by omega) (by omega) (σ 4) (τ 8) (fun b hb => absurd hb (Nat.not_lt_zero b))) ?_ (upT_id τ 8) rfl rfl
  show tS σ (σ 14 0) seed (σ 4) = _
  unfold tS rwS
  rw [upR_id]
  exact upF_id (up3 σ 13 0 7 (nI seed)) 4
end
section
/-! ===== the desk: waivers, the row of readers, what is unlocked: printed by g25.py ===== -/
/-- the cells with a waiver that holds -/
def wvF (ld : Nat → Int32) (day : Int32) : Nat → Int32
  | 0 => 0
  | i + 1 => if day ≤ ld i then wvF ld day i ||| b1 i else wvF ld day i
theorem wvF_t {ld : Nat → Int32} {day : Int32} {i : Nat} (h : day ≤ ld i) : wvF ld day (i + 1) = wvF ld day i ||| b1 i := if_pos h
theorem wvF_f {ld : Nat → Int32} {day : Int32} {i : Nat} (h : ¬ day ≤ ld i) : wvF ld day (i + 1) = wvF ld day i := if_neg h
/-- the readers of x, put behind the row, in rising order, that are not in it -/
def inB (rd : Nat → Int32) (x : Nat) (ρ : List Nat) : Nat → List Nat
  | 0 => ρ
  | j + 1 => if bt (rd j) x = true ∧ ¬ j ∈ inB rd x ρ j then inB rd x ρ j ++ [j] else inB rd x ρ j
theorem inB_t {rd : Nat → Int32} {x : Nat} {ρ : List Nat} {j : Nat} (h1 : bt (rd j) x = true) (h2 : ¬ j ∈ inB rd x ρ j) : inB rd x ρ (j + 1) = inB rd x ρ j ++ [j] := if_pos ⟨h1, h2⟩
theorem inB_f {rd : Nat → Int32} {x : Nat} {ρ : List Nat} {j : Nat} (h : bt (rd j) x = false ∨ j ∈ inB rd x ρ j) : inB rd x ρ (j + 1) = inB rd x ρ j := if_neg (fun q => by
  rcases h with h | h
  · rw [h] at q; exact absurd q.1 (by decide)
  · exact q.2 h)
def bfs (rd : Nat → Int32) : Nat → Nat → List Nat → List Nat
  | 0, _, ρ => ρ
  | f + 1, i, ρ => match ρ[i]? with
    | none => ρ
    | some x => bfs rd f (i + 1) (inB rd x ρ 16)
theorem bfs_end {rd : Nat → Int32} {i : Nat} {ρ : List Nat} (h : ρ[i]? = none) : ∀ f, bfs rd f i ρ = ρ
  | 0 => rfl
  | f + 1 => by unfold bfs; rw [h]
theorem bfs_go {rd : Nat → Int32} {i f x : Nat} {ρ : List Nat} (h : ρ[i]? = some x) : bfs rd (f + 1) i ρ = bfs rd f (i + 1) (inB rd x ρ 16) := by
  conv => lhs; unfold bfs
  rw [h]
/-- what stands in a row of ints -/
def onL (g : Nat → Int32) (ρ : List Nat) : Prop := ∀ (j x : Nat), ρ[j]? = some x → g j = nI x
/-- a row of different cells, and the set of them -/
def rwL (P : Int32) (ρ : List Nat) : Prop := ρ.Nodup ∧ (∀ x, x ∈ ρ → x < 16) ∧ ∀ c, c < 16 → (bt P c = true ↔ c ∈ ρ)
theorem nodup_len {ρ : List Nat} (h1 : ρ.Nodup) (h2 : ∀ x, x ∈ ρ → x < 16) : ρ.length ≤ 16 := by
  refine fb_holes 16 ρ.length (fun i => ρ.getD i 0) (fun i hi => ?_) (fun i j hij hj e => ?_)
  · have : ρ.getD i 0 = ρ[i] := by rw [List.getD_eq_getElem?_getD, List.getElem?_eq_getElem hi]; rfl
    rw [this]
    exact h2 _ (List.getElem_mem hi)
  · have hi : i < ρ.length := by omega
    have e1 : ρ.getD i 0 = ρ[i] := by rw [List.getD_eq_getElem?_getD, List.getElem?_eq_getElem hi]; rfl
    have e2 : ρ.getD j 0 = ρ[j] := by rw [List.getD_eq_getElem?_getD, List.getElem?_eq_getElem hj]; rfl
    rw [e1, e2] at e
    have : ρ[i]? = ρ[j]? := by rw [List.getElem?_eq_getElem hi, List.getElem?_eq_getElem hj, e]
    have := (List.getElem?_inj hi h1).mp this
    omega
theorem nodup_full {ρ : List Nat} (h1 : ρ.Nodup) (h2 : ∀ x, x ∈ ρ → x < 16) (h3 : ρ.length = 16) {c : Nat} (hc : c < 16) : c ∈ ρ := by
  rcases Classical.em (c ∈ ρ) with q | q
  · exact q
  · have := nodup_len (ρ := ρ ++ [c]) (List.nodup_append.mpr ⟨h1, by simp, fun a ha b hb e => by
      simp at hb
      subst hb; subst e
      exact q ha⟩) (fun x hx => by
        rcases List.mem_append.mp hx with h | h
        · exact h2 x h
        · simp at h; omega)
    rw [List.length_append, h3] at this
    simp at this
theorem onL_push {g : Nat → Int32} {ρ : List Nat} (h : onL g ρ) (c : Nat) : onL (upd g ρ.length (nI c)) (ρ ++ [c]) := by
  intro j x hj
  unfold upd
  by_cases hl : j < ρ.length
  · rw [List.getElem?_append_left hl] at hj
    rw [if_neg (by omega)]
    exact h j x hj
  · rw [List.getElem?_append_right (by omega)] at hj
    have h1 := (List.getElem?_eq_some_iff.mp hj).1
    have h2 : j = ρ.length := by simp at h1; omega
    subst h2
    rw [if_pos rfl]
    rw [Nat.sub_self] at hj
    cases hj
    rfl
theorem rwL_push {P : Int32} {ρ : List Nat} (h : rwL P ρ) {c : Nat} (hc : c < 16) (h2 : ¬ c ∈ ρ) : rwL (P ||| b1 c) (ρ ++ [c]) := by
  obtain ⟨a, b, d⟩ := h
  refine ⟨List.nodup_append.mpr ⟨a, by simp, fun x hx y hy e => by
    simp at hy
    subst hy; subst e
    exact h2 hx⟩, fun x hx => ?_, fun x hx => ?_⟩
  · rcases List.mem_append.mp hx with q | q
    · exact b x q
    · simp at q; omega
  · rw [b_or, Bool.or_eq_true, d x hx, bt_b1 (by omega), List.mem_append]
    simp
set_option maxRecDepth 100000 in
set_option maxHeartbeats 4000000 in
theorem c_waived {l : Launch} {D : va_G} {ad : Nat → Nat → Nat} {aC : Nat → ClassId} (σ : gSig) (τ : gTau)  : CZ l D ad aC yX1_waivedCells cX1_waivedCells 3 (some .int) 0 [.ref (ad 17 0)] σ τ (gEq (some (.int (wvF (σ 18 1) (σ 17 0 3) 16))) σ τ) := by
  refine CZ.of (own := RX1) (by decide +kernel) rfl (Nat.le_of_ble_eq_true rfl) (fun S C => ?_)
  refine r_iconst (v := 0) C dX1_waivedCells_0 rfl ?_
  refine r_istore_n C dX1_waivedCells_1 rfl (by decide) rfl ?_
  refine r_iconst (v := 0) C dX1_waivedCells_2 rfl ?_
  refine r_istore_n C dX1_waivedCells_3 rfl (by decide) rfl ?_
  have loop : ∀ m i, i ≤ 16 → 16 - i < m → S 0 σ τ 4 [some (.ref (ad 17 0)), some (.int (wvF (σ 18 1) (σ 17 0 3) i)), some (.int (nI i))] [] := by
    intro m
    induction m with
    | zero => intro i _ hm; omega
    | succ m ihloop =>
      intro i hiloop hmloop
      refine r_iload_n C dX1_waivedCells_4 rfl rfl ?_
      refine r_bipush (v := 16) C dX1_waivedCells_5 rfl ?_
      refine r_icmpge (tgt := 35) C dX1_waivedCells_7 (by decide) (fun c7 => ?_) (fun c7 => ?_)
      · have n7 := Int32.not_lt.mpr c7
        have hloope : i = 16 := by
          have := (nI_leI (a := 16) (by omega) (by omega)).mp c7
          omega
        subst hloope
        refine r_iload_n C dX1_waivedCells_35 rfl rfl ?_
        exact r_iret C dX1_waivedCells_36 rfl (by decide) ⟨rfl, rfl, rfl⟩
      · have n7 := Int32.not_le.mp c7
        have hloopl : i < 16 := (nI_ltI (b := 16) (by omega) (by omega)).mp n7
        refine r_aload_n C dX1_waivedCells_10 rfl rfl ?_
        refine r_get (f := 1) C dX1_waivedCells_11 ⟨by decide, by decide⟩ rfl rfl kU1 (by decide) kf_X1_15 rfl rfl ?_
        refine r_iload_n C dX1_waivedCells_14 rfl rfl ?_
        refine r_ialdv (v := σ 18 1 i) C dX1_waivedCells_15 ⟨by decide, by decide⟩ rfl (vp_in_nI hloopl (by decide)) (by rw [nI_clamp (by omega)]) ?_
        refine r_aload_n C dX1_waivedCells_16 rfl rfl ?_
        refine r_get (f := 3) C dX1_waivedCells_17 ⟨by decide, by decide⟩ rfl rfl kU1 (by decide) kf_X1_21 rfl rfl ?_
        refine r_icmplt (tgt := 29) C dX1_waivedCells_20 (by decide) (fun c20 => ?_) (fun c20 => ?_)
        · have n20 := Int32.not_le.mpr c20
          refine r_iinc C dX1_waivedCells_29 rfl rfl (by decide) rfl ?_
          refine r_goto (tgt := 4) C dX1_waivedCells_32 (by decide) ?_
          exact r_swk (ihloop (i + 1) (by omega) (by omega)) rfl rfl (by first | (rw [wvF_t n20, ← nI_p1]; rfl) | (rw [wvF_f n20, ← nI_p1]; rfl)) rfl
        · have n20 := Int32.not_lt.mp c20
          refine r_iload_n C dX1_waivedCells_23 rfl rfl ?_
          refine r_iconst (v := 1) C dX1_waivedCells_24 rfl ?_
          refine r_iload_n C dX1_waivedCells_25 rfl rfl ?_
          refine r_ishl C dX1_waivedCells_26 ?_
          refine r_ior C dX1_waivedCells_27 ?_
          refine r_istore_n C dX1_waivedCells_28 rfl (by decide) rfl ?_
          refine r_iinc C dX1_waivedCells_29 rfl rfl (by decide) rfl ?_
          refine r_goto (tgt := 4) C dX1_waivedCells_32 (by decide) ?_
          exact r_swk (ihloop (i + 1) (by omega) (by omega)) rfl rfl (by first | (rw [wvF_t n20, ← nI_p1]; rfl) | (rw [wvF_f n20, ← nI_p1]; rfl)) rfl
  exact loop (16 + 1) 0 (by omega) (by omega)
set_option maxRecDepth 100000 in
set_option maxHeartbeats 4000000 in
theorem c_lineUp {l : Launch} {D : va_G} {ad : Nat → Nat → Nat} {aC : Nat → ClassId} (σ : gSig) (τ : gTau) (cell : Nat) (hc : cell < 16) : CZ l D ad aC yX3_lineUpReaders cX3_lineUpReaders 7 (some .int) 1 [.ref (ad 5 0), .int (nI cell), .ref (ad 18 2)] σ τ (fun r σ' τ' => ∃ g, some (.int (nI (bfs (σ 7 3) 16 0 [cell]).length)) = r ∧ upR σ 18 2 g = σ' ∧ τ = τ' ∧ onL g (bfs (σ 7 3) 16 0 [cell])) := by
  refine CZ.of (own := RX3) (by decide +kernel) rfl (Nat.le_of_ble_eq_true rfl) (fun S C => ?_)
  refine r_aload_n C dX3_lineUpReaders_0 rfl rfl ?_
  refine r_iconst (v := 0) C dX3_lineUpReaders_1 rfl ?_
  refine r_iload_n C dX3_lineUpReaders_2 rfl rfl ?_
  refine r_iastv C dX3_lineUpReaders_3 ⟨by decide, by decide⟩ (fun _ => rfl) (vp_in_nI (n := 0) (by decide) (by decide)) (j := 0) rfl ?_
  rw [up3_eq]
  refine r_iconst (v := 1) C dX3_lineUpReaders_4 rfl ?_
  refine r_istore_n C dX3_lineUpReaders_5 rfl (by decide) rfl ?_
  refine r_iconst (v := 1) C dX3_lineUpReaders_6 rfl ?_
  refine r_iload_n C dX3_lineUpReaders_7 rfl rfl ?_
  refine r_ishl C dX3_lineUpReaders_8 ?_
  refine r_istore C dX3_lineUpReaders_9 (by decide) rfl ?_
  refine r_iconst (v := 0) C dX3_lineUpReaders_11 rfl ?_
  refine r_istore C dX3_lineUpReaders_12 (by decide) rfl ?_
  have lp1 : ∀ m i, i ≤ 16 → 16 - i < m → ∀ (ρ : List Nat) (g : Nat → Int32) (P : Int32), onL g ρ → rwL P ρ → bfs (σ 7 3) 16 0 [cell] = bfs (σ 7 3) (16 - i) i ρ → S 0 (upR σ 18 2 g) τ 14 [some (.ref (ad 5 0)), some (.int (nI cell)), some (.ref (ad 18 2)), some (.int (nI ρ.length)), some (.int P), some (.int (nI i)), none] [] := by
    intro m
    induction m with
    | zero => intro i _ hm; omega
    | succ m ih1 =>
      intro i hi hm ρ g P hg hP hb
      have hlen := nodup_len hP.1 hP.2.1
      refine r_iload C dX3_lineUpReaders_14 rfl ?_
      refine r_iload_n C dX3_lineUpReaders_16 rfl rfl ?_
      refine r_icmpge (tgt := 99) C dX3_lineUpReaders_17 (by decide) (fun c17 => ?_) (fun c17 => ?_)
      · have n17 := Int32.not_lt.mpr c17
        have hil : ρ.length ≤ i := (nI_leI (by omega) (by omega)).mp c17
        have hres : bfs (σ 7 3) 16 0 [cell] = ρ := by rw [hb, bfs_end (List.getElem?_eq_none hil)]
        refine r_iload_n C dX3_lineUpReaders_99 rfl rfl ?_
        exact r_iret C dX3_lineUpReaders_100 rfl (by decide) ⟨g, by rw [hres], rfl, rfl, by rw [hres]; exact hg⟩
      · have n17 := Int32.not_le.mp c17
        have hil : i < ρ.length := (nI_ltI (by omega) (by omega)).mp n17
        refine r_iload C dX3_lineUpReaders_20 rfl ?_
        refine r_bipush (v := 16) C dX3_lineUpReaders_22 rfl ?_
        refine r_icmpge (tgt := 99) C dX3_lineUpReaders_24 (by decide) (fun c24 => ?_) (fun c24 => ?_)
        · have n24 := Int32.not_lt.mpr c24
          exact absurd ((nI_leI (a := 16) (by decide) (by omega)).mp c24) (by omega)
        · have n24 := Int32.not_le.mp c24
          obtain ⟨kz, hkz⟩ : ∃ z, 16 - i = z + 1 := ⟨16 - i - 1, by omega⟩
          have hkz2 : kz = 16 - (i + 1) := by omega
          have hxi : ρ[i]? = some ρ[i] := List.getElem?_eq_getElem hil
          generalize ρ[i] = x at hxi
          have hx16 : x < 16 := hP.2.1 x (List.mem_of_getElem? hxi)
          have hbx : bfs (σ 7 3) 16 0 [cell] = bfs (σ 7 3) (16 - (i + 1)) (i + 1) (inB (σ 7 3) x ρ 16) := by rw [hb, hkz, bfs_go hxi, hkz2]
          refine r_iconst (v := 0) C dX3_lineUpReaders_27 rfl ?_
          refine r_istore C dX3_lineUpReaders_28 (by decide) rfl ?_
          have lp2 : ∀ m j, j ≤ 16 → 16 - j < m → ∀ (g2 : Nat → Int32) (P2 : Int32), onL g2 (inB (σ 7 3) x ρ j) → rwL P2 (inB (σ 7 3) x ρ j) → g2 i = nI x → i < (inB (σ 7 3) x ρ j).length → S 0 (upR σ 18 2 g2) τ 30 [some (.ref (ad 5 0)), some (.int (nI cell)), some (.ref (ad 18 2)), some (.int (nI (inB (σ 7 3) x ρ j).length)), some (.int P2), some (.int (nI i)), some (.int (nI j))] [] := by
            intro m
            induction m with
            | zero => intro j _ hm; omega
            | succ m ih2 =>
              intro j hj hm g2 P2 hg2 hP2 hgi hil2
              have hlen2 := nodup_len hP2.1 hP2.2.1
              refine r_iload C dX3_lineUpReaders_30 rfl ?_
              refine r_bipush (v := 16) C dX3_lineUpReaders_32 rfl ?_
              refine r_icmpge (tgt := 93) C dX3_lineUpReaders_34 (by decide) (fun c34 => ?_) (fun c34 => ?_)
              · have n34 := Int32.not_lt.mpr c34
                have hj16 : j = 16 := by
                  have := (nI_leI (a := 16) (by omega) (by omega)).mp c34
                  omega
                subst hj16
                have hb2 := hbx
                refine r_iinc C dX3_lineUpReaders_93 rfl rfl (by decide) rfl ?_
                refine r_goto (tgt := 14) C dX3_lineUpReaders_96 (by decide) ?_
                refine r_drop C [6] ?_
                exact r_swk (ih1 (i + 1) (by omega) (by omega) _ _ _ hg2 hP2 hb2) rfl rfl (by rw [← nI_p1]; rfl) rfl
              · have n34 := Int32.not_le.mp c34
                have hjl : j < 16 := (nI_ltI (b := 16) (by omega) (by omega)).mp n34
                refine r_iload_n C dX3_lineUpReaders_37 rfl rfl ?_
                refine r_bipush (v := 16) C dX3_lineUpReaders_38 rfl ?_
                refine r_icmpge (tgt := 87) C dX3_lineUpReaders_40 (by decide) (fun c40 => ?_) (fun c40 => ?_)
                · have n40 := Int32.not_lt.mpr c40
                  have hfull : (inB (σ 7 3) x ρ j).length = 16 := by
                    have := (nI_leI (a := 16) (by decide) (by omega)).mp c40
                    omega
                  have hin := inB_f (ρ := ρ) (x := x) (rd := σ 7 3) (j := j) (Or.inr (nodup_full hP2.1 hP2.2.1 hfull hjl))
                  have hg3 : onL g2 (inB (σ 7 3) x ρ (j + 1)) := by rw [hin]; exact hg2
                  have hP3 : rwL P2 (inB (σ 7 3) x ρ (j + 1)) := by rw [hin]; exact hP2
                  have hgi3 := hgi
                  have hil3 : i < (inB (σ 7 3) x ρ (j + 1)).length := by rw [hin]; exact hil2
                  have hL3 : [some (Value.ref (ad 5 0)), some (.int (nI cell)), some (.ref (ad 18 2)), some (.int (nI (inB (σ 7 3) x ρ (j + 1)).length)), some (.int P2), some (.int (nI i)), some (.int (nI (j + 1)))] = [some (.ref (ad 5 0)), some (.int (nI cell)), some (.ref (ad 18 2)), some (.int (nI (inB (σ 7 3) x ρ j).length)), some (.int P2), some (.int (nI i)), some (.int (nI j + Int32.ofInt 1))] := by rw [hin, ← nI_p1 j]
                  refine r_iinc C dX3_lineUpReaders_87 rfl rfl (by decide) rfl ?_
                  refine r_goto (tgt := 30) C dX3_lineUpReaders_90 (by decide) ?_
                  exact r_swk (ih2 (j + 1) (by omega) (by omega) _ _ hg3 hP3 hgi3 hil3) rfl rfl hL3 rfl
                · have n40 := Int32.not_le.mp c40
                  have hcl : (inB (σ 7 3) x ρ j).length < 16 := (nI_ltI (by omega) (by decide)).mp n40
                  refine r_aload_n C dX3_lineUpReaders_43 rfl rfl ?_
                  refine r_get (f := 4) C dX3_lineUpReaders_44 ⟨by decide, by decide⟩ rfl rfl kU3 (by decide) kf_X3_27 rfl rfl ?_
                  refine r_iload C dX3_lineUpReaders_47 rfl ?_
                  refine r_ialdv (v := σ 7 3 j) C dX3_lineUpReaders_49 ⟨by decide, by decide⟩ rfl (vp_in_nI hjl (by decide)) (by rw [nI_clamp (by omega)]; rfl) ?_
                  refine r_aload_n C dX3_lineUpReaders_50 rfl rfl ?_
                  refine r_iload C dX3_lineUpReaders_51 rfl ?_
                  refine r_ialdv (v := nI x) C dX3_lineUpReaders_53 ⟨by decide, by decide⟩ rfl (vp_in_nI (show i < 16 by omega) (by decide)) (by rw [nI_clamp (by omega), upR_self]; exact hgi) ?_
                  refine r_callSN C dX3_lineUpReaders_54 (c_has (upR σ 18 2 g2) τ (σ 7 3 j) (nI x)) rfl kB_X5_has rfl kS_X5_has kl_X3_46 (by decide) (Nat.le_of_ble_eq_true rfl) (by decide) ?_
                  rintro r9 σ' τ' ⟨rfl, rfl, rfl⟩
                  rw [hasB_bt hx16]
                  refine r_ifeq (tgt := 87) C dX3_lineUpReaders_57 (by decide) (fun c57 => ?_) (fun c57 => ?_)
                  · have h57 := b2i_0.mp c57
                    have hin := inB_f (ρ := ρ) (x := x) (rd := σ 7 3) (j := j) (Or.inl h57)
                    have hg3 : onL g2 (inB (σ 7 3) x ρ (j + 1)) := by rw [hin]; exact hg2
                    have hP3 : rwL P2 (inB (σ 7 3) x ρ (j + 1)) := by rw [hin]; exact hP2
                    have hgi3 := hgi
                    have hil3 : i < (inB (σ 7 3) x ρ (j + 1)).length := by rw [hin]; exact hil2
                    have hL3 : [some (Value.ref (ad 5 0)), some (.int (nI cell)), some (.ref (ad 18 2)), some (.int (nI (inB (σ 7 3) x ρ (j + 1)).length)), some (.int P2), some (.int (nI i)), some (.int (nI (j + 1)))] = [some (.ref (ad 5 0)), some (.int (nI cell)), some (.ref (ad 18 2)), some (.int (nI (inB (σ 7 3) x ρ j).length)), some (.int P2), some (.int (nI i)), some (.int (nI j + Int32.ofInt 1))] := by rw [hin, ← nI_p1 j]
                    refine r_iinc C dX3_lineUpReaders_87 rfl rfl (by decide) rfl ?_
                    refine r_goto (tgt := 30) C dX3_lineUpReaders_90 (by decide) ?_
                    exact r_swk (ih2 (j + 1) (by omega) (by omega) _ _ hg3 hP3 hgi3 hil3) rfl rfl hL3 rfl
                  · have h57 := b2i_n.mp c57
                    refine r_iload C dX3_lineUpReaders_60 rfl ?_
                    refine r_iload C dX3_lineUpReaders_62 rfl ?_
                    refine r_callSN C dX3_lineUpReaders_64 (c_has (upR σ 18 2 g2) τ P2 (nI j)) rfl kB_X5_has rfl kS_X5_has kl_X3_46 (by decide) (Nat.le_of_ble_eq_true rfl) (by decide) ?_
                    rintro r9 σ' τ' ⟨rfl, rfl, rfl⟩
                    rw [hasB_bt hjl]
                    refine r_ifne (tgt := 87) C dX3_lineUpReaders_67 (by decide) (fun c67 => ?_) (fun c67 => ?_)
                    · have h67 := b2i_n.mp c67
                      have hin := inB_f (ρ := ρ) (x := x) (rd := σ 7 3) (j := j) (Or.inr ((hP2.2.2 j hjl).mp h67))
                      have hg3 : onL g2 (inB (σ 7 3) x ρ (j + 1)) := by rw [hin]; exact hg2
                      have hP3 : rwL P2 (inB (σ 7 3) x ρ (j + 1)) := by rw [hin]; exact hP2
                      have hgi3 := hgi
                      have hil3 : i < (inB (σ 7 3) x ρ (j + 1)).length := by rw [hin]; exact hil2
                      have hL3 : [some (Value.ref (ad 5 0)), some (.int (nI cell)), some (.ref (ad 18 2)), some (.int (nI (inB (σ 7 3) x ρ (j + 1)).length)), some (.int P2), some (.int (nI i)), some (.int (nI (j + 1)))] = [some (.ref (ad 5 0)), some (.int (nI cell)), some (.ref (ad 18 2)), some (.int (nI (inB (σ 7 3) x ρ j).length)), some (.int P2), some (.int (nI i)), some (.int (nI j + Int32.ofInt 1))] := by rw [hin, ← nI_p1 j]
                      refine r_iinc C dX3_lineUpReaders_87 rfl rfl (by decide) rfl ?_
                      refine r_goto (tgt := 30) C dX3_lineUpReaders_90 (by decide) ?_
                      exact r_swk (ih2 (j + 1) (by omega) (by omega) _ _ hg3 hP3 hgi3 hil3) rfl rfl hL3 rfl
                    · have h67 := b2i_0.mp c67
                      have hnin : ¬ j ∈ inB (σ 7 3) x ρ j := fun q => by rw [(hP2.2.2 j hjl).mpr q] at h67; cases h67
                      refine r_aload_n C dX3_lineUpReaders_70 rfl rfl ?_
                      refine r_iload_n C dX3_lineUpReaders_71 rfl rfl ?_
                      refine r_iload C dX3_lineUpReaders_72 rfl ?_
                      refine r_iastv C dX3_lineUpReaders_74 ⟨by decide, by decide⟩ (fun _ => rfl) (vp_in_nI hcl (by decide)) (nI_clamp (by omega)) ?_
                      rw [up3_upR]
                      have hin := inB_t (ρ := ρ) (x := x) (rd := σ 7 3) (j := j) h57 hnin
                      have hg3 : onL (upd g2 (inB (σ 7 3) x ρ j).length (nI j)) (inB (σ 7 3) x ρ (j + 1)) := by rw [hin]; exact onL_push hg2 j
                      have hP3 : rwL (P2 ||| b1 j) (inB (σ 7 3) x ρ (j + 1)) := by rw [hin]; exact rwL_push hP2 hjl hnin
                      have hgi3 : upd g2 (inB (σ 7 3) x ρ j).length (nI j) i = nI x := by unfold upd; rw [if_neg (by omega)]; exact hgi
                      have hil3 : i < (inB (σ 7 3) x ρ (j + 1)).length := by rw [hin, List.length_append]; omega
                      have hL3 : [some (Value.ref (ad 5 0)), some (.int (nI cell)), some (.ref (ad 18 2)), some (.int (nI (inB (σ 7 3) x ρ (j + 1)).length)), some (.int (P2 ||| b1 j)), some (.int (nI i)), some (.int (nI (j + 1)))] = [some (.ref (ad 5 0)), some (.int (nI cell)), some (.ref (ad 18 2)), some (.int (nI (inB (σ 7 3) x ρ j).length + Int32.ofInt 1)), some (.int (P2 ||| b1 j)), some (.int (nI i)), some (.int (nI j + Int32.ofInt 1))] := by
                        rw [hin, List.length_append, List.length_singleton, ← nI_p1 j, ← nI_p1 (inB (σ 7 3) x ρ j).length]
                      refine r_iinc C dX3_lineUpReaders_75 rfl rfl (by decide) rfl ?_
                      refine r_iload C dX3_lineUpReaders_78 rfl ?_
                      refine r_iconst (v := 1) C dX3_lineUpReaders_80 rfl ?_
                      refine r_iload C dX3_lineUpReaders_81 rfl ?_
                      refine r_ishl C dX3_lineUpReaders_83 ?_
                      refine r_ior C dX3_lineUpReaders_84 ?_
                      refine r_istore C dX3_lineUpReaders_85 (by decide) rfl ?_
                      refine r_iinc C dX3_lineUpReaders_87 rfl rfl (by decide) rfl ?_
                      refine r_goto (tgt := 30) C dX3_lineUpReaders_90 (by decide) ?_
                      exact r_swk (ih2 (j + 1) (by omega) (by omega) _ _ hg3 hP3 hgi3 hil3) rfl rfl hL3 rfl
          exact lp2 17 0 (by omega) (by omega) g P hg hP (hg i x hxi) hil
  refine r_swk (lp1 17 0 (by omega) (by omega) [cell] (upd (σ 18 2) 0 (nI cell)) (b1 cell) ?_ ?_ rfl) rfl rfl rfl rfl
  · have := onL_push (g := σ 18 2) (ρ := []) (fun j x h => by simp at h) cell
    exact this
  · have := rwL_push (P := 0) (ρ := []) ⟨List.nodup_nil, fun x h => by simp at h, fun c hc => by rw [b_0]; simp⟩ hc (by simp)
    rw [show (0 : Int32) ||| b1 cell = b1 cell from b_ext (fun i _ => by rw [b_or, b_0, Bool.false_or])] at this
    exact this
end
section
/-! ===== what is unlocked is kept; locks and changes of the whole object: printed by g26.py ===== -/
theorem inB_ok {rd : Nat → Int32} {x : Nat} {ρ : List Nat} (h1 : ρ.Nodup) (h2 : ∀ x, x ∈ ρ → x < 16) : ∀ n, n ≤ 16 → (inB rd x ρ n).Nodup ∧ ∀ y, y ∈ inB rd x ρ n → y < 16
  | 0, _ => ⟨h1, h2⟩
  | n + 1, hn => by
    obtain ⟨a, b⟩ := inB_ok (rd := rd) (x := x) h1 h2 n (by omega)
    rcases Classical.em (bt (rd n) x = true ∧ ¬ n ∈ inB rd x ρ n) with q | q
    · rw [inB_t q.1 q.2]
      refine ⟨List.nodup_append.mpr ⟨a, by simp, fun u hu v hv e => by
        simp at hv
        subst hv; subst e
        exact q.2 hu⟩, fun y hy => ?_⟩
      rcases List.mem_append.mp hy with h | h
      · exact b y h
      · simp at h; omega
    · have : inB rd x ρ (n + 1) = inB rd x ρ n := if_neg q
      rw [this]
      exact ⟨a, b⟩
theorem bfs_ok {rd : Nat → Int32} : ∀ f i (ρ : List Nat), ρ.Nodup → (∀ x, x ∈ ρ → x < 16) → (bfs rd f i ρ).Nodup ∧ ∀ y, y ∈ bfs rd f i ρ → y < 16
  | 0, _, ρ, h1, h2 => ⟨h1, h2⟩
  | f + 1, i, ρ, h1, h2 => by
    cases hx : ρ[i]? with
    | none => rw [bfs_end hx]; exact ⟨h1, h2⟩
    | some x =>
      rw [bfs_go hx]
      obtain ⟨a, b⟩ := inB_ok (rd := rd) (x := x) h1 h2 16 (by omega)
      exact bfs_ok f (i + 1) _ a b
/-- the row of the desk, and how many are unlocked -/
def kS (σ : gSig) (g : Nat → Int32) (u : Nat) : gSig := up3 (upR σ 18 2 g) 17 0 4 (nI u)
theorem kS_row (σ : gSig) (g : Nat → Int32) (u j : Nat) (x : Int32) : up3 (kS σ g u) 18 2 j x = kS σ (upd g j x) u := by
  funext f' c' i'
  unfold kS up3 upR upd
  by_cases h1 : f' = 18
  · subst h1
    by_cases h2 : c' = 2
    · subst h2
      by_cases h3 : i' = j <;> simp [h3]
    · simp [h2]
  · simp [h1]
theorem kS_cnt (σ : gSig) (g : Nat → Int32) (u u' : Nat) : up3 (kS σ g u) 17 0 4 (nI u') = kS σ g u' := up3_up3 _ _ _ _ _ _
/-- the row of those that are unlocked -/
def unL (rd : Nat → Int32) (cell : Nat) (freed : Int32) : List Nat := (bfs rd 16 0 [cell]).filter (fun x => bt freed x)
set_option maxRecDepth 100000 in
set_option maxHeartbeats 4000000 in
theorem c_keepUnlocked {l : Launch} {D : va_G} {ad : Nat → Nat → Nat} {aC : Nat → ClassId} (σ : gSig) (τ : gTau) (cell : Nat) (freed : Int32) (hc : cell < 16) : CZ l D ad aC yX1_keepUnlocked cX1_keepUnlocked 7 none 2 [.ref (ad 17 0), .ref (ad 5 0), .int (nI cell), .int freed] σ τ (fun r σ' τ' => ∃ g, none = r ∧ kS σ g (unL (σ 7 3) cell freed).length = σ' ∧ τ = τ' ∧ onL g (unL (σ 7 3) cell freed)) := by
  refine CZ.of (own := RX1) (by decide +kernel) rfl (Nat.le_of_ble_eq_true rfl) (fun S C => ?_)
  refine r_aload_n C dX1_keepUnlocked_0 rfl rfl ?_
  refine r_iload_n C dX1_keepUnlocked_1 rfl rfl ?_
  refine r_aload_n C dX1_keepUnlocked_2 rfl rfl ?_
  refine r_get (f := 2) C dX1_keepUnlocked_3 ⟨by decide, by decide⟩ rfl rfl kU1 (by decide) kf_X1_18 rfl rfl ?_
  refine r_callV C dX1_keepUnlocked_6 (c_lineUp σ τ cell hc) rfl ⟨by decide, by decide⟩ rfl rfl kB_X3_lineUpReaders rfl kI_X3_lineUpReaders kV_X3_lineUpReaders kl_X1_25 (by decide) (Nat.le_of_ble_eq_true rfl) (by decide) ?_
  rintro r9 σ' τ' ⟨g0, rfl, rfl, rfl, hg0⟩
  obtain ⟨hnd, hlt⟩ := bfs_ok (rd := σ 7 3) 16 0 [cell] (by simp) (fun x hx => by simp at hx; omega)
  obtain ⟨ρ, hρ⟩ : ∃ z, z = bfs (σ 7 3) 16 0 [cell] := ⟨_, rfl⟩
  rw [← hρ] at hg0 hnd hlt ⊢
  have hlen := nodup_len hnd hlt
  refine r_istore C dX1_keepUnlocked_9 (by decide) rfl ?_
  refine r_aload_n C dX1_keepUnlocked_11 rfl rfl ?_
  refine r_iconst (v := 0) C dX1_keepUnlocked_12 rfl ?_
  refine r_put (f := 4) C dX1_keepUnlocked_13 ⟨by decide, by decide⟩ rfl rfl kU1 tyX1 tyX1_ok nmX1 (by decide) kf_X1_31 rfl rfl (by decide +kernel) (Nat.le_of_ble_eq_true rfl) (by simp [cel, up3]) ?_
  refine r_iconst (v := 0) C dX1_keepUnlocked_16 rfl ?_
  refine r_istore C dX1_keepUnlocked_17 (by decide) rfl ?_
  have lp : ∀ m i, i ≤ 16 → 16 - i < m → ∀ (g : Nat → Int32), onL g ((ρ.take i).filter (fun x => bt freed x)) → (∀ j x, i ≤ j → ρ[j]? = some x → g j = nI x) → S 0 (kS σ g (((ρ.take i).filter (fun x => bt freed x)).length)) τ 19 [some (.ref (ad 17 0)), some (.ref (ad 5 0)), some (.int (nI cell)), some (.int freed), some (.int (nI ρ.length)), some (.int (nI i)), none] [] := by
    intro m
    induction m with
    | zero => intro i _ hm; omega
    | succ m ih =>
      intro i hi hm g hg hgr
      have hul : ((ρ.take i).filter (fun x => bt freed x)).length ≤ i := Nat.le_trans (List.length_filter_le _ _) (by rw [List.length_take]; omega)
      refine r_iload C dX1_keepUnlocked_19 rfl ?_
      refine r_iload C dX1_keepUnlocked_21 rfl ?_
      refine r_icmpge (tgt := 78) C dX1_keepUnlocked_23 (by decide) (fun c23 => ?_) (fun c23 => ?_)
      · have n23 := Int32.not_lt.mpr c23
        have hfin : (ρ.take i) = ρ := List.take_of_length_le (by exact (nI_leI (by omega) (by omega)).mp c23)
        exact r_ret C dX1_keepUnlocked_78 rfl (by decide) ⟨g, by rfl, by rw [hfin, hρ]; rfl, rfl, by rw [hfin, hρ] at hg; exact hg⟩
      · have n23 := Int32.not_le.mp c23
        have hil : i < ρ.length := (nI_ltI (by omega) (by omega)).mp n23
        refine r_iload C dX1_keepUnlocked_26 rfl ?_
        refine r_bipush (v := 16) C dX1_keepUnlocked_28 rfl ?_
        refine r_icmpge (tgt := 78) C dX1_keepUnlocked_30 (by decide) (fun c30 => ?_) (fun c30 => ?_)
        · have n30 := Int32.not_lt.mpr c30
          exact absurd ((nI_leI (a := 16) (by decide) (by omega)).mp c30) (by omega)
        · have n30 := Int32.not_le.mp c30
          have hxi : ρ[i]? = some ρ[i] := List.getElem?_eq_getElem hil
          generalize ρ[i] = x at hxi
          have hx16 : x < 16 := hlt x (List.mem_of_getElem? hxi)
          have htk : ((ρ.take (i + 1)).filter (fun x => bt freed x)) = ((ρ.take i).filter (fun x => bt freed x)) ++ (if bt freed x then [x] else []) := by
            rw [List.take_succ, hxi, List.filter_append]
            congr 1
            cases h : bt freed x <;> simp [h]
          refine r_aload_n C dX1_keepUnlocked_33 rfl rfl ?_
          refine r_get (f := 2) C dX1_keepUnlocked_34 ⟨by decide, by decide⟩ rfl rfl kU1 (by decide) kf_X1_18 rfl rfl ?_
          refine r_iload C dX1_keepUnlocked_37 rfl ?_
          refine r_ialdv (v := nI x) C dX1_keepUnlocked_39 ⟨by decide, by decide⟩ rfl (vp_in_nI (show i < 16 by omega) (by decide)) (by rw [nI_clamp (by omega)]; show (upR σ 18 2 g) 18 2 i = _; rw [upR_self]; exact hgr i x (Nat.le_refl i) hxi) ?_
          refine r_istore C dX1_keepUnlocked_40 (by decide) rfl ?_
          refine r_iload_n C dX1_keepUnlocked_42 rfl rfl ?_
          refine r_iload C dX1_keepUnlocked_43 rfl ?_
          refine r_callSN C dX1_keepUnlocked_45 (c_has (kS σ g (((ρ.take i).filter (fun x => bt freed x)).length)) τ freed (nI x)) rfl kB_X5_has rfl kS_X5_has kl_X1_34 (by decide) (Nat.le_of_ble_eq_true rfl) (by decide) ?_
          rintro r9 σ' τ' ⟨rfl, rfl, rfl⟩
          rw [hasB_bt hx16]
          refine r_ifeq (tgt := 72) C dX1_keepUnlocked_48 (by decide) (fun c48 => ?_) (fun c48 => ?_)
          · have h48 := b2i_0.mp c48
            rw [h48] at htk
            have hst2 : kS σ g (((ρ.take i).filter (fun x => bt freed x)) ++ []).length = kS σ g ((ρ.take i).filter (fun x => bt freed x)).length := by rw [List.append_nil]
            have hg2 : onL g ((ρ.take (i + 1)).filter (fun x => bt freed x)) := by rw [htk]; show onL g (_ ++ []); rw [List.append_nil]; exact hg
            have hgr2 : ∀ j x, i + 1 ≤ j → ρ[j]? = some x → g j = nI x := fun j x hj h => hgr j x (by omega) h
            refine r_iinc C dX1_keepUnlocked_72 rfl rfl (by decide) rfl ?_
            refine r_goto (tgt := 19) C dX1_keepUnlocked_75 (by decide) ?_
            refine r_drop C [6] ?_
            exact r_swk (ih (i + 1) (by omega) (by omega) _ hg2 hgr2) (by rw [htk]; exact hst2) rfl (by rw [← nI_p1]; rfl) rfl
          · have h48 := b2i_n.mp c48
            rw [h48] at htk
            refine r_aload_n C dX1_keepUnlocked_51 rfl rfl ?_
            refine r_get (f := 2) C dX1_keepUnlocked_52 ⟨by decide, by decide⟩ rfl rfl kU1 (by decide) kf_X1_18 rfl rfl ?_
            refine r_aload_n C dX1_keepUnlocked_55 rfl rfl ?_
            refine r_get (f := 4) (v := .int (nI ((ρ.take i).filter (fun x => bt freed x)).length)) C dX1_keepUnlocked_56 ⟨by decide, by decide⟩ rfl rfl kU1 (by decide) kf_X1_31 rfl (by simp [kS, up3_at]) ?_
            refine r_iload C dX1_keepUnlocked_59 rfl ?_
            refine r_iastv C dX1_keepUnlocked_61 ⟨by decide, by decide⟩ (fun _ => rfl) (vp_in_nI (show ((ρ.take i).filter (fun x => bt freed x)).length < 16 by omega) (by decide)) (nI_clamp (by omega)) ?_
            rw [kS_row]
            refine r_aload_n C dX1_keepUnlocked_62 rfl rfl ?_
            refine r_dup C dX1_keepUnlocked_63 rfl ?_
            refine r_get (f := 4) (v := .int (nI ((ρ.take i).filter (fun x => bt freed x)).length)) C dX1_keepUnlocked_64 ⟨by decide, by decide⟩ rfl rfl kU1 (by decide) kf_X1_31 rfl (by simp [kS, up3_at]) ?_
            refine r_iconst (v := 1) C dX1_keepUnlocked_67 rfl ?_
            refine r_iadd C dX1_keepUnlocked_68 ?_
            rw [nI_1]
            refine r_put (f := 4) C dX1_keepUnlocked_69 ⟨by decide, by decide⟩ rfl rfl kU1 tyX1 tyX1_ok nmX1 (by decide) kf_X1_31 rfl rfl (by decide +kernel) (Nat.le_of_ble_eq_true rfl) (by simp [cel, up3]) ?_
            rw [kS_cnt]
            have hg2 : onL (upd g ((ρ.take i).filter (fun x => bt freed x)).length (nI x)) ((ρ.take (i + 1)).filter (fun x => bt freed x)) := by rw [htk]; exact onL_push hg x
            have hgr2 : ∀ j y, i + 1 ≤ j → ρ[j]? = some y → (upd g ((ρ.take i).filter (fun x => bt freed x)).length (nI x)) j = nI y := fun j y hj h => by
              unfold upd
              rw [if_neg (by omega)]
              exact hgr j y (by omega) h
            have hst2 : kS σ (upd g ((ρ.take i).filter (fun x => bt freed x)).length (nI x)) (((ρ.take i).filter (fun x => bt freed x)) ++ (if true = true then [x] else [])).length = kS σ (upd g ((ρ.take i).filter (fun x => bt freed x)).length (nI x)) (((ρ.take i).filter (fun x => bt freed x)).length + 1) := by
              rw [if_pos rfl, List.length_append, List.length_singleton]
            refine r_iinc C dX1_keepUnlocked_72 rfl rfl (by decide) rfl ?_
            refine r_goto (tgt := 19) C dX1_keepUnlocked_75 (by decide) ?_
            refine r_drop C [6] ?_
            exact r_swk (ih (i + 1) (by omega) (by omega) _ hg2 hgr2) (by rw [htk]; exact hst2) rfl (by rw [← nI_p1]; rfl) rfl
  refine r_swk (lp 17 0 (by omega) (by omega) g0 (fun j x h => by simp at h) (fun j x _ h => hg0 j x h)) ?_ rfl rfl rfl
  simp [kS, nI_0]
def lcC (σ : gSig) (o : Nat → Nat) : Int32 := lkF (σ 7 3) (σ 13 0 6) (wvF (σ 18 1) (σ 17 0 3) 16) o 16
set_option maxRecDepth 100000 in
set_option maxHeartbeats 4000000 in
theorem c_lockedCells {l : Launch} {D : va_G} {ad : Nat → Nat → Nat} {aC : Nat → ClassId} (σ : gSig) (τ : gTau) (o : Nat → Nat) (hO : ordI (σ 7 5) o 16) : CZ l D ad aC yX5_lockedCells cX5_lockedCells 1 (some .int) 2 [.ref (ad 0 0)] σ τ (gEq (some (.int (lcC σ o))) σ τ) := by
  refine CZ.of (own := RX5) (by decide +kernel) rfl (Nat.le_of_ble_eq_true rfl) (fun S C => ?_)
  refine r_aload_n C dX5_lockedCells_0 rfl rfl ?_
  refine r_get (f := 1) C dX5_lockedCells_1 ⟨by decide, by decide⟩ rfl rfl kU5 (by decide) kf_X5_19 rfl rfl ?_
  refine r_aload_n C dX5_lockedCells_4 rfl rfl ?_
  refine r_get (f := 3) C dX5_lockedCells_5 ⟨by decide, by decide⟩ rfl rfl kU5 (by decide) kf_X5_33 rfl rfl ?_
  refine r_get (f := 6) C dX5_lockedCells_8 ⟨by decide, by decide⟩ rfl rfl kU4 (by decide) kf_X5_138 rfl rfl ?_
  refine r_aload_n C dX5_lockedCells_11 rfl rfl ?_
  refine r_get (f := 4) C dX5_lockedCells_12 ⟨by decide, by decide⟩ rfl rfl kU5 (by decide) kf_X5_40 rfl rfl ?_
  refine r_callV C dX5_lockedCells_15 (c_waived σ τ) rfl ⟨by decide, by decide⟩ rfl rfl kB_X1_waivedCells rfl kI_X1_waivedCells kV_X1_waivedCells kl_X5_215 (by decide) (Nat.le_of_ble_eq_true rfl) (by decide) ?_
  rintro r9 σ' τ' ⟨rfl, rfl, rfl⟩
  refine r_callV C dX5_lockedCells_18 (c_sLocked σ τ (σ 13 0 6) (wvF (σ 18 1) (σ 17 0 3) 16) o hO) rfl ⟨by decide, by decide⟩ rfl rfl kB_X3_lockedCells rfl kI_X3_lockedCells kV_X3_lockedCells kl_X5_235 (by decide) (Nat.le_of_ble_eq_true rfl) (by decide) ?_
  rintro r9 σ' τ' ⟨rfl, rfl, rfl⟩
  exact r_iret C dX5_lockedCells_21 rfl (by decide) ⟨rfl, rfl, rfl⟩
def chM (σ : gSig) (cell : Nat) : Int32 := croF (σ 7 4) cell 16 ||| b1 cell
def fcS (σ : gSig) (cell : Nat) : gSig := up3 (up3 σ 18 1 cell (-1)) 13 0 5 (σ 13 0 5 &&& (chM σ cell ^^^ (-1)))
set_option maxRecDepth 100000 in
set_option maxHeartbeats 4000000 in
theorem c_followChange {l : Launch} {D : va_G} {ad : Nat → Nat → Nat} {aC : Nat → ClassId} (σ : gSig) (τ : gTau) (cell : Nat) (hc : cell < 16) : CZ l D ad aC yX5_followChange cX5_followChange 2 (some .int) 2 [.ref (ad 0 0), .int (nI cell)] σ τ (gEq (some (.int (bcJ (σ 13 0 5 &&& chM σ cell)))) (fcS σ cell) τ) := by
  refine CZ.of (own := RX5) (by decide +kernel) rfl (Nat.le_of_ble_eq_true rfl) (fun S C => ?_)
  refine r_aload_n C dX5_followChange_0 rfl rfl ?_
  refine r_get (f := 4) C dX5_followChange_1 ⟨by decide, by decide⟩ rfl rfl kU5 (by decide) kf_X5_40 rfl rfl ?_
  refine r_get (f := 1) C dX5_followChange_4 ⟨by decide, by decide⟩ rfl rfl kU1 (by decide) kf_X5_160 rfl rfl ?_
  refine r_iload_n C dX5_followChange_7 rfl rfl ?_
  refine r_iconst (v := (-1)) C dX5_followChange_8 rfl ?_
  refine r_iastv C dX5_followChange_9 ⟨by decide, by decide⟩ (fun _ => rfl) (vp_in_nI hc (by decide)) (nI_clamp (by omega)) ?_
  refine r_aload_n C dX5_followChange_10 rfl rfl ?_
  refine r_get (f := 3) C dX5_followChange_11 ⟨by decide, by decide⟩ rfl rfl kU5 (by decide) kf_X5_33 rfl rfl ?_
  refine r_aload_n C dX5_followChange_14 rfl rfl ?_
  refine r_get (f := 1) C dX5_followChange_15 ⟨by decide, by decide⟩ rfl rfl kU5 (by decide) kf_X5_19 rfl rfl ?_
  refine r_iload_n C dX5_followChange_18 rfl rfl ?_
  refine r_callV C dX5_followChange_19 (c_cellsRestingOn (up3 σ 18 1 cell (-1)) τ cell hc) rfl ⟨by decide, by decide⟩ rfl rfl kB_X3_cellsRestingOn rfl kI_X3_cellsRestingOn kV_X3_cellsRestingOn kl_X5_237 (by decide) (Nat.le_of_ble_eq_true rfl) (by decide) ?_
  rintro r9 σ' τ' ⟨rfl, rfl, rfl⟩
  refine r_iconst (v := 1) C dX5_followChange_22 rfl ?_
  refine r_iload_n C dX5_followChange_23 rfl rfl ?_
  refine r_ishl C dX5_followChange_24 ?_
  refine r_ior C dX5_followChange_25 ?_
  refine r_callV C dX5_followChange_26 (c_untry (up3 σ 18 1 cell (-1)) τ (croF ((up3 σ 18 1 cell (-1)) 7 4) cell 16 ||| b1 cell)) rfl ⟨by decide, by decide⟩ rfl rfl kB_X4_untry rfl kI_X4_untry kV_X4_untry kl_X5_125 (by decide) (Nat.le_of_ble_eq_true rfl) (by decide) ?_
  rintro r9 σ' τ' ⟨rfl, rfl, rfl⟩
  exact r_iret C dX5_followChange_29 rfl (by decide) ⟨rfl, rfl, rfl⟩
end
section
/-! ===== the face, first half: printed by g27.py ===== -/
def isO (o : Int32) : Prop := ¬ o < 0 ∧ o < 12
set_option maxRecDepth 100000 in
set_option maxHeartbeats 4000000 in
theorem c_number {l : Launch} {D : va_G} {ad : Nat → Nat → Nat} {aC : Nat → ClassId} (σ : gSig) (τ : gTau) (v : Int32) (k : Nat) (hk : σ 1 16 3 = nI k) (hk2 : k ≤ 12) : CT l D ad aC yX5_number cX5_number 2 (some .int) 7 1 [.ref (ad 0 0), .int v] σ τ (fun r σ' τ' => putB σ 16 k 12 = true ∧ gEq (some (.int ((putS σ 16 k 12 v) 1 16 4))) (putS σ 16 k 12 v) τ r σ' τ') (fun E σ' τ' => (E = xISE ∧ putB σ 16 k 12 = false) ∧ σ = σ' ∧ τ = τ') := by
  refine CT.of (own := RX5) (by decide +kernel) rfl (Nat.le_of_ble_eq_true rfl) (fun S C => ?_)
  refine r_aload_n C dX5_number_0 rfl rfl ?_
  refine r_get (f := 0) C dX5_number_1 ⟨by decide, by decide⟩ rfl rfl kU5 (by decide) kf_X5_10 rfl rfl ?_
  refine r_bipush (v := 12) C dX5_number_4 rfl ?_
  refine r_iload_n C dX5_number_6 rfl rfl ?_
  refine r_callV C dX5_number_7 (c_put σ τ 16 k 12 v (by decide) hk hk2) rfl ⟨by decide, by decide⟩ rfl rfl kB_X0_put rfl kI_X0_put kV_X0_put kl_X5_44 (by decide) (Nat.le_of_ble_eq_true rfl) (by decide) ?_
  rintro r9 σ' τ' ⟨rfl, rfl, rfl⟩
  refine r_ifne (tgt := 23) C dX5_number_10 (by decide) (fun c10 => ?_) (fun c10 => ?_)
  · have hp := b2i_n.mp c10
    rw [if_pos hp]
    refine r_aload_n C dX5_number_23 rfl rfl ?_
    refine r_get (f := 0) C dX5_number_24 ⟨by decide, by decide⟩ rfl rfl kU5 (by decide) kf_X5_10 rfl rfl ?_
    refine r_get (f := 4) C dX5_number_27 ⟨by decide, by decide⟩ rfl rfl kU0 (by decide) kf_X5_55 rfl rfl ?_
    exact r_iret C dX5_number_30 rfl (by decide) ⟨hp, rfl, rfl, rfl⟩
  · have hp := b2i_0.mp c10
    rw [if_neg (by rw [hp]; decide)]
    obtain ⟨⟨t1, t2⟩, ⟨t3, t4⟩, t5, t6⟩ := kt_X5_48_52
    exact r_throw (is := 50) (text := "the draft has 12 parts") C trivial t1 t2 t3 t4 (by decide +kernel) t5 dX5_number_13 dX5_number_16 dX5_number_17 dX5_number_19 dX5_number_22 (by decide) (Nat.le_of_ble_eq_true rfl) (by decide) t6 (⟨⟨rfl, hp⟩, rfl, rfl⟩)
set_option maxRecDepth 100000 in
set_option maxHeartbeats 4000000 in
theorem c_cell {l : Launch} {D : va_G} {ad : Nat → Nat → Nat} {aC : Nat → ClassId} (σ : gSig) (τ : gTau) (cl : Int32) (k : Nat) (hk : σ 1 16 3 = nI k) (hk2 : k ≤ 12) : CT l D ad aC yX5_cell cX5_cell 2 (some .int) 8 2 [.ref (ad 0 0), .int cl] σ τ (fun r σ' τ' => isC cl ∧ putB σ 16 k 13 = true ∧ gEq (some (.int ((putS σ 16 k 13 cl) 1 16 4))) (putS σ 16 k 13 cl) τ r σ' τ') (fun E σ' τ' => ((E = xIOB ∧ ¬ isC cl) ∨ (E = xISE ∧ isC cl ∧ putB σ 16 k 13 = false)) ∧ σ = σ' ∧ τ = τ') := by
  refine CT.of (own := RX5) (by decide +kernel) rfl (Nat.le_of_ble_eq_true rfl) (fun S C => ?_)
  refine r_iload_n C dX5_cell_0 rfl rfl ?_
  refine r_callSX C trivial dX5_cell_1 (c_needCell σ τ cl) rfl kB_X5_needCell rfl kS_X5_needCell kl_X5_59 (by decide) (Nat.le_of_ble_eq_true rfl) (by decide) ?_ ?_
  · rintro E σ' τ' ⟨rfl, rfl, rfl, hx⟩
    exact ⟨Or.inl ⟨rfl, hx⟩, rfl, rfl⟩
  rintro r9 σ' τ' ⟨⟨rfl, rfl, rfl⟩, hcell⟩
  refine r_aload_n C dX5_cell_4 rfl rfl ?_
  refine r_get (f := 0) C dX5_cell_5 ⟨by decide, by decide⟩ rfl rfl kU5 (by decide) kf_X5_10 rfl rfl ?_
  refine r_bipush (v := 13) C dX5_cell_8 rfl ?_
  refine r_iload_n C dX5_cell_10 rfl rfl ?_
  refine r_callV C dX5_cell_11 (c_put σ τ 16 k 13 cl (by decide) hk hk2) rfl ⟨by decide, by decide⟩ rfl rfl kB_X0_put rfl kI_X0_put kV_X0_put kl_X5_44 (by decide) (Nat.le_of_ble_eq_true rfl) (by decide) ?_
  rintro r9 σ' τ' ⟨rfl, rfl, rfl⟩
  refine r_ifne (tgt := 27) C dX5_cell_14 (by decide) (fun c14 => ?_) (fun c14 => ?_)
  · have hp := b2i_n.mp c14
    rw [if_pos hp]
    refine r_aload_n C dX5_cell_27 rfl rfl ?_
    refine r_get (f := 0) C dX5_cell_28 ⟨by decide, by decide⟩ rfl rfl kU5 (by decide) kf_X5_10 rfl rfl ?_
    refine r_get (f := 4) C dX5_cell_31 ⟨by decide, by decide⟩ rfl rfl kU0 (by decide) kf_X5_55 rfl rfl ?_
    exact r_iret C dX5_cell_34 rfl (by decide) ⟨hcell, hp, rfl, rfl, rfl⟩
  · have hp := b2i_0.mp c14
    rw [if_neg (by rw [hp]; decide)]
    obtain ⟨⟨t1, t2⟩, ⟨t3, t4⟩, t5, t6⟩ := kt_X5_48_52
    exact r_throw (is := 50) (text := "the draft has 12 parts") C trivial t1 t2 t3 t4 (by decide +kernel) t5 dX5_cell_17 dX5_cell_20 dX5_cell_21 dX5_cell_23 dX5_cell_26 (by decide) (Nat.le_of_ble_eq_true rfl) (by decide) t6 (⟨Or.inr ⟨rfl, hcell, hp⟩, rfl, rfl⟩)
set_option maxRecDepth 100000 in
set_option maxHeartbeats 4000000 in
theorem c_apply {l : Launch} {D : va_G} {ad : Nat → Nat → Nat} {aC : Nat → ClassId} (σ : gSig) (τ : gTau) (op : Int32) (k : Nat) (hk : σ 1 16 3 = nI k) (hk2 : k ≤ 12) : CT l D ad aC yX5_apply cX5_apply 2 (some .int) 7 1 [.ref (ad 0 0), .int op] σ τ (fun r σ' τ' => isO op ∧ putB σ 16 k op = true ∧ gEq (some (.int ((putS σ 16 k op 0) 1 16 4))) (putS σ 16 k op 0) τ r σ' τ') (fun E σ' τ' => ((E = xIAE ∧ ¬ isO op) ∨ (E = xISE ∧ isO op ∧ putB σ 16 k op = false)) ∧ σ = σ' ∧ τ = τ') := by
  refine CT.of (own := RX5) (by decide +kernel) rfl (Nat.le_of_ble_eq_true rfl) (fun S C => ?_)
  refine r_iload_n C dX5_apply_0 rfl rfl ?_
  refine r_iflt (tgt := 10) C dX5_apply_1 (by decide) (fun c1 => ?_) (fun c1 => ?_)
  · have hno : ¬ isO op := fun q => q.1 c1
    obtain ⟨⟨t1, t2⟩, ⟨t3, t4⟩, t5, t6⟩ := kt_X5_63_67
    exact r_throw (is := 65) (text := "no such operation") C trivial t1 t2 t3 t4 (by decide +kernel) t5 dX5_apply_10 dX5_apply_13 dX5_apply_14 dX5_apply_16 dX5_apply_19 (by decide) (Nat.le_of_ble_eq_true rfl) (by decide) t6 (⟨Or.inl ⟨rfl, hno⟩, rfl, rfl⟩)
  · refine r_iload_n C dX5_apply_4 rfl rfl ?_
    refine r_bipush (v := 12) C dX5_apply_5 rfl ?_
    refine r_icmplt (tgt := 20) C dX5_apply_7 (by decide) (fun c7 => ?_) (fun c7 => ?_)
    · have n7 := Int32.not_le.mpr c7
      have ho : isO op := ⟨c1, c7⟩
      refine r_aload_n C dX5_apply_20 rfl rfl ?_
      refine r_get (f := 0) C dX5_apply_21 ⟨by decide, by decide⟩ rfl rfl kU5 (by decide) kf_X5_10 rfl rfl ?_
      refine r_iload_n C dX5_apply_24 rfl rfl ?_
      refine r_iconst (v := 0) C dX5_apply_25 rfl ?_
      refine r_callV C dX5_apply_26 (c_put σ τ 16 k op 0 (by decide) hk hk2) rfl ⟨by decide, by decide⟩ rfl rfl kB_X0_put rfl kI_X0_put kV_X0_put kl_X5_44 (by decide) (Nat.le_of_ble_eq_true rfl) (by decide) ?_
      rintro r9 σ' τ' ⟨rfl, rfl, rfl⟩
      refine r_ifne (tgt := 42) C dX5_apply_29 (by decide) (fun c29 => ?_) (fun c29 => ?_)
      · have hp := b2i_n.mp c29
        rw [if_pos hp]
        refine r_aload_n C dX5_apply_42 rfl rfl ?_
        refine r_get (f := 0) C dX5_apply_43 ⟨by decide, by decide⟩ rfl rfl kU5 (by decide) kf_X5_10 rfl rfl ?_
        refine r_get (f := 4) C dX5_apply_46 ⟨by decide, by decide⟩ rfl rfl kU0 (by decide) kf_X5_55 rfl rfl ?_
        exact r_iret C dX5_apply_49 rfl (by decide) ⟨ho, hp, rfl, rfl, rfl⟩
      · have hp := b2i_0.mp c29
        rw [if_neg (by rw [hp]; decide)]
        obtain ⟨⟨t1, t2⟩, ⟨t3, t4⟩, t5, t6⟩ := kt_X5_48_52
        exact r_throw (is := 68) (text := "the draft has fewer than two formulas, or 12 parts") C trivial t1 t2 t3 t4 (by decide +kernel) t5 dX5_apply_32 dX5_apply_35 dX5_apply_36 dX5_apply_38 dX5_apply_41 (by decide) (Nat.le_of_ble_eq_true rfl) (by decide) t6 (⟨Or.inr ⟨rfl, ho, hp⟩, rfl, rfl⟩)
    · have n7 := Int32.not_lt.mp c7
      have hno : ¬ isO op := fun q => c7 q.2
      obtain ⟨⟨t1, t2⟩, ⟨t3, t4⟩, t5, t6⟩ := kt_X5_63_67
      exact r_throw (is := 65) (text := "no such operation") C trivial t1 t2 t3 t4 (by decide +kernel) t5 dX5_apply_10 dX5_apply_13 dX5_apply_14 dX5_apply_16 dX5_apply_19 (by decide) (Nat.le_of_ble_eq_true rfl) (by decide) t6 (⟨Or.inl ⟨rfl, hno⟩, rfl, rfl⟩)
def clS (σ : gSig) : gSig := up3 (up3 σ 1 16 3 0) 1 16 4 0
set_option maxRecDepth 100000 in
set_option maxHeartbeats 4000000 in
theorem c_wipe {l : Launch} {D : va_G} {ad : Nat → Nat → Nat} {aC : Nat → ClassId} (σ : gSig) (τ : gTau)  : CZ l D ad aC yX5_wipe cX5_wipe 2 (some .int) 1 [.ref (ad 0 0)] σ τ (gEq (some (.int (σ 1 16 3))) (clS σ) τ) := by
  refine CZ.of (own := RX5) (by decide +kernel) rfl (Nat.le_of_ble_eq_true rfl) (fun S C => ?_)
  refine r_aload_n C dX5_wipe_0 rfl rfl ?_
  refine r_get (f := 0) C dX5_wipe_1 ⟨by decide, by decide⟩ rfl rfl kU5 (by decide) kf_X5_10 rfl rfl ?_
  refine r_get (f := 3) C dX5_wipe_4 ⟨by decide, by decide⟩ rfl rfl kU0 (by decide) kf_X5_70 rfl rfl ?_
  refine r_istore_n C dX5_wipe_7 rfl (by decide) rfl ?_
  refine r_aload_n C dX5_wipe_8 rfl rfl ?_
  refine r_get (f := 0) C dX5_wipe_9 ⟨by decide, by decide⟩ rfl rfl kU5 (by decide) kf_X5_10 rfl rfl ?_
  refine r_callV C dX5_wipe_12 (c_clear σ τ 16 (by decide)) rfl ⟨by decide, by decide⟩ rfl rfl kB_X0_clear rfl kI_X0_clear kV_X0_clear kl_X5_73 (by decide) (Nat.le_of_ble_eq_true rfl) (by decide) ?_
  rintro r9 σ' τ' ⟨rfl, rfl, rfl⟩
  refine r_iload_n C dX5_wipe_15 rfl rfl ?_
  exact r_iret C dX5_wipe_16 rfl (by decide) ⟨rfl, rfl, rfl⟩
set_option maxRecDepth 100000 in
set_option maxHeartbeats 4000000 in
theorem c_drafted {l : Launch} {D : va_G} {ad : Nat → Nat → Nat} {aC : Nat → ClassId} (σ : gSig) (τ : gTau)  : CZ l D ad aC yX5_drafted cX5_drafted 1 (some .int) 0 [.ref (ad 0 0)] σ τ (gEq (some (.int (σ 1 16 3))) σ τ) := by
  refine CZ.of (own := RX5) (by decide +kernel) rfl (Nat.le_of_ble_eq_true rfl) (fun S C => ?_)
  refine r_aload_n C dX5_drafted_0 rfl rfl ?_
  refine r_get (f := 0) C dX5_drafted_1 ⟨by decide, by decide⟩ rfl rfl kU5 (by decide) kf_X5_10 rfl rfl ?_
  refine r_get (f := 3) C dX5_drafted_4 ⟨by decide, by decide⟩ rfl rfl kU0 (by decide) kf_X5_70 rfl rfl ?_
  exact r_iret C dX5_drafted_7 rfl (by decide) ⟨rfl, rfl, rfl⟩
set_option maxRecDepth 100000 in
set_option maxHeartbeats 4000000 in
theorem c_today {l : Launch} {D : va_G} {ad : Nat → Nat → Nat} {aC : Nat → ClassId} (σ : gSig) (τ : gTau)  : CZ l D ad aC yX5_today cX5_today 1 (some .int) 0 [.ref (ad 0 0)] σ τ (gEq (some (.int (σ 17 0 3))) σ τ) := by
  refine CZ.of (own := RX5) (by decide +kernel) rfl (Nat.le_of_ble_eq_true rfl) (fun S C => ?_)
  refine r_aload_n C dX5_today_0 rfl rfl ?_
  refine r_get (f := 4) C dX5_today_1 ⟨by decide, by decide⟩ rfl rfl kU5 (by decide) kf_X5_40 rfl rfl ?_
  refine r_get (f := 3) C dX5_today_4 ⟨by decide, by decide⟩ rfl rfl kU1 (by decide) kf_X5_163 rfl rfl ?_
  exact r_iret C dX5_today_7 rfl (by decide) ⟨rfl, rfl, rfl⟩
set_option maxRecDepth 100000 in
set_option maxHeartbeats 4000000 in
theorem c_unlocked {l : Launch} {D : va_G} {ad : Nat → Nat → Nat} {aC : Nat → ClassId} (σ : gSig) (τ : gTau)  : CZ l D ad aC yX5_unlocked cX5_unlocked 1 (some .int) 0 [.ref (ad 0 0)] σ τ (gEq (some (.int (σ 17 0 4))) σ τ) := by
  refine CZ.of (own := RX5) (by decide +kernel) rfl (Nat.le_of_ble_eq_true rfl) (fun S C => ?_)
  refine r_aload_n C dX5_unlocked_0 rfl rfl ?_
  refine r_get (f := 4) C dX5_unlocked_1 ⟨by decide, by decide⟩ rfl rfl kU5 (by decide) kf_X5_40 rfl rfl ?_
  refine r_get (f := 4) C dX5_unlocked_4 ⟨by decide, by decide⟩ rfl rfl kU1 (by decide) kf_X5_222 rfl rfl ?_
  exact r_iret C dX5_unlocked_7 rfl (by decide) ⟨rfl, rfl, rfl⟩
set_option maxRecDepth 100000 in
set_option maxHeartbeats 4000000 in
theorem c_set {l : Launch} {D : va_G} {ad : Nat → Nat → Nat} {aC : Nat → ClassId} (σ : gSig) (τ : gTau) (cl v : Int32) : CT l D ad aC yX5_set cX5_set 4 (some .int) 8 2 [.ref (ad 0 0), .int cl, .int v] σ τ (fun r σ' τ' => ∃ c, c < 16 ∧ cl = nI c ∧ bt (σ 5 0 8) c = true ∧ (σ 7 0 c ≤ v ∧ v ≤ σ 7 1 c) ∧ gEq (some (.int (σ 7 2 c))) (up3 σ 7 2 c v) τ r σ' τ') (fun E σ' τ' => ((E = xIOB ∧ ¬ isC cl) ∨ (E = xISE ∧ ∃ c, c < 16 ∧ cl = nI c ∧ bt (σ 5 0 8) c = false) ∨ (E = xIAE ∧ ∃ c, c < 16 ∧ cl = nI c ∧ bt (σ 5 0 8) c = true ∧ ¬ (σ 7 0 c ≤ v ∧ v ≤ σ 7 1 c))) ∧ σ = σ' ∧ τ = τ') := by
  refine CT.of (own := RX5) (by decide +kernel) rfl (Nat.le_of_ble_eq_true rfl) (fun S C => ?_)
  refine r_iload_n C dX5_set_0 rfl rfl ?_
  refine r_callSX C trivial dX5_set_1 (c_needCell σ τ cl) rfl kB_X5_needCell rfl kS_X5_needCell kl_X5_59 (by decide) (Nat.le_of_ble_eq_true rfl) (by decide) ?_ ?_
  · rintro E σ' τ' ⟨rfl, rfl, rfl, hx⟩
    exact ⟨Or.inl ⟨rfl, hx⟩, rfl, rfl⟩
  rintro r9 σ' τ' ⟨⟨rfl, rfl, rfl⟩, hcell⟩
  obtain ⟨c, hc, rfl⟩ := isC_nI hcell
  refine r_aload_n C dX5_set_4 rfl rfl ?_
  refine r_get (f := 1) C dX5_set_5 ⟨by decide, by decide⟩ rfl rfl kU5 (by decide) kf_X5_19 rfl rfl ?_
  refine r_iload_n C dX5_set_8 rfl rfl ?_
  refine r_callV C dX5_set_9 (c_isInput σ τ (nI c)) rfl ⟨by decide, by decide⟩ rfl rfl kB_X3_isInput rfl kI_X3_isInput kV_X3_isInput kl_X5_100 (by decide) (Nat.le_of_ble_eq_true rfl) (by decide) ?_
  rintro r9 σ' τ' ⟨rfl, rfl, rfl⟩
  rw [hasB_bt hc]
  refine r_ifne (tgt := 25) C dX5_set_12 (by decide) (fun c12 => ?_) (fun c12 => ?_)
  · have hin := b2i_n.mp c12
    refine r_iload_n C dX5_set_25 rfl rfl ?_
    refine r_aload_n C dX5_set_26 rfl rfl ?_
    refine r_get (f := 1) C dX5_set_27 ⟨by decide, by decide⟩ rfl rfl kU5 (by decide) kf_X5_19 rfl rfl ?_
    refine r_get (f := 1) C dX5_set_30 ⟨by decide, by decide⟩ rfl rfl kU3 (by decide) kf_X5_106 rfl rfl ?_
    refine r_iload_n C dX5_set_33 rfl rfl ?_
    refine r_ialdv (v := σ 7 0 c) C dX5_set_34 ⟨by decide, by decide⟩ rfl (vp_in_nI hc (by decide)) (by rw [nI_clamp (by omega)]) ?_
    refine r_icmplt (tgt := 51) C dX5_set_35 (by decide) (fun c35 => ?_) (fun c35 => ?_)
    · have n35 := Int32.not_le.mpr c35
      have hno : ¬ (σ 7 0 c ≤ v ∧ v ≤ σ 7 1 c) := fun q => n35 q.1
      obtain ⟨⟨t1, t2⟩, ⟨t3, t4⟩, t5, t6⟩ := kt_X5_63_67
      exact r_throw (is := 113) (text := "value is not in the cell's range") C trivial t1 t2 t3 t4 (by decide +kernel) t5 dX5_set_51 dX5_set_54 dX5_set_55 dX5_set_57 dX5_set_60 (by decide) (Nat.le_of_ble_eq_true rfl) (by decide) t6 (⟨Or.inr (Or.inr ⟨rfl, c, hc, rfl, hin, hno⟩), rfl, rfl⟩)
    · have n35 := Int32.not_lt.mp c35
      refine r_iload_n C dX5_set_38 rfl rfl ?_
      refine r_aload_n C dX5_set_39 rfl rfl ?_
      refine r_get (f := 1) C dX5_set_40 ⟨by decide, by decide⟩ rfl rfl kU5 (by decide) kf_X5_19 rfl rfl ?_
      refine r_get (f := 2) C dX5_set_43 ⟨by decide, by decide⟩ rfl rfl kU3 (by decide) kf_X5_110 rfl rfl ?_
      refine r_iload_n C dX5_set_46 rfl rfl ?_
      refine r_ialdv (v := σ 7 1 c) C dX5_set_47 ⟨by decide, by decide⟩ rfl (vp_in_nI hc (by decide)) (by rw [nI_clamp (by omega)]) ?_
      refine r_icmple (tgt := 61) C dX5_set_48 (by decide) (fun c48 => ?_) (fun c48 => ?_)
      · have n48 := Int32.not_lt.mpr c48
        have hyes : σ 7 0 c ≤ v ∧ v ≤ σ 7 1 c := ⟨n35, c48⟩
        refine r_aload_n C dX5_set_61 rfl rfl ?_
        refine r_get (f := 1) C dX5_set_62 ⟨by decide, by decide⟩ rfl rfl kU5 (by decide) kf_X5_19 rfl rfl ?_
        refine r_get (f := 3) C dX5_set_65 ⟨by decide, by decide⟩ rfl rfl kU3 (by decide) kf_X5_115 rfl rfl ?_
        refine r_iload_n C dX5_set_68 rfl rfl ?_
        refine r_ialdv (v := σ 7 2 c) C dX5_set_69 ⟨by decide, by decide⟩ rfl (vp_in_nI hc (by decide)) (by rw [nI_clamp (by omega)]) ?_
        refine r_istore_n C dX5_set_70 rfl (by decide) rfl ?_
        refine r_aload_n C dX5_set_71 rfl rfl ?_
        refine r_get (f := 1) C dX5_set_72 ⟨by decide, by decide⟩ rfl rfl kU5 (by decide) kf_X5_19 rfl rfl ?_
        refine r_get (f := 3) C dX5_set_75 ⟨by decide, by decide⟩ rfl rfl kU3 (by decide) kf_X5_115 rfl rfl ?_
        refine r_iload_n C dX5_set_78 rfl rfl ?_
        refine r_iload_n C dX5_set_79 rfl rfl ?_
        refine r_iastv C dX5_set_80 ⟨by decide, by decide⟩ (fun _ => rfl) (vp_in_nI hc (by decide)) (nI_clamp (by omega)) ?_
        refine r_iload_n C dX5_set_81 rfl rfl ?_
        exact r_iret C dX5_set_82 rfl (by decide) ⟨c, hc, rfl, hin, hyes, rfl, rfl, rfl⟩
      · have n48 := Int32.not_le.mp c48
        have hno : ¬ (σ 7 0 c ≤ v ∧ v ≤ σ 7 1 c) := fun q => c48 q.2
        obtain ⟨⟨t1, t2⟩, ⟨t3, t4⟩, t5, t6⟩ := kt_X5_63_67
        exact r_throw (is := 113) (text := "value is not in the cell's range") C trivial t1 t2 t3 t4 (by decide +kernel) t5 dX5_set_51 dX5_set_54 dX5_set_55 dX5_set_57 dX5_set_60 (by decide) (Nat.le_of_ble_eq_true rfl) (by decide) t6 (⟨Or.inr (Or.inr ⟨rfl, c, hc, rfl, hin, hno⟩), rfl, rfl⟩)
  · have hin := b2i_0.mp c12
    obtain ⟨⟨t1, t2⟩, ⟨t3, t4⟩, t5, t6⟩ := kt_X5_48_52
    exact r_throw (is := 104) (text := "the cell has a formula") C trivial t1 t2 t3 t4 (by decide +kernel) t5 dX5_set_15 dX5_set_18 dX5_set_19 dX5_set_21 dX5_set_24 (by decide) (Nat.le_of_ble_eq_true rfl) (by decide) t6 (⟨Or.inr (Or.inl ⟨rfl, c, hc, rfl, hin⟩), rfl, rfl⟩)
set_option maxRecDepth 100000 in
set_option maxHeartbeats 4000000 in
theorem c_drop {l : Launch} {D : va_G} {ad : Nat → Nat → Nat} {aC : Nat → ClassId} (σ : gSig) (τ : gTau) (cl : Int32) : CT l D ad aC yX5_drop cX5_drop 3 (some .int) 8 1 [.ref (ad 0 0), .int cl] σ τ (fun r σ' τ' => ∃ c, c < 16 ∧ cl = nI c ∧ gEq (some (.int (σ 10 c 2))) (up3 σ 10 c 2 0) τ r σ' τ') (fun E σ' τ' => (E = xIOB ∧ ¬ isC cl) ∧ σ = σ' ∧ τ = τ') := by
  refine CT.of (own := RX5) (by decide +kernel) rfl (Nat.le_of_ble_eq_true rfl) (fun S C => ?_)
  refine r_iload_n C dX5_drop_0 rfl rfl ?_
  refine r_callSX C trivial dX5_drop_1 (c_needCell σ τ cl) rfl kB_X5_needCell rfl kS_X5_needCell kl_X5_59 (by decide) (Nat.le_of_ble_eq_true rfl) (by decide) ?_ ?_
  · rintro E σ' τ' ⟨rfl, rfl, rfl, hx⟩
    exact ⟨⟨rfl, hx⟩, rfl, rfl⟩
  rintro r9 σ' τ' ⟨⟨rfl, rfl, rfl⟩, hcell⟩
  obtain ⟨c, hc, rfl⟩ := isC_nI hcell
  refine r_aload_n C dX5_drop_4 rfl rfl ?_
  refine r_get (f := 2) C dX5_drop_5 ⟨by decide, by decide⟩ rfl rfl kU5 (by decide) kf_X5_25 rfl rfl ?_
  refine r_iload_n C dX5_drop_8 rfl rfl ?_
  refine r_aaldv (t0 := 4) C dX5_drop_9 ⟨by decide, by decide⟩ rfl rfl (vp_in_nI hc (by decide)) (nI_clamp (by omega)) ?_
  refine r_get (f := 2) C dX5_drop_10 ⟨by decide, hc⟩ rfl rfl kU2 (by decide) kf_X5_128 rfl rfl ?_
  refine r_istore_n C dX5_drop_13 rfl (by decide) rfl ?_
  refine r_aload_n C dX5_drop_14 rfl rfl ?_
  refine r_get (f := 2) C dX5_drop_15 ⟨by decide, by decide⟩ rfl rfl kU5 (by decide) kf_X5_25 rfl rfl ?_
  refine r_iload_n C dX5_drop_18 rfl rfl ?_
  refine r_aaldv (t0 := 4) C dX5_drop_19 ⟨by decide, by decide⟩ rfl rfl (vp_in_nI hc (by decide)) (nI_clamp (by omega)) ?_
  refine r_iconst (v := 0) C dX5_drop_20 rfl ?_
  refine r_put (f := 2) C dX5_drop_21 ⟨by decide, hc⟩ rfl rfl kU2 tyX2 tyX2_ok nmX2 (by decide) kf_X5_128 rfl rfl (by decide +kernel) (Nat.le_of_ble_eq_true rfl) (by simp [cel, up3]) ?_
  refine r_iload_n C dX5_drop_24 rfl rfl ?_
  exact r_iret C dX5_drop_25 rfl (by decide) ⟨c, hc, rfl, rfl, rfl, rfl⟩
set_option maxRecDepth 100000 in
set_option maxHeartbeats 4000000 in
theorem c_own {l : Launch} {D : va_G} {ad : Nat → Nat → Nat} {aC : Nat → ClassId} (σ : gSig) (τ : gTau) (cl ow : Int32) : CT l D ad aC yX5_own cX5_own 4 (some .int) 8 2 [.ref (ad 0 0), .int cl, .int ow] σ τ (fun r σ' τ' => ∃ c, c < 16 ∧ cl = nI c ∧ (¬ ow < 0 ∧ ow < 6) ∧ gEq (some (.int (σ 18 0 c))) (up3 σ 18 0 c ow) τ r σ' τ') (fun E σ' τ' => ((E = xIOB ∧ ¬ isC cl) ∨ (E = xIAE ∧ ∃ c, c < 16 ∧ cl = nI c ∧ ¬ (¬ ow < 0 ∧ ow < 6))) ∧ σ = σ' ∧ τ = τ') := by
  refine CT.of (own := RX5) (by decide +kernel) rfl (Nat.le_of_ble_eq_true rfl) (fun S C => ?_)
  refine r_iload_n C dX5_own_0 rfl rfl ?_
  refine r_callSX C trivial dX5_own_1 (c_needCell σ τ cl) rfl kB_X5_needCell rfl kS_X5_needCell kl_X5_59 (by decide) (Nat.le_of_ble_eq_true rfl) (by decide) ?_ ?_
  · rintro E σ' τ' ⟨rfl, rfl, rfl, hx⟩
    exact ⟨Or.inl ⟨rfl, hx⟩, rfl, rfl⟩
  rintro r9 σ' τ' ⟨⟨rfl, rfl, rfl⟩, hcell⟩
  obtain ⟨c, hc, rfl⟩ := isC_nI hcell
  refine r_iload_n C dX5_own_4 rfl rfl ?_
  refine r_iflt (tgt := 14) C dX5_own_5 (by decide) (fun c5 => ?_) (fun c5 => ?_)
  · have hno : ¬ (¬ ow < 0 ∧ ow < 6) := fun q => q.1 c5
    obtain ⟨⟨t1, t2⟩, ⟨t3, t4⟩, t5, t6⟩ := kt_X5_63_67
    exact r_throw (is := 131) (text := "no such owner") C trivial t1 t2 t3 t4 (by decide +kernel) t5 dX5_own_14 dX5_own_17 dX5_own_18 dX5_own_20 dX5_own_23 (by decide) (Nat.le_of_ble_eq_true rfl) (by decide) t6 (⟨Or.inr ⟨rfl, c, hc, rfl, hno⟩, rfl, rfl⟩)
  · refine r_iload_n C dX5_own_8 rfl rfl ?_
    refine r_bipush (v := 6) C dX5_own_9 rfl ?_
    refine r_icmplt (tgt := 24) C dX5_own_11 (by decide) (fun c11 => ?_) (fun c11 => ?_)
    · have n11 := Int32.not_le.mpr c11
      have hyes : ¬ ow < 0 ∧ ow < 6 := ⟨c5, c11⟩
      refine r_aload_n C dX5_own_24 rfl rfl ?_
      refine r_get (f := 4) C dX5_own_25 ⟨by decide, by decide⟩ rfl rfl kU5 (by decide) kf_X5_40 rfl rfl ?_
      refine r_get (f := 0) C dX5_own_28 ⟨by decide, by decide⟩ rfl rfl kU1 (by decide) kf_X5_133 rfl rfl ?_
      refine r_iload_n C dX5_own_31 rfl rfl ?_
      refine r_ialdv (v := σ 18 0 c) C dX5_own_32 ⟨by decide, by decide⟩ rfl (vp_in_nI hc (by decide)) (by rw [nI_clamp (by omega)]) ?_
      refine r_istore_n C dX5_own_33 rfl (by decide) rfl ?_
      refine r_aload_n C dX5_own_34 rfl rfl ?_
      refine r_get (f := 4) C dX5_own_35 ⟨by decide, by decide⟩ rfl rfl kU5 (by decide) kf_X5_40 rfl rfl ?_
      refine r_get (f := 0) C dX5_own_38 ⟨by decide, by decide⟩ rfl rfl kU1 (by decide) kf_X5_133 rfl rfl ?_
      refine r_iload_n C dX5_own_41 rfl rfl ?_
      refine r_iload_n C dX5_own_42 rfl rfl ?_
      refine r_iastv C dX5_own_43 ⟨by decide, by decide⟩ (fun _ => rfl) (vp_in_nI hc (by decide)) (nI_clamp (by omega)) ?_
      refine r_iload_n C dX5_own_44 rfl rfl ?_
      exact r_iret C dX5_own_45 rfl (by decide) ⟨c, hc, rfl, hyes, rfl, rfl, rfl⟩
    · have n11 := Int32.not_lt.mp c11
      have hno : ¬ (¬ ow < 0 ∧ ow < 6) := fun q => c11 q.2
      obtain ⟨⟨t1, t2⟩, ⟨t3, t4⟩, t5, t6⟩ := kt_X5_63_67
      exact r_throw (is := 131) (text := "no such owner") C trivial t1 t2 t3 t4 (by decide +kernel) t5 dX5_own_14 dX5_own_17 dX5_own_18 dX5_own_20 dX5_own_23 (by decide) (Nat.le_of_ble_eq_true rfl) (by decide) t6 (⟨Or.inr ⟨rfl, c, hc, rfl, hno⟩, rfl, rfl⟩)
def teS (σ : gSig) (c q : Nat) (kd nn : Int32) : gSig := up3 (addS σ c q kd nn) 13 0 5 (σ 13 0 5 &&& (b1 c ^^^ (-1)))
set_option maxRecDepth 100000 in
set_option maxHeartbeats 4000000 in
theorem c_tell {l : Launch} {D : va_G} {ad : Nat → Nat → Nat} {aC : Nat → ClassId} (σ : gSig) (τ : gTau) (cl kd nn : Int32) (hpl : ∀ c, c < 16 → ∃ q, σ 10 c 2 = nI q ∧ q ≤ 4) : CT l D ad aC yX5_tell cX5_tell 4 (some .int) 8 3 [.ref (ad 0 0), .int cl, .int kd, .int nn] σ τ (fun r σ' τ' => ∃ c, c < 16 ∧ cl = nI c ∧ (kd = 2 ∨ kd = 3 → isC nn) ∧ (¬ kd < 0 ∧ kd ≤ 3) ∧ ∃ q, σ 10 c 2 = nI q ∧ q < 4 ∧ gEq (some (.int (nI (q + 1)))) (teS σ c q kd nn) τ r σ' τ') (fun E σ' τ' => ((E = xIOB ∧ (¬ isC cl ∨ (kd = 2 ∨ kd = 3) ∧ ¬ isC nn)) ∨ (E = xIAE ∧ ∃ c, c < 16 ∧ cl = nI c ∧ (kd = 2 ∨ kd = 3 → isC nn) ∧ ¬ (¬ kd < 0 ∧ kd ≤ 3)) ∨ (E = xISE ∧ ∃ c, c < 16 ∧ cl = nI c ∧ (kd = 2 ∨ kd = 3 → isC nn) ∧ (¬ kd < 0 ∧ kd ≤ 3) ∧ ∃ q, σ 10 c 2 = nI q ∧ ¬ q < 4)) ∧ σ = σ' ∧ τ = τ') := by
  refine CT.of (own := RX5) (by decide +kernel) rfl (Nat.le_of_ble_eq_true rfl) (fun S C => ?_)
  refine r_iload_n C dX5_tell_0 rfl rfl ?_
  refine r_callSX C trivial dX5_tell_1 (c_needCell σ τ cl) rfl kB_X5_needCell rfl kS_X5_needCell kl_X5_59 (by decide) (Nat.le_of_ble_eq_true rfl) (by decide) ?_ ?_
  · rintro E σ' τ' ⟨rfl, rfl, rfl, hx⟩
    exact ⟨Or.inl ⟨rfl, Or.inl hx⟩, rfl, rfl⟩
  rintro r9 σ' τ' ⟨⟨rfl, rfl, rfl⟩, hcell⟩
  obtain ⟨c, hc, rfl⟩ := isC_nI hcell
  refine r_iload_n C dX5_tell_4 rfl rfl ?_
  refine r_iconst (v := 2) C dX5_tell_5 rfl ?_
  refine r_icmpeq (tgt := 14) C dX5_tell_6 (by decide) (fun c6 => ?_) (fun c6 => ?_)
  · have hk23 : kd = 2 ∨ kd = 3 := Or.inl c6
    refine r_iload_n C dX5_tell_14 rfl rfl ?_
    refine r_callSX C trivial dX5_tell_15 (c_needCell σ τ nn) rfl kB_X5_needCell rfl kS_X5_needCell kl_X5_59 (by decide) (Nat.le_of_ble_eq_true rfl) (by decide) ?_ ?_
    · rintro E σ' τ' ⟨rfl, rfl, rfl, hx⟩
      exact ⟨Or.inl ⟨rfl, Or.inr ⟨hk23, hx⟩⟩, rfl, rfl⟩
    rintro r9 σ' τ' ⟨⟨rfl, rfl, rfl⟩, hcellN⟩
    have hnn : kd = 2 ∨ kd = 3 → isC nn := fun _ => hcellN
    refine r_iload_n C dX5_tell_18 rfl rfl ?_
    refine r_iflt (tgt := 27) C dX5_tell_19 (by decide) (fun c19 => ?_) (fun c19 => ?_)
    · have hno : ¬ (¬ kd < 0 ∧ kd ≤ 3) := fun q => q.1 c19
      obtain ⟨⟨t1, t2⟩, ⟨t3, t4⟩, t5, t6⟩ := kt_X5_63_67
      exact r_throw (is := 118) (text := "no such kind") C trivial t1 t2 t3 t4 (by decide +kernel) t5 dX5_tell_27 dX5_tell_30 dX5_tell_31 dX5_tell_33 dX5_tell_36 (by decide) (Nat.le_of_ble_eq_true rfl) (by decide) t6 (⟨Or.inr (Or.inl ⟨rfl, c, hc, rfl, hnn, hno⟩), rfl, rfl⟩)
    · refine r_iload_n C dX5_tell_22 rfl rfl ?_
      refine r_iconst (v := 3) C dX5_tell_23 rfl ?_
      refine r_icmple (tgt := 37) C dX5_tell_24 (by decide) (fun c24 => ?_) (fun c24 => ?_)
      · have n24 := Int32.not_lt.mpr c24
        have hyes : ¬ kd < 0 ∧ kd ≤ 3 := ⟨c19, c24⟩
        obtain ⟨q, hq, hq4⟩ := hpl c hc
        refine r_aload_n C dX5_tell_37 rfl rfl ?_
        refine r_get (f := 2) C dX5_tell_38 ⟨by decide, by decide⟩ rfl rfl kU5 (by decide) kf_X5_25 rfl rfl ?_
        refine r_iload_n C dX5_tell_41 rfl rfl ?_
        refine r_aaldv (t0 := 4) C dX5_tell_42 ⟨by decide, by decide⟩ rfl rfl (vp_in_nI hc (by decide)) (nI_clamp (by omega)) ?_
        refine r_iload_n C dX5_tell_43 rfl rfl ?_
        refine r_iload_n C dX5_tell_44 rfl rfl ?_
        refine r_callV C dX5_tell_45 (c_add σ τ c q kd nn hc hq hq4) rfl ⟨by decide, hc⟩ rfl rfl kB_X2_add rfl kI_X2_add kV_X2_add kl_X5_120 (by decide) (Nat.le_of_ble_eq_true rfl) (by decide) ?_
        rintro r9 σ' τ' ⟨rfl, rfl, rfl⟩
        refine r_ifne (tgt := 61) C dX5_tell_48 (by decide) (fun c48 => ?_) (fun c48 => ?_)
        · have hq5 : q < 4 := of_decide_eq_true (b2i_n.mp c48)
          rw [if_pos hq5]
          refine r_aload_n C dX5_tell_61 rfl rfl ?_
          refine r_get (f := 3) C dX5_tell_62 ⟨by decide, by decide⟩ rfl rfl kU5 (by decide) kf_X5_33 rfl rfl ?_
          refine r_iconst (v := 1) C dX5_tell_65 rfl ?_
          refine r_iload_n C dX5_tell_66 rfl rfl ?_
          refine r_ishl C dX5_tell_67 ?_
          refine r_callV C dX5_tell_68 (c_untry (addS σ c q kd nn) τ (b1 c)) rfl ⟨by decide, by decide⟩ rfl rfl kB_X4_untry rfl kI_X4_untry kV_X4_untry kl_X5_125 (by decide) (Nat.le_of_ble_eq_true rfl) (by decide) ?_
          rintro r9 σ' τ' ⟨rfl, rfl, rfl⟩
          refine r_pop C dX5_tell_71 rfl ?_
          refine r_aload_n C dX5_tell_72 rfl rfl ?_
          refine r_get (f := 2) C dX5_tell_73 ⟨by decide, by decide⟩ rfl rfl kU5 (by decide) kf_X5_25 rfl rfl ?_
          refine r_iload_n C dX5_tell_76 rfl rfl ?_
          refine r_aaldv (t0 := 4) C dX5_tell_77 ⟨by decide, by decide⟩ rfl rfl (vp_in_nI hc (by decide)) (nI_clamp (by omega)) ?_
          refine r_get (f := 2) (v := .int (nI (q + 1))) C dX5_tell_78 ⟨by decide, hc⟩ rfl rfl kU2 (by decide) kf_X5_128 rfl (by simp [addS, up3_at]) ?_
          exact r_iret C dX5_tell_81 rfl (by decide) ⟨c, hc, rfl, hnn, hyes, q, hq, hq5, rfl, rfl, rfl⟩
        · have hq5 : ¬ q < 4 := of_decide_eq_false (b2i_0.mp c48)
          rw [if_neg hq5]
          obtain ⟨⟨t1, t2⟩, ⟨t3, t4⟩, t5, t6⟩ := kt_X5_48_52
          exact r_throw (is := 123) (text := "the cell has 4 properties") C trivial t1 t2 t3 t4 (by decide +kernel) t5 dX5_tell_51 dX5_tell_54 dX5_tell_55 dX5_tell_57 dX5_tell_60 (by decide) (Nat.le_of_ble_eq_true rfl) (by decide) t6 (⟨Or.inr (Or.inr ⟨rfl, c, hc, rfl, hnn, hyes, q, hq, hq5⟩), rfl, rfl⟩)
      · have n24 := Int32.not_le.mp c24
        have hno : ¬ (¬ kd < 0 ∧ kd ≤ 3) := fun q => c24 q.2
        obtain ⟨⟨t1, t2⟩, ⟨t3, t4⟩, t5, t6⟩ := kt_X5_63_67
        exact r_throw (is := 118) (text := "no such kind") C trivial t1 t2 t3 t4 (by decide +kernel) t5 dX5_tell_27 dX5_tell_30 dX5_tell_31 dX5_tell_33 dX5_tell_36 (by decide) (Nat.le_of_ble_eq_true rfl) (by decide) t6 (⟨Or.inr (Or.inl ⟨rfl, c, hc, rfl, hnn, hno⟩), rfl, rfl⟩)
  · refine r_iload_n C dX5_tell_9 rfl rfl ?_
    refine r_iconst (v := 3) C dX5_tell_10 rfl ?_
    refine r_icmpne (tgt := 18) C dX5_tell_11 (by decide) (fun c11 => ?_) (fun c11 => ?_)
    · have hnn : kd = 2 ∨ kd = 3 → isC nn := fun q => q.elim (fun z => absurd z c6) (fun z => absurd z c11)
      refine r_iload_n C dX5_tell_18 rfl rfl ?_
      refine r_iflt (tgt := 27) C dX5_tell_19 (by decide) (fun c19 => ?_) (fun c19 => ?_)
      · have hno : ¬ (¬ kd < 0 ∧ kd ≤ 3) := fun q => q.1 c19
        obtain ⟨⟨t1, t2⟩, ⟨t3, t4⟩, t5, t6⟩ := kt_X5_63_67
        exact r_throw (is := 118) (text := "no such kind") C trivial t1 t2 t3 t4 (by decide +kernel) t5 dX5_tell_27 dX5_tell_30 dX5_tell_31 dX5_tell_33 dX5_tell_36 (by decide) (Nat.le_of_ble_eq_true rfl) (by decide) t6 (⟨Or.inr (Or.inl ⟨rfl, c, hc, rfl, hnn, hno⟩), rfl, rfl⟩)
      · refine r_iload_n C dX5_tell_22 rfl rfl ?_
        refine r_iconst (v := 3) C dX5_tell_23 rfl ?_
        refine r_icmple (tgt := 37) C dX5_tell_24 (by decide) (fun c24 => ?_) (fun c24 => ?_)
        · have n24 := Int32.not_lt.mpr c24
          have hyes : ¬ kd < 0 ∧ kd ≤ 3 := ⟨c19, c24⟩
          obtain ⟨q, hq, hq4⟩ := hpl c hc
          refine r_aload_n C dX5_tell_37 rfl rfl ?_
          refine r_get (f := 2) C dX5_tell_38 ⟨by decide, by decide⟩ rfl rfl kU5 (by decide) kf_X5_25 rfl rfl ?_
          refine r_iload_n C dX5_tell_41 rfl rfl ?_
          refine r_aaldv (t0 := 4) C dX5_tell_42 ⟨by decide, by decide⟩ rfl rfl (vp_in_nI hc (by decide)) (nI_clamp (by omega)) ?_
          refine r_iload_n C dX5_tell_43 rfl rfl ?_
          refine r_iload_n C dX5_tell_44 rfl rfl ?_
          refine r_callV C dX5_tell_45 (c_add σ τ c q kd nn hc hq hq4) rfl ⟨by decide, hc⟩ rfl rfl kB_X2_add rfl kI_X2_add kV_X2_add kl_X5_120 (by decide) (Nat.le_of_ble_eq_true rfl) (by decide) ?_
          rintro r9 σ' τ' ⟨rfl, rfl, rfl⟩
          refine r_ifne (tgt := 61) C dX5_tell_48 (by decide) (fun c48 => ?_) (fun c48 => ?_)
          · have hq5 : q < 4 := of_decide_eq_true (b2i_n.mp c48)
            rw [if_pos hq5]
            refine r_aload_n C dX5_tell_61 rfl rfl ?_
            refine r_get (f := 3) C dX5_tell_62 ⟨by decide, by decide⟩ rfl rfl kU5 (by decide) kf_X5_33 rfl rfl ?_
            refine r_iconst (v := 1) C dX5_tell_65 rfl ?_
            refine r_iload_n C dX5_tell_66 rfl rfl ?_
            refine r_ishl C dX5_tell_67 ?_
            refine r_callV C dX5_tell_68 (c_untry (addS σ c q kd nn) τ (b1 c)) rfl ⟨by decide, by decide⟩ rfl rfl kB_X4_untry rfl kI_X4_untry kV_X4_untry kl_X5_125 (by decide) (Nat.le_of_ble_eq_true rfl) (by decide) ?_
            rintro r9 σ' τ' ⟨rfl, rfl, rfl⟩
            refine r_pop C dX5_tell_71 rfl ?_
            refine r_aload_n C dX5_tell_72 rfl rfl ?_
            refine r_get (f := 2) C dX5_tell_73 ⟨by decide, by decide⟩ rfl rfl kU5 (by decide) kf_X5_25 rfl rfl ?_
            refine r_iload_n C dX5_tell_76 rfl rfl ?_
            refine r_aaldv (t0 := 4) C dX5_tell_77 ⟨by decide, by decide⟩ rfl rfl (vp_in_nI hc (by decide)) (nI_clamp (by omega)) ?_
            refine r_get (f := 2) (v := .int (nI (q + 1))) C dX5_tell_78 ⟨by decide, hc⟩ rfl rfl kU2 (by decide) kf_X5_128 rfl (by simp [addS, up3_at]) ?_
            exact r_iret C dX5_tell_81 rfl (by decide) ⟨c, hc, rfl, hnn, hyes, q, hq, hq5, rfl, rfl, rfl⟩
          · have hq5 : ¬ q < 4 := of_decide_eq_false (b2i_0.mp c48)
            rw [if_neg hq5]
            obtain ⟨⟨t1, t2⟩, ⟨t3, t4⟩, t5, t6⟩ := kt_X5_48_52
            exact r_throw (is := 123) (text := "the cell has 4 properties") C trivial t1 t2 t3 t4 (by decide +kernel) t5 dX5_tell_51 dX5_tell_54 dX5_tell_55 dX5_tell_57 dX5_tell_60 (by decide) (Nat.le_of_ble_eq_true rfl) (by decide) t6 (⟨Or.inr (Or.inr ⟨rfl, c, hc, rfl, hnn, hyes, q, hq, hq5⟩), rfl, rfl⟩)
        · have n24 := Int32.not_le.mp c24
          have hno : ¬ (¬ kd < 0 ∧ kd ≤ 3) := fun q => c24 q.2
          obtain ⟨⟨t1, t2⟩, ⟨t3, t4⟩, t5, t6⟩ := kt_X5_63_67
          exact r_throw (is := 118) (text := "no such kind") C trivial t1 t2 t3 t4 (by decide +kernel) t5 dX5_tell_27 dX5_tell_30 dX5_tell_31 dX5_tell_33 dX5_tell_36 (by decide) (Nat.le_of_ble_eq_true rfl) (by decide) t6 (⟨Or.inr (Or.inl ⟨rfl, c, hc, rfl, hnn, hno⟩), rfl, rfl⟩)
    · have hk23 : kd = 2 ∨ kd = 3 := Or.inr c11
      refine r_iload_n C dX5_tell_14 rfl rfl ?_
      refine r_callSX C trivial dX5_tell_15 (c_needCell σ τ nn) rfl kB_X5_needCell rfl kS_X5_needCell kl_X5_59 (by decide) (Nat.le_of_ble_eq_true rfl) (by decide) ?_ ?_
      · rintro E σ' τ' ⟨rfl, rfl, rfl, hx⟩
        exact ⟨Or.inl ⟨rfl, Or.inr ⟨hk23, hx⟩⟩, rfl, rfl⟩
      rintro r9 σ' τ' ⟨⟨rfl, rfl, rfl⟩, hcellN⟩
      have hnn : kd = 2 ∨ kd = 3 → isC nn := fun _ => hcellN
      refine r_iload_n C dX5_tell_18 rfl rfl ?_
      refine r_iflt (tgt := 27) C dX5_tell_19 (by decide) (fun c19 => ?_) (fun c19 => ?_)
      · have hno : ¬ (¬ kd < 0 ∧ kd ≤ 3) := fun q => q.1 c19
        obtain ⟨⟨t1, t2⟩, ⟨t3, t4⟩, t5, t6⟩ := kt_X5_63_67
        exact r_throw (is := 118) (text := "no such kind") C trivial t1 t2 t3 t4 (by decide +kernel) t5 dX5_tell_27 dX5_tell_30 dX5_tell_31 dX5_tell_33 dX5_tell_36 (by decide) (Nat.le_of_ble_eq_true rfl) (by decide) t6 (⟨Or.inr (Or.inl ⟨rfl, c, hc, rfl, hnn, hno⟩), rfl, rfl⟩)
      · refine r_iload_n C dX5_tell_22 rfl rfl ?_
        refine r_iconst (v := 3) C dX5_tell_23 rfl ?_
        refine r_icmple (tgt := 37) C dX5_tell_24 (by decide) (fun c24 => ?_) (fun c24 => ?_)
        · have n24 := Int32.not_lt.mpr c24
          have hyes : ¬ kd < 0 ∧ kd ≤ 3 := ⟨c19, c24⟩
          obtain ⟨q, hq, hq4⟩ := hpl c hc
          refine r_aload_n C dX5_tell_37 rfl rfl ?_
          refine r_get (f := 2) C dX5_tell_38 ⟨by decide, by decide⟩ rfl rfl kU5 (by decide) kf_X5_25 rfl rfl ?_
          refine r_iload_n C dX5_tell_41 rfl rfl ?_
          refine r_aaldv (t0 := 4) C dX5_tell_42 ⟨by decide, by decide⟩ rfl rfl (vp_in_nI hc (by decide)) (nI_clamp (by omega)) ?_
          refine r_iload_n C dX5_tell_43 rfl rfl ?_
          refine r_iload_n C dX5_tell_44 rfl rfl ?_
          refine r_callV C dX5_tell_45 (c_add σ τ c q kd nn hc hq hq4) rfl ⟨by decide, hc⟩ rfl rfl kB_X2_add rfl kI_X2_add kV_X2_add kl_X5_120 (by decide) (Nat.le_of_ble_eq_true rfl) (by decide) ?_
          rintro r9 σ' τ' ⟨rfl, rfl, rfl⟩
          refine r_ifne (tgt := 61) C dX5_tell_48 (by decide) (fun c48 => ?_) (fun c48 => ?_)
          · have hq5 : q < 4 := of_decide_eq_true (b2i_n.mp c48)
            rw [if_pos hq5]
            refine r_aload_n C dX5_tell_61 rfl rfl ?_
            refine r_get (f := 3) C dX5_tell_62 ⟨by decide, by decide⟩ rfl rfl kU5 (by decide) kf_X5_33 rfl rfl ?_
            refine r_iconst (v := 1) C dX5_tell_65 rfl ?_
            refine r_iload_n C dX5_tell_66 rfl rfl ?_
            refine r_ishl C dX5_tell_67 ?_
            refine r_callV C dX5_tell_68 (c_untry (addS σ c q kd nn) τ (b1 c)) rfl ⟨by decide, by decide⟩ rfl rfl kB_X4_untry rfl kI_X4_untry kV_X4_untry kl_X5_125 (by decide) (Nat.le_of_ble_eq_true rfl) (by decide) ?_
            rintro r9 σ' τ' ⟨rfl, rfl, rfl⟩
            refine r_pop C dX5_tell_71 rfl ?_
            refine r_aload_n C dX5_tell_72 rfl rfl ?_
            refine r_get (f := 2) C dX5_tell_73 ⟨by decide, by decide⟩ rfl rfl kU5 (by decide) kf_X5_25 rfl rfl ?_
            refine r_iload_n C dX5_tell_76 rfl rfl ?_
            refine r_aaldv (t0 := 4) C dX5_tell_77 ⟨by decide, by decide⟩ rfl rfl (vp_in_nI hc (by decide)) (nI_clamp (by omega)) ?_
            refine r_get (f := 2) (v := .int (nI (q + 1))) C dX5_tell_78 ⟨by decide, hc⟩ rfl rfl kU2 (by decide) kf_X5_128 rfl (by simp [addS, up3_at]) ?_
            exact r_iret C dX5_tell_81 rfl (by decide) ⟨c, hc, rfl, hnn, hyes, q, hq, hq5, rfl, rfl, rfl⟩
          · have hq5 : ¬ q < 4 := of_decide_eq_false (b2i_0.mp c48)
            rw [if_neg hq5]
            obtain ⟨⟨t1, t2⟩, ⟨t3, t4⟩, t5, t6⟩ := kt_X5_48_52
            exact r_throw (is := 123) (text := "the cell has 4 properties") C trivial t1 t2 t3 t4 (by decide +kernel) t5 dX5_tell_51 dX5_tell_54 dX5_tell_55 dX5_tell_57 dX5_tell_60 (by decide) (Nat.le_of_ble_eq_true rfl) (by decide) t6 (⟨Or.inr (Or.inr ⟨rfl, c, hc, rfl, hnn, hyes, q, hq, hq5⟩), rfl, rfl⟩)
        · have n24 := Int32.not_le.mp c24
          have hno : ¬ (¬ kd < 0 ∧ kd ≤ 3) := fun q => c24 q.2
          obtain ⟨⟨t1, t2⟩, ⟨t3, t4⟩, t5, t6⟩ := kt_X5_63_67
          exact r_throw (is := 118) (text := "no such kind") C trivial t1 t2 t3 t4 (by decide +kernel) t5 dX5_tell_27 dX5_tell_30 dX5_tell_31 dX5_tell_33 dX5_tell_36 (by decide) (Nat.le_of_ble_eq_true rfl) (by decide) t6 (⟨Or.inr (Or.inl ⟨rfl, c, hc, rfl, hnn, hno⟩), rfl, rfl⟩)
set_option maxRecDepth 100000 in
set_option maxHeartbeats 4000000 in
theorem c_waive {l : Launch} {D : va_G} {ad : Nat → Nat → Nat} {aC : Nat → ClassId} (σ : gSig) (τ : gTau) (cl ow dy : Int32) (o : Nat → Nat) (hO : ordI (σ 7 5) o 16) : CT l D ad aC yX5_waive cX5_waive 4 (some .int) 8 2 [.ref (ad 0 0), .int cl, .int ow, .int dy] σ τ (fun r σ' τ' => ∃ c, c < 16 ∧ cl = nI c ∧ (ow = σ 18 0 c ∧ ¬ dy < 0 ∧ dy ≤ 30) ∧ bt (lcC σ o) c = true ∧ gEq (some (.int (bcJ (lcC (up3 σ 18 1 c (σ 17 0 3 + dy)) o)))) (up3 σ 18 1 c (σ 17 0 3 + dy)) τ r σ' τ') (fun E σ' τ' => ((E = xIOB ∧ ¬ isC cl) ∨ (E = xIAE ∧ ∃ c, c < 16 ∧ cl = nI c ∧ ¬ (ow = σ 18 0 c ∧ ¬ dy < 0 ∧ dy ≤ 30)) ∨ (E = xISE ∧ ∃ c, c < 16 ∧ cl = nI c ∧ (ow = σ 18 0 c ∧ ¬ dy < 0 ∧ dy ≤ 30) ∧ bt (lcC σ o) c = false)) ∧ σ = σ' ∧ τ = τ') := by
  refine CT.of (own := RX5) (by decide +kernel) rfl (Nat.le_of_ble_eq_true rfl) (fun S C => ?_)
  refine r_iload_n C dX5_waive_0 rfl rfl ?_
  refine r_callSX C trivial dX5_waive_1 (c_needCell σ τ cl) rfl kB_X5_needCell rfl kS_X5_needCell kl_X5_59 (by decide) (Nat.le_of_ble_eq_true rfl) (by decide) ?_ ?_
  · rintro E σ' τ' ⟨rfl, rfl, rfl, hx⟩
    exact ⟨Or.inl ⟨rfl, hx⟩, rfl, rfl⟩
  rintro r9 σ' τ' ⟨⟨rfl, rfl, rfl⟩, hcell⟩
  obtain ⟨c, hc, rfl⟩ := isC_nI hcell
  refine r_iload_n C dX5_waive_4 rfl rfl ?_
  refine r_aload_n C dX5_waive_5 rfl rfl ?_
  refine r_get (f := 4) C dX5_waive_6 ⟨by decide, by decide⟩ rfl rfl kU5 (by decide) kf_X5_40 rfl rfl ?_
  refine r_get (f := 0) C dX5_waive_9 ⟨by decide, by decide⟩ rfl rfl kU1 (by decide) kf_X5_133 rfl rfl ?_
  refine r_iload_n C dX5_waive_12 rfl rfl ?_
  refine r_ialdv (v := σ 18 0 c) C dX5_waive_13 ⟨by decide, by decide⟩ rfl (vp_in_nI hc (by decide)) (by rw [nI_clamp (by omega)]) ?_
  refine r_icmpne (tgt := 27) C dX5_waive_14 (by decide) (fun c14 => ?_) (fun c14 => ?_)
  · have hno : ¬ (ow = σ 18 0 c ∧ ¬ dy < 0 ∧ dy ≤ 30) := fun q => c14 q.1
    obtain ⟨⟨t1, t2⟩, ⟨t3, t4⟩, t5, t6⟩ := kt_X5_63_67
    exact r_throw (is := 156) (text := "owner is not the cell's owner, or days is out of range") C trivial t1 t2 t3 t4 (by decide +kernel) t5 dX5_waive_27 dX5_waive_30 dX5_waive_31 dX5_waive_33 dX5_waive_36 (by decide) (Nat.le_of_ble_eq_true rfl) (by decide) t6 (⟨Or.inr (Or.inl ⟨rfl, c, hc, rfl, hno⟩), rfl, rfl⟩)
  · refine r_iload_n C dX5_waive_17 rfl rfl ?_
    refine r_iflt (tgt := 27) C dX5_waive_18 (by decide) (fun c18 => ?_) (fun c18 => ?_)
    · have hno : ¬ (ow = σ 18 0 c ∧ ¬ dy < 0 ∧ dy ≤ 30) := fun q => q.2.1 c18
      obtain ⟨⟨t1, t2⟩, ⟨t3, t4⟩, t5, t6⟩ := kt_X5_63_67
      exact r_throw (is := 156) (text := "owner is not the cell's owner, or days is out of range") C trivial t1 t2 t3 t4 (by decide +kernel) t5 dX5_waive_27 dX5_waive_30 dX5_waive_31 dX5_waive_33 dX5_waive_36 (by decide) (Nat.le_of_ble_eq_true rfl) (by decide) t6 (⟨Or.inr (Or.inl ⟨rfl, c, hc, rfl, hno⟩), rfl, rfl⟩)
    · refine r_iload_n C dX5_waive_21 rfl rfl ?_
      refine r_bipush (v := 30) C dX5_waive_22 rfl ?_
      refine r_icmple (tgt := 37) C dX5_waive_24 (by decide) (fun c24 => ?_) (fun c24 => ?_)
      · have n24 := Int32.not_lt.mpr c24
        have hyes : (ow = σ 18 0 c ∧ ¬ dy < 0 ∧ dy ≤ 30) := ⟨c14, c18, c24⟩
        refine r_aload_n C dX5_waive_37 rfl rfl ?_
        refine r_callV C dX5_waive_38 (c_lockedCells σ τ o hO) rfl ⟨by decide, by decide⟩ rfl rfl kB_X5_lockedCells rfl kI_X5_lockedCells kV_X5_lockedCells kl_X5_144 (by decide) (Nat.le_of_ble_eq_true rfl) (by decide) ?_
        rintro r9 σ' τ' ⟨rfl, rfl, rfl⟩
        refine r_iload_n C dX5_waive_41 rfl rfl ?_
        refine r_callS C dX5_waive_42 (c_has σ τ (lcC σ o) (nI c)) rfl kB_X5_has rfl kS_X5_has kl_X5_141 (by decide) (Nat.le_of_ble_eq_true rfl) (by decide) ?_
        rintro r9 σ' τ' ⟨rfl, rfl, rfl⟩
        rw [hasB_bt hc]
        refine r_ifne (tgt := 58) C dX5_waive_45 (by decide) (fun c45 => ?_) (fun c45 => ?_)
        · have hl := b2i_n.mp c45
          refine r_aload_n C dX5_waive_58 rfl rfl ?_
          refine r_get (f := 4) C dX5_waive_59 ⟨by decide, by decide⟩ rfl rfl kU5 (by decide) kf_X5_40 rfl rfl ?_
          refine r_get (f := 1) C dX5_waive_62 ⟨by decide, by decide⟩ rfl rfl kU1 (by decide) kf_X5_160 rfl rfl ?_
          refine r_iload_n C dX5_waive_65 rfl rfl ?_
          refine r_aload_n C dX5_waive_66 rfl rfl ?_
          refine r_get (f := 4) C dX5_waive_67 ⟨by decide, by decide⟩ rfl rfl kU5 (by decide) kf_X5_40 rfl rfl ?_
          refine r_get (f := 3) C dX5_waive_70 ⟨by decide, by decide⟩ rfl rfl kU1 (by decide) kf_X5_163 rfl rfl ?_
          refine r_iload_n C dX5_waive_73 rfl rfl ?_
          refine r_iadd C dX5_waive_74 ?_
          refine r_iastv C dX5_waive_75 ⟨by decide, by decide⟩ (fun _ => rfl) (vp_in_nI hc (by decide)) (nI_clamp (by omega)) ?_
          refine r_aload_n C dX5_waive_76 rfl rfl ?_
          refine r_callV C dX5_waive_77 (c_lockedCells (up3 σ 18 1 c (σ 17 0 3 + dy)) τ o hO) rfl ⟨by decide, by decide⟩ rfl rfl kB_X5_lockedCells rfl kI_X5_lockedCells kV_X5_lockedCells kl_X5_144 (by decide) (Nat.le_of_ble_eq_true rfl) (by decide) ?_
          rintro r9 σ' τ' ⟨rfl, rfl, rfl⟩
          refine r_callS C dX5_waive_80 (c_bitCount (up3 σ 18 1 c (σ 17 0 3 + dy)) τ (lcC (up3 σ 18 1 c (σ 17 0 3 + dy)) o)) rfl kB_J6_bitCount_0f7a4 rfl kS_J6_bitCount_0f7a4 kl_X5_166 (by decide) (Nat.le_of_ble_eq_true rfl) (by decide) ?_
          rintro r9 σ' τ' ⟨rfl, rfl, rfl⟩
          exact r_iret C dX5_waive_83 rfl (by decide) ⟨c, hc, rfl, hyes, hl, rfl, rfl, rfl⟩
        · have hl := b2i_0.mp c45
          obtain ⟨⟨t1, t2⟩, ⟨t3, t4⟩, t5, t6⟩ := kt_X5_48_52
          exact r_throw (is := 158) (text := "the cell is not locked") C trivial t1 t2 t3 t4 (by decide +kernel) t5 dX5_waive_48 dX5_waive_51 dX5_waive_52 dX5_waive_54 dX5_waive_57 (by decide) (Nat.le_of_ble_eq_true rfl) (by decide) t6 (⟨Or.inr (Or.inr ⟨rfl, c, hc, rfl, hyes, hl⟩), rfl, rfl⟩)
      · have n24 := Int32.not_le.mp c24
        have hno : ¬ (ow = σ 18 0 c ∧ ¬ dy < 0 ∧ dy ≤ 30) := fun q => c24 q.2.2
        obtain ⟨⟨t1, t2⟩, ⟨t3, t4⟩, t5, t6⟩ := kt_X5_63_67
        exact r_throw (is := 156) (text := "owner is not the cell's owner, or days is out of range") C trivial t1 t2 t3 t4 (by decide +kernel) t5 dX5_waive_27 dX5_waive_30 dX5_waive_31 dX5_waive_33 dX5_waive_36 (by decide) (Nat.le_of_ble_eq_true rfl) (by decide) t6 (⟨Or.inr (Or.inl ⟨rfl, c, hc, rfl, hno⟩), rfl, rfl⟩)
set_option maxRecDepth 100000 in
set_option maxHeartbeats 4000000 in
theorem c_pass {l : Launch} {D : va_G} {ad : Nat → Nat → Nat} {aC : Nat → ClassId} (σ : gSig) (τ : gTau) (dy : Int32) (o : Nat → Nat) (hO : ordI (σ 7 5) o 16) : CT l D ad aC yX5_pass cX5_pass 2 (some .int) 7 1 [.ref (ad 0 0), .int dy] σ τ (fun r σ' τ' => (1 ≤ dy ∧ dy ≤ 100) ∧ σ 17 0 3 + dy ≤ 10000 ∧ gEq (some (.int (bcJ (lcC (up3 σ 17 0 3 (σ 17 0 3 + dy)) o)))) (up3 σ 17 0 3 (σ 17 0 3 + dy)) τ r σ' τ') (fun E σ' τ' => ((E = xIAE ∧ ¬ (1 ≤ dy ∧ dy ≤ 100)) ∨ (E = xISE ∧ (1 ≤ dy ∧ dy ≤ 100) ∧ 10000 < σ 17 0 3 + dy)) ∧ σ = σ' ∧ τ = τ') := by
  refine CT.of (own := RX5) (by decide +kernel) rfl (Nat.le_of_ble_eq_true rfl) (fun S C => ?_)
  refine r_iload_n C dX5_pass_0 rfl rfl ?_
  refine r_iconst (v := 1) C dX5_pass_1 rfl ?_
  refine r_icmplt (tgt := 11) C dX5_pass_2 (by decide) (fun c2 => ?_) (fun c2 => ?_)
  · have n2 := Int32.not_le.mpr c2
    have hno : ¬ (1 ≤ dy ∧ dy ≤ 100) := fun q => n2 q.1
    obtain ⟨⟨t1, t2⟩, ⟨t3, t4⟩, t5, t6⟩ := kt_X5_63_67
    exact r_throw (is := 171) (text := "days is out of range") C trivial t1 t2 t3 t4 (by decide +kernel) t5 dX5_pass_11 dX5_pass_14 dX5_pass_15 dX5_pass_17 dX5_pass_20 (by decide) (Nat.le_of_ble_eq_true rfl) (by decide) t6 (⟨Or.inl ⟨rfl, hno⟩, rfl, rfl⟩)
  · have n2 := Int32.not_lt.mp c2
    refine r_iload_n C dX5_pass_5 rfl rfl ?_
    refine r_bipush (v := 100) C dX5_pass_6 rfl ?_
    refine r_icmple (tgt := 21) C dX5_pass_8 (by decide) (fun c8 => ?_) (fun c8 => ?_)
    · have n8 := Int32.not_lt.mpr c8
      have hyes : (1 ≤ dy ∧ dy ≤ 100) := ⟨n2, c8⟩
      refine r_aload_n C dX5_pass_21 rfl rfl ?_
      refine r_get (f := 4) C dX5_pass_22 ⟨by decide, by decide⟩ rfl rfl kU5 (by decide) kf_X5_40 rfl rfl ?_
      refine r_get (f := 3) C dX5_pass_25 ⟨by decide, by decide⟩ rfl rfl kU1 (by decide) kf_X5_163 rfl rfl ?_
      refine r_iload_n C dX5_pass_28 rfl rfl ?_
      refine r_iadd C dX5_pass_29 ?_
      refine r_sipush (v := 10000) C dX5_pass_30 rfl ?_
      refine r_icmple (tgt := 46) C dX5_pass_33 (by decide) (fun c33 => ?_) (fun c33 => ?_)
      · have n33 := Int32.not_lt.mpr c33
        refine r_aload_n C dX5_pass_46 rfl rfl ?_
        refine r_get (f := 4) C dX5_pass_47 ⟨by decide, by decide⟩ rfl rfl kU5 (by decide) kf_X5_40 rfl rfl ?_
        refine r_dup C dX5_pass_50 rfl ?_
        refine r_get (f := 3) C dX5_pass_51 ⟨by decide, by decide⟩ rfl rfl kU1 (by decide) kf_X5_163 rfl rfl ?_
        refine r_iload_n C dX5_pass_54 rfl rfl ?_
        refine r_iadd C dX5_pass_55 ?_
        refine r_put (f := 3) C dX5_pass_56 ⟨by decide, by decide⟩ rfl rfl kU1 tyX1 tyX1_ok nmX1 (by decide) kf_X5_163 rfl rfl (by decide +kernel) (Nat.le_of_ble_eq_true rfl) (by simp [cel, up3]) ?_
        refine r_aload_n C dX5_pass_59 rfl rfl ?_
        refine r_callV C dX5_pass_60 (c_lockedCells (up3 σ 17 0 3 (σ 17 0 3 + dy)) τ o hO) rfl ⟨by decide, by decide⟩ rfl rfl kB_X5_lockedCells rfl kI_X5_lockedCells kV_X5_lockedCells kl_X5_144 (by decide) (Nat.le_of_ble_eq_true rfl) (by decide) ?_
        rintro r9 σ' τ' ⟨rfl, rfl, rfl⟩
        refine r_callS C dX5_pass_63 (c_bitCount (up3 σ 17 0 3 (σ 17 0 3 + dy)) τ (lcC (up3 σ 17 0 3 (σ 17 0 3 + dy)) o)) rfl kB_J6_bitCount_0f7a4 rfl kS_J6_bitCount_0f7a4 kl_X5_166 (by decide) (Nat.le_of_ble_eq_true rfl) (by decide) ?_
        rintro r9 σ' τ' ⟨rfl, rfl, rfl⟩
        exact r_iret C dX5_pass_66 rfl (by decide) ⟨hyes, c33, rfl, rfl, rfl⟩
      · have n33 := Int32.not_le.mp c33
        obtain ⟨⟨t1, t2⟩, ⟨t3, t4⟩, t5, t6⟩ := kt_X5_48_52
        exact r_throw (is := 173) (text := "today would be above 10000") C trivial t1 t2 t3 t4 (by decide +kernel) t5 dX5_pass_36 dX5_pass_39 dX5_pass_40 dX5_pass_42 dX5_pass_45 (by decide) (Nat.le_of_ble_eq_true rfl) (by decide) t6 (⟨Or.inr ⟨rfl, hyes, n33⟩, rfl, rfl⟩)
    · have n8 := Int32.not_le.mp c8
      have hno : ¬ (1 ≤ dy ∧ dy ≤ 100) := fun q => c8 q.2
      obtain ⟨⟨t1, t2⟩, ⟨t3, t4⟩, t5, t6⟩ := kt_X5_63_67
      exact r_throw (is := 171) (text := "days is out of range") C trivial t1 t2 t3 t4 (by decide +kernel) t5 dX5_pass_11 dX5_pass_14 dX5_pass_15 dX5_pass_17 dX5_pass_20 (by decide) (Nat.le_of_ble_eq_true rfl) (by decide) t6 (⟨Or.inl ⟨rfl, hno⟩, rfl, rfl⟩)
end
section
/-! ===== the face, second half: printed by g28.py ===== -/
set_option maxRecDepth 100000 in
set_option maxHeartbeats 4000000 in
theorem c_reads {l : Launch} {D : va_G} {ad : Nat → Nat → Nat} {aC : Nat → ClassId} (σ : gSig) (τ : gTau) (cl : Int32) : CT l D ad aC yX5_reads cX5_reads 2 (some .int) 8 1 [.ref (ad 0 0), .int cl] σ τ (fun r σ' τ' => ∃ c, c < 16 ∧ cl = nI c ∧ gEq (some (.int (σ 7 3 c))) σ τ r σ' τ') (fun E σ' τ' => (E = xIOB ∧ ¬ isC cl) ∧ σ = σ' ∧ τ = τ') := by
  refine CT.of (own := RX5) (by decide +kernel) rfl (Nat.le_of_ble_eq_true rfl) (fun S C => ?_)
  refine r_iload_n C dX5_reads_0 rfl rfl ?_
  refine r_callSX C trivial dX5_reads_1 (c_needCell σ τ cl) rfl kB_X5_needCell rfl kS_X5_needCell kl_X5_59 (by decide) (Nat.le_of_ble_eq_true rfl) (by decide) ?_ ?_
  · rintro E σ' τ' ⟨rfl, rfl, rfl, hx⟩
    exact ⟨⟨rfl, hx⟩, rfl, rfl⟩
  rintro r9 σ' τ' ⟨⟨rfl, rfl, rfl⟩, hcell⟩
  obtain ⟨c, hc, rfl⟩ := isC_nI hcell
  refine r_aload_n C dX5_reads_4 rfl rfl ?_
  refine r_get (f := 1) C dX5_reads_5 ⟨by decide, by decide⟩ rfl rfl kU5 (by decide) kf_X5_19 rfl rfl ?_
  refine r_get (f := 4) C dX5_reads_8 ⟨by decide, by decide⟩ rfl rfl kU3 (by decide) kf_X5_175 rfl rfl ?_
  refine r_iload_n C dX5_reads_11 rfl rfl ?_
  refine r_ialdv (v := σ 7 3 c) C dX5_reads_12 ⟨by decide, by decide⟩ rfl (vp_in_nI hc (by decide)) (by rw [nI_clamp (by omega)]) ?_
  exact r_iret C dX5_reads_13 rfl (by decide) ⟨c, hc, rfl, rfl, rfl, rfl⟩
set_option maxRecDepth 100000 in
set_option maxHeartbeats 4000000 in
theorem c_rests {l : Launch} {D : va_G} {ad : Nat → Nat → Nat} {aC : Nat → ClassId} (σ : gSig) (τ : gTau) (cl : Int32) : CT l D ad aC yX5_rests cX5_rests 2 (some .int) 8 1 [.ref (ad 0 0), .int cl] σ τ (fun r σ' τ' => ∃ c, c < 16 ∧ cl = nI c ∧ gEq (some (.int (σ 7 4 c))) σ τ r σ' τ') (fun E σ' τ' => (E = xIOB ∧ ¬ isC cl) ∧ σ = σ' ∧ τ = τ') := by
  refine CT.of (own := RX5) (by decide +kernel) rfl (Nat.le_of_ble_eq_true rfl) (fun S C => ?_)
  refine r_iload_n C dX5_rests_0 rfl rfl ?_
  refine r_callSX C trivial dX5_rests_1 (c_needCell σ τ cl) rfl kB_X5_needCell rfl kS_X5_needCell kl_X5_59 (by decide) (Nat.le_of_ble_eq_true rfl) (by decide) ?_ ?_
  · rintro E σ' τ' ⟨rfl, rfl, rfl, hx⟩
    exact ⟨⟨rfl, hx⟩, rfl, rfl⟩
  rintro r9 σ' τ' ⟨⟨rfl, rfl, rfl⟩, hcell⟩
  obtain ⟨c, hc, rfl⟩ := isC_nI hcell
  refine r_aload_n C dX5_rests_4 rfl rfl ?_
  refine r_get (f := 1) C dX5_rests_5 ⟨by decide, by decide⟩ rfl rfl kU5 (by decide) kf_X5_19 rfl rfl ?_
  refine r_get (f := 5) C dX5_rests_8 ⟨by decide, by decide⟩ rfl rfl kU3 (by decide) kf_X5_178 rfl rfl ?_
  refine r_iload_n C dX5_rests_11 rfl rfl ?_
  refine r_ialdv (v := σ 7 4 c) C dX5_rests_12 ⟨by decide, by decide⟩ rfl (vp_in_nI hc (by decide)) (by rw [nI_clamp (by omega)]) ?_
  exact r_iret C dX5_rests_13 rfl (by decide) ⟨c, hc, rfl, rfl, rfl, rfl⟩
set_option maxRecDepth 100000 in
set_option maxHeartbeats 4000000 in
theorem c_show {l : Launch} {D : va_G} {ad : Nat → Nat → Nat} {aC : Nat → ClassId} (σ : gSig) (τ : gTau) (cl : Int32) (o : Nat → Nat) (hK : shK σ o) : CT l D ad aC yX5_show cX5_show 4 (some .int) 8 2 [.ref (ad 0 0), .int cl] σ τ (fun r σ' τ' => ∃ c, c < 16 ∧ cl = nI c ∧ bt (lcC σ o) c = false ∧ ∃ v, gV σ (σ 7 2) c = some v ∧ ∃ s4 t8, some (.int v) = r ∧ upF σ 4 s4 = σ' ∧ upT τ 8 t8 = τ') (fun E σ' τ' => ((E = xIOB ∧ ¬ isC cl) ∨ (E = xISE ∧ ∃ c, c < 16 ∧ cl = nI c ∧ bt (lcC σ o) c = true) ∨ (E = xARI ∧ ∃ c, c < 16 ∧ cl = nI c ∧ bt (lcC σ o) c = false ∧ gV σ (σ 7 2) c = none)) ∧ ∃ s4 t8, upF σ 4 s4 = σ' ∧ upT τ 8 t8 = τ') := by
  refine CT.of (own := RX5) (by decide +kernel) rfl (Nat.le_of_ble_eq_true rfl) (fun S C => ?_)
  refine r_iload_n C dX5_show_0 rfl rfl ?_
  refine r_callSX C trivial dX5_show_1 (c_needCell σ τ cl) rfl kB_X5_needCell rfl kS_X5_needCell kl_X5_59 (by decide) (Nat.le_of_ble_eq_true rfl) (by decide) ?_ ?_
  · rintro E σ' τ' ⟨rfl, rfl, rfl, hx⟩
    exact ⟨Or.inl ⟨rfl, hx⟩, σ 4, τ 8, upF_id σ 4, upT_id τ 8⟩
  rintro r9 σ' τ' ⟨⟨rfl, rfl, rfl⟩, hcell⟩
  obtain ⟨c, hc, rfl⟩ := isC_nI hcell
  refine r_aload_n C dX5_show_4 rfl rfl ?_
  refine r_callV C dX5_show_5 (c_lockedCells σ τ o hK.1) rfl ⟨by decide, by decide⟩ rfl rfl kB_X5_lockedCells rfl kI_X5_lockedCells kV_X5_lockedCells kl_X5_144 (by decide) (Nat.le_of_ble_eq_true rfl) (by decide) ?_
  rintro r9 σ' τ' ⟨rfl, rfl, rfl⟩
  refine r_iload_n C dX5_show_8 rfl rfl ?_
  refine r_callS C dX5_show_9 (c_has σ τ (lcC σ o) (nI c)) rfl kB_X5_has rfl kS_X5_has kl_X5_141 (by decide) (Nat.le_of_ble_eq_true rfl) (by decide) ?_
  rintro r9 σ' τ' ⟨rfl, rfl, rfl⟩
  rw [hasB_bt hc]
  refine r_ifeq (tgt := 25) C dX5_show_12 (by decide) (fun c12 => ?_) (fun c12 => ?_)
  · have hl := b2i_0.mp c12
    refine r_aload_n C dX5_show_25 rfl rfl ?_
    refine r_get (f := 1) C dX5_show_26 ⟨by decide, by decide⟩ rfl rfl kU5 (by decide) kf_X5_19 rfl rfl ?_
    refine r_iload_n C dX5_show_29 rfl rfl ?_
    refine r_aload_n C dX5_show_30 rfl rfl ?_
    refine r_get (f := 1) C dX5_show_31 ⟨by decide, by decide⟩ rfl rfl kU5 (by decide) kf_X5_19 rfl rfl ?_
    refine r_get (f := 3) C dX5_show_34 ⟨by decide, by decide⟩ rfl rfl kU3 (by decide) kf_X5_115 rfl rfl ?_
    refine r_callV C dX5_show_37 (c_sReckon σ τ c 7 2 o (gV σ (σ 7 2)) hc hK (gV_eq hK _) ⟨by decide, by decide⟩ (by decide) (fun _ _ => rfl)) rfl ⟨by decide, by decide⟩ rfl rfl kB_X3_reckon rfl kI_X3_reckon kV_X3_reckon kl_X5_183 (by decide) (Nat.le_of_ble_eq_true rfl) (by decide) ?_
    rintro r9 σ' τ' ⟨s4, t8, rfl, rfl, rfl⟩
    refine r_lstore_n C dX5_show_40 rfl (by decide) rfl ?_
    refine r_lload_n C dX5_show_41 rfl rfl ?_
    refine r_ldc2 C dX5_show_42 kc_X5_187 ?_
    refine r_lcmp C dX5_show_45 ?_
    refine r_ifne (tgt := 59) C dX5_show_46 (by decide) (fun c46 => ?_) (fun c46 => ?_)
    · obtain ⟨v, hv⟩ := oL_some (fun z => c46 (by rw [z]; exact lg_cmp_self _))
      rw [hv]
      refine r_lload_n C dX5_show_59 rfl rfl ?_
      refine r_l2i C dX5_show_60 ?_
      rw [show (oL (some v)).toInt32 = v from Int32.toInt32_toInt64 v]
      exact r_iret C dX5_show_61 rfl (by decide) ⟨c, hc, rfl, hl, v, hv, s4, t8, rfl, rfl, rfl⟩
    · have e46 := lg_cmp_0 c46
      have hnone : gV σ (σ 7 2) c = none := by
        cases hw : gV σ (σ 7 2) c with
        | none => rfl
        | some x => rw [hw] at e46; exact absurd e46 (oL_ne x)
      obtain ⟨⟨t1, t2⟩, ⟨t3, t4⟩, t5, t6⟩ := kt_X5_189_193
      exact r_throw (is := 191) (text := "the value is a fault") C trivial t1 t2 t3 t4 (by decide +kernel) t5 dX5_show_49 dX5_show_52 dX5_show_53 dX5_show_55 dX5_show_58 (by decide) (Nat.le_of_ble_eq_true rfl) (by decide) t6 (⟨Or.inr (Or.inr ⟨rfl, c, hc, rfl, hl, hnone⟩), s4, t8, rfl, rfl⟩)
  · have hl := b2i_n.mp c12
    obtain ⟨⟨t1, t2⟩, ⟨t3, t4⟩, t5, t6⟩ := kt_X5_48_52
    exact r_throw (is := 181) (text := "the cell is locked") C trivial t1 t2 t3 t4 (by decide +kernel) t5 dX5_show_15 dX5_show_18 dX5_show_19 dX5_show_21 dX5_show_24 (by decide) (Nat.le_of_ble_eq_true rfl) (by decide) t6 (⟨Or.inr (Or.inl ⟨rfl, c, hc, rfl, hl⟩), σ 4, τ 8, upF_id σ 4, upT_id τ 8⟩)
def veC (σ : gSig) (c : Nat) : Int32 := if bt (σ 13 0 6) c then 2 else if bt (σ 13 0 5) c then 1 else 0
set_option maxRecDepth 100000 in
set_option maxHeartbeats 4000000 in
theorem c_verdict {l : Launch} {D : va_G} {ad : Nat → Nat → Nat} {aC : Nat → ClassId} (σ : gSig) (τ : gTau) (cl : Int32) : CT l D ad aC yX5_verdict cX5_verdict 2 (some .int) 8 1 [.ref (ad 0 0), .int cl] σ τ (fun r σ' τ' => ∃ c, c < 16 ∧ cl = nI c ∧ gEq (some (.int (veC σ c))) σ τ r σ' τ') (fun E σ' τ' => (E = xIOB ∧ ¬ isC cl) ∧ σ = σ' ∧ τ = τ') := by
  refine CT.of (own := RX5) (by decide +kernel) rfl (Nat.le_of_ble_eq_true rfl) (fun S C => ?_)
  refine r_iload_n C dX5_verdict_0 rfl rfl ?_
  refine r_callSX C trivial dX5_verdict_1 (c_needCell σ τ cl) rfl kB_X5_needCell rfl kS_X5_needCell kl_X5_59 (by decide) (Nat.le_of_ble_eq_true rfl) (by decide) ?_ ?_
  · rintro E σ' τ' ⟨rfl, rfl, rfl, hx⟩
    exact ⟨⟨rfl, hx⟩, rfl, rfl⟩
  rintro r9 σ' τ' ⟨⟨rfl, rfl, rfl⟩, hcell⟩
  obtain ⟨c, hc, rfl⟩ := isC_nI hcell
  refine r_aload_n C dX5_verdict_4 rfl rfl ?_
  refine r_get (f := 3) C dX5_verdict_5 ⟨by decide, by decide⟩ rfl rfl kU5 (by decide) kf_X5_33 rfl rfl ?_
  refine r_get (f := 6) C dX5_verdict_8 ⟨by decide, by decide⟩ rfl rfl kU4 (by decide) kf_X5_138 rfl rfl ?_
  refine r_iload_n C dX5_verdict_11 rfl rfl ?_
  refine r_callS C dX5_verdict_12 (c_has σ τ (σ 13 0 6) (nI c)) rfl kB_X5_has rfl kS_X5_has kl_X5_141 (by decide) (Nat.le_of_ble_eq_true rfl) (by decide) ?_
  rintro r9 σ' τ' ⟨rfl, rfl, rfl⟩
  rw [hasB_bt hc]
  refine r_ifeq (tgt := 20) C dX5_verdict_15 (by decide) (fun c15 => ?_) (fun c15 => ?_)
  · have h15 := b2i_0.mp c15
    refine r_aload_n C dX5_verdict_20 rfl rfl ?_
    refine r_get (f := 3) C dX5_verdict_21 ⟨by decide, by decide⟩ rfl rfl kU5 (by decide) kf_X5_33 rfl rfl ?_
    refine r_get (f := 5) C dX5_verdict_24 ⟨by decide, by decide⟩ rfl rfl kU4 (by decide) kf_X5_194 rfl rfl ?_
    refine r_iload_n C dX5_verdict_27 rfl rfl ?_
    refine r_callS C dX5_verdict_28 (c_has σ τ (σ 13 0 5) (nI c)) rfl kB_X5_has rfl kS_X5_has kl_X5_141 (by decide) (Nat.le_of_ble_eq_true rfl) (by decide) ?_
    rintro r9 σ' τ' ⟨rfl, rfl, rfl⟩
    rw [hasB_bt hc]
    refine r_ifeq (tgt := 38) C dX5_verdict_31 (by decide) (fun c31 => ?_) (fun c31 => ?_)
    · have h31 := b2i_0.mp c31
      refine r_iconst (v := 0) C dX5_verdict_38 rfl ?_
      exact r_iret C dX5_verdict_39 rfl (by decide) ⟨c, hc, rfl, by unfold veC; rw [h15, h31]; rfl, rfl, rfl⟩
    · have h31 := b2i_n.mp c31
      refine r_iconst (v := 1) C dX5_verdict_34 rfl ?_
      refine r_goto (tgt := 39) C dX5_verdict_35 (by decide) ?_
      exact r_iret C dX5_verdict_39 rfl (by decide) ⟨c, hc, rfl, by unfold veC; rw [h15, h31]; rfl, rfl, rfl⟩
  · have h15 := b2i_n.mp c15
    refine r_iconst (v := 2) C dX5_verdict_18 rfl ?_
    exact r_iret C dX5_verdict_19 rfl (by decide) ⟨c, hc, rfl, by unfold veC; rw [h15]; rfl, rfl, rfl⟩
set_option maxRecDepth 100000 in
set_option maxHeartbeats 4000000 in
theorem c_failing {l : Launch} {D : va_G} {ad : Nat → Nat → Nat} {aC : Nat → ClassId} (σ : gSig) (τ : gTau) (cl : Int32) : CT l D ad aC yX5_failing cX5_failing 2 (some .int) 8 1 [.ref (ad 0 0), .int cl] σ τ (fun r σ' τ' => ∃ c, c < 16 ∧ cl = nI c ∧ gEq (some (.int (if bt (σ 13 0 6) c then σ 14 1 c else -1))) σ τ r σ' τ') (fun E σ' τ' => (E = xIOB ∧ ¬ isC cl) ∧ σ = σ' ∧ τ = τ') := by
  refine CT.of (own := RX5) (by decide +kernel) rfl (Nat.le_of_ble_eq_true rfl) (fun S C => ?_)
  refine r_iload_n C dX5_failing_0 rfl rfl ?_
  refine r_callSX C trivial dX5_failing_1 (c_needCell σ τ cl) rfl kB_X5_needCell rfl kS_X5_needCell kl_X5_59 (by decide) (Nat.le_of_ble_eq_true rfl) (by decide) ?_ ?_
  · rintro E σ' τ' ⟨rfl, rfl, rfl, hx⟩
    exact ⟨⟨rfl, hx⟩, rfl, rfl⟩
  rintro r9 σ' τ' ⟨⟨rfl, rfl, rfl⟩, hcell⟩
  obtain ⟨c, hc, rfl⟩ := isC_nI hcell
  refine r_aload_n C dX5_failing_4 rfl rfl ?_
  refine r_get (f := 3) C dX5_failing_5 ⟨by decide, by decide⟩ rfl rfl kU5 (by decide) kf_X5_33 rfl rfl ?_
  refine r_get (f := 6) C dX5_failing_8 ⟨by decide, by decide⟩ rfl rfl kU4 (by decide) kf_X5_138 rfl rfl ?_
  refine r_iload_n C dX5_failing_11 rfl rfl ?_
  refine r_callS C dX5_failing_12 (c_has σ τ (σ 13 0 6) (nI c)) rfl kB_X5_has rfl kS_X5_has kl_X5_141 (by decide) (Nat.le_of_ble_eq_true rfl) (by decide) ?_
  rintro r9 σ' τ' ⟨rfl, rfl, rfl⟩
  rw [hasB_bt hc]
  refine r_ifeq (tgt := 30) C dX5_failing_15 (by decide) (fun c15 => ?_) (fun c15 => ?_)
  · have h15 := b2i_0.mp c15
    refine r_iconst (v := (-1)) C dX5_failing_30 rfl ?_
    exact r_iret C dX5_failing_31 rfl (by decide) ⟨c, hc, rfl, by rw [h15]; rfl, rfl, rfl⟩
  · have h15 := b2i_n.mp c15
    refine r_aload_n C dX5_failing_18 rfl rfl ?_
    refine r_get (f := 3) C dX5_failing_19 ⟨by decide, by decide⟩ rfl rfl kU5 (by decide) kf_X5_33 rfl rfl ?_
    refine r_get (f := 1) C dX5_failing_22 ⟨by decide, by decide⟩ rfl rfl kU4 (by decide) kf_X5_197 rfl rfl ?_
    refine r_iload_n C dX5_failing_25 rfl rfl ?_
    refine r_ialdv (v := σ 14 1 c) C dX5_failing_26 ⟨by decide, by decide⟩ rfl (vp_in_nI hc (by decide)) (by rw [nI_clamp (by omega)]) ?_
    refine r_goto (tgt := 31) C dX5_failing_27 (by decide) ?_
    exact r_iret C dX5_failing_31 rfl (by decide) ⟨c, hc, rfl, by rw [h15]; rfl, rfl, rfl⟩
set_option maxRecDepth 100000 in
set_option maxHeartbeats 4000000 in
theorem c_smaller {l : Launch} {D : va_G} {ad : Nat → Nat → Nat} {aC : Nat → ClassId} (σ : gSig) (τ : gTau) (cl : Int32) : CT l D ad aC yX5_smaller cX5_smaller 2 (some .int) 8 1 [.ref (ad 0 0), .int cl] σ τ (fun r σ' τ' => ∃ c, c < 16 ∧ cl = nI c ∧ gEq (some (.int (if bt (σ 13 0 6) c then σ 14 2 c else -1))) σ τ r σ' τ') (fun E σ' τ' => (E = xIOB ∧ ¬ isC cl) ∧ σ = σ' ∧ τ = τ') := by
  refine CT.of (own := RX5) (by decide +kernel) rfl (Nat.le_of_ble_eq_true rfl) (fun S C => ?_)
  refine r_iload_n C dX5_smaller_0 rfl rfl ?_
  refine r_callSX C trivial dX5_smaller_1 (c_needCell σ τ cl) rfl kB_X5_needCell rfl kS_X5_needCell kl_X5_59 (by decide) (Nat.le_of_ble_eq_true rfl) (by decide) ?_ ?_
  · rintro E σ' τ' ⟨rfl, rfl, rfl, hx⟩
    exact ⟨⟨rfl, hx⟩, rfl, rfl⟩
  rintro r9 σ' τ' ⟨⟨rfl, rfl, rfl⟩, hcell⟩
  obtain ⟨c, hc, rfl⟩ := isC_nI hcell
  refine r_aload_n C dX5_smaller_4 rfl rfl ?_
  refine r_get (f := 3) C dX5_smaller_5 ⟨by decide, by decide⟩ rfl rfl kU5 (by decide) kf_X5_33 rfl rfl ?_
  refine r_get (f := 6) C dX5_smaller_8 ⟨by decide, by decide⟩ rfl rfl kU4 (by decide) kf_X5_138 rfl rfl ?_
  refine r_iload_n C dX5_smaller_11 rfl rfl ?_
  refine r_callS C dX5_smaller_12 (c_has σ τ (σ 13 0 6) (nI c)) rfl kB_X5_has rfl kS_X5_has kl_X5_141 (by decide) (Nat.le_of_ble_eq_true rfl) (by decide) ?_
  rintro r9 σ' τ' ⟨rfl, rfl, rfl⟩
  rw [hasB_bt hc]
  refine r_ifeq (tgt := 30) C dX5_smaller_15 (by decide) (fun c15 => ?_) (fun c15 => ?_)
  · have h15 := b2i_0.mp c15
    refine r_iconst (v := (-1)) C dX5_smaller_30 rfl ?_
    exact r_iret C dX5_smaller_31 rfl (by decide) ⟨c, hc, rfl, by rw [h15]; rfl, rfl, rfl⟩
  · have h15 := b2i_n.mp c15
    refine r_aload_n C dX5_smaller_18 rfl rfl ?_
    refine r_get (f := 3) C dX5_smaller_19 ⟨by decide, by decide⟩ rfl rfl kU5 (by decide) kf_X5_33 rfl rfl ?_
    refine r_get (f := 2) C dX5_smaller_22 ⟨by decide, by decide⟩ rfl rfl kU4 (by decide) kf_X5_212 rfl rfl ?_
    refine r_iload_n C dX5_smaller_25 rfl rfl ?_
    refine r_ialdv (v := σ 14 2 c) C dX5_smaller_26 ⟨by decide, by decide⟩ rfl (vp_in_nI hc (by decide)) (by rw [nI_clamp (by omega)]) ?_
    refine r_goto (tgt := 31) C dX5_smaller_27 (by decide) ?_
    exact r_iret C dX5_smaller_31 rfl (by decide) ⟨c, hc, rfl, by rw [h15]; rfl, rfl, rfl⟩
set_option maxRecDepth 100000 in
set_option maxHeartbeats 4000000 in
theorem c_isLocked {l : Launch} {D : va_G} {ad : Nat → Nat → Nat} {aC : Nat → ClassId} (σ : gSig) (τ : gTau) (cl : Int32) (o : Nat → Nat) (hO : ordI (σ 7 5) o 16) : CT l D ad aC yX5_isLocked cX5_isLocked 2 (some .boolean) 8 1 [.ref (ad 0 0), .int cl] σ τ (fun r σ' τ' => ∃ c, c < 16 ∧ cl = nI c ∧ gEq (some (.int (b2i (bt (lcC σ o) c)))) σ τ r σ' τ') (fun E σ' τ' => (E = xIOB ∧ ¬ isC cl) ∧ σ = σ' ∧ τ = τ') := by
  refine CT.of (own := RX5) (by decide +kernel) rfl (Nat.le_of_ble_eq_true rfl) (fun S C => ?_)
  refine r_iload_n C dX5_isLocked_0 rfl rfl ?_
  refine r_callSX C trivial dX5_isLocked_1 (c_needCell σ τ cl) rfl kB_X5_needCell rfl kS_X5_needCell kl_X5_59 (by decide) (Nat.le_of_ble_eq_true rfl) (by decide) ?_ ?_
  · rintro E σ' τ' ⟨rfl, rfl, rfl, hx⟩
    exact ⟨⟨rfl, hx⟩, rfl, rfl⟩
  rintro r9 σ' τ' ⟨⟨rfl, rfl, rfl⟩, hcell⟩
  obtain ⟨c, hc, rfl⟩ := isC_nI hcell
  refine r_aload_n C dX5_isLocked_4 rfl rfl ?_
  refine r_callV C dX5_isLocked_5 (c_lockedCells σ τ o hO) rfl ⟨by decide, by decide⟩ rfl rfl kB_X5_lockedCells rfl kI_X5_lockedCells kV_X5_lockedCells kl_X5_144 (by decide) (Nat.le_of_ble_eq_true rfl) (by decide) ?_
  rintro r9 σ' τ' ⟨rfl, rfl, rfl⟩
  refine r_iload_n C dX5_isLocked_8 rfl rfl ?_
  refine r_callS C dX5_isLocked_9 (c_has σ τ (lcC σ o) (nI c)) rfl kB_X5_has rfl kS_X5_has kl_X5_141 (by decide) (Nat.le_of_ble_eq_true rfl) (by decide) ?_
  rintro r9 σ' τ' ⟨rfl, rfl, rfl⟩
  rw [hasB_bt hc]
  exact r_zret C dX5_isLocked_12 rfl (by decide) (b2i_01 _) ⟨c, hc, rfl, rfl, rfl, rfl⟩
def lwC (σ : gSig) (c : Nat) : Bool := !decide ((clR (fun d => σ 7 3 d &&& ((wvF (σ 18 1) (σ 17 0 3) 16) ^^^ (-1))) (b1 c &&& ((wvF (σ 18 1) (σ 17 0 3) 16) ^^^ (-1))) 16) &&& σ 13 0 6 = 0)
set_option maxRecDepth 100000 in
set_option maxHeartbeats 4000000 in
theorem c_isLockedByWays {l : Launch} {D : va_G} {ad : Nat → Nat → Nat} {aC : Nat → ClassId} (σ : gSig) (τ : gTau) (cl : Int32) : CT l D ad aC yX5_isLockedByWays cX5_isLockedByWays 2 (some .boolean) 8 1 [.ref (ad 0 0), .int cl] σ τ (fun r σ' τ' => ∃ c, c < 16 ∧ cl = nI c ∧ gEq (some (.int (b2i (lwC σ c)))) σ τ r σ' τ') (fun E σ' τ' => (E = xIOB ∧ ¬ isC cl) ∧ σ = σ' ∧ τ = τ') := by
  refine CT.of (own := RX5) (by decide +kernel) rfl (Nat.le_of_ble_eq_true rfl) (fun S C => ?_)
  refine r_iload_n C dX5_isLockedByWays_0 rfl rfl ?_
  refine r_callSX C trivial dX5_isLockedByWays_1 (c_needCell σ τ cl) rfl kB_X5_needCell rfl kS_X5_needCell kl_X5_59 (by decide) (Nat.le_of_ble_eq_true rfl) (by decide) ?_ ?_
  · rintro E σ' τ' ⟨rfl, rfl, rfl, hx⟩
    exact ⟨⟨rfl, hx⟩, rfl, rfl⟩
  rintro r9 σ' τ' ⟨⟨rfl, rfl, rfl⟩, hcell⟩
  obtain ⟨c, hc, rfl⟩ := isC_nI hcell
  refine r_aload_n C dX5_isLockedByWays_4 rfl rfl ?_
  refine r_get (f := 1) C dX5_isLockedByWays_5 ⟨by decide, by decide⟩ rfl rfl kU5 (by decide) kf_X5_19 rfl rfl ?_
  refine r_iload_n C dX5_isLockedByWays_8 rfl rfl ?_
  refine r_aload_n C dX5_isLockedByWays_9 rfl rfl ?_
  refine r_get (f := 4) C dX5_isLockedByWays_10 ⟨by decide, by decide⟩ rfl rfl kU5 (by decide) kf_X5_40 rfl rfl ?_
  refine r_callV C dX5_isLockedByWays_13 (c_waived σ τ) rfl ⟨by decide, by decide⟩ rfl rfl kB_X1_waivedCells rfl kI_X1_waivedCells kV_X1_waivedCells kl_X5_215 (by decide) (Nat.le_of_ble_eq_true rfl) (by decide) ?_
  rintro r9 σ' τ' ⟨rfl, rfl, rfl⟩
  refine r_callV C dX5_isLockedByWays_16 (c_reachedFrom σ τ c hc (wvF (σ 18 1) (σ 17 0 3) 16)) rfl ⟨by decide, by decide⟩ rfl rfl kB_X3_reachedFrom rfl kI_X3_reachedFrom kV_X3_reachedFrom kl_X5_218 (by decide) (Nat.le_of_ble_eq_true rfl) (by decide) ?_
  rintro r9 σ' τ' ⟨rfl, rfl, rfl⟩
  refine r_aload_n C dX5_isLockedByWays_19 rfl rfl ?_
  refine r_get (f := 3) C dX5_isLockedByWays_20 ⟨by decide, by decide⟩ rfl rfl kU5 (by decide) kf_X5_33 rfl rfl ?_
  refine r_get (f := 6) C dX5_isLockedByWays_23 ⟨by decide, by decide⟩ rfl rfl kU4 (by decide) kf_X5_138 rfl rfl ?_
  refine r_iand C dX5_isLockedByWays_26 ?_
  refine r_ifeq (tgt := 34) C dX5_isLockedByWays_27 (by decide) (fun c27 => ?_) (fun c27 => ?_)
  · have hw : lwC σ c = false := by unfold lwC; rw [decide_eq_true c27]; rfl
    refine r_iconst (v := 0) C dX5_isLockedByWays_34 rfl ?_
    exact r_zret C dX5_isLockedByWays_35 rfl (by decide) (by decide) ⟨c, hc, rfl, by rw [hw]; rfl, rfl, rfl⟩
  · have hw : lwC σ c = true := by unfold lwC; rw [decide_eq_false c27]; rfl
    refine r_iconst (v := 1) C dX5_isLockedByWays_30 rfl ?_
    refine r_goto (tgt := 35) C dX5_isLockedByWays_31 (by decide) ?_
    exact r_zret C dX5_isLockedByWays_35 rfl (by decide) (by decide) ⟨c, hc, rfl, by rw [hw]; rfl, rfl, rfl⟩
def mkC (σ : gSig) (c : Nat) : Bool := !decide ((σ 7 4 c ||| b1 c) &&& σ 13 0 6 = 0)
set_option maxRecDepth 100000 in
set_option maxHeartbeats 4000000 in
theorem c_isMarked {l : Launch} {D : va_G} {ad : Nat → Nat → Nat} {aC : Nat → ClassId} (σ : gSig) (τ : gTau) (cl : Int32) : CT l D ad aC yX5_isMarked cX5_isMarked 2 (some .boolean) 8 1 [.ref (ad 0 0), .int cl] σ τ (fun r σ' τ' => ∃ c, c < 16 ∧ cl = nI c ∧ gEq (some (.int (b2i (mkC σ c)))) σ τ r σ' τ') (fun E σ' τ' => (E = xIOB ∧ ¬ isC cl) ∧ σ = σ' ∧ τ = τ') := by
  refine CT.of (own := RX5) (by decide +kernel) rfl (Nat.le_of_ble_eq_true rfl) (fun S C => ?_)
  refine r_iload_n C dX5_isMarked_0 rfl rfl ?_
  refine r_callSX C trivial dX5_isMarked_1 (c_needCell σ τ cl) rfl kB_X5_needCell rfl kS_X5_needCell kl_X5_59 (by decide) (Nat.le_of_ble_eq_true rfl) (by decide) ?_ ?_
  · rintro E σ' τ' ⟨rfl, rfl, rfl, hx⟩
    exact ⟨⟨rfl, hx⟩, rfl, rfl⟩
  rintro r9 σ' τ' ⟨⟨rfl, rfl, rfl⟩, hcell⟩
  obtain ⟨c, hc, rfl⟩ := isC_nI hcell
  refine r_aload_n C dX5_isMarked_4 rfl rfl ?_
  refine r_get (f := 1) C dX5_isMarked_5 ⟨by decide, by decide⟩ rfl rfl kU5 (by decide) kf_X5_19 rfl rfl ?_
  refine r_get (f := 5) C dX5_isMarked_8 ⟨by decide, by decide⟩ rfl rfl kU3 (by decide) kf_X5_178 rfl rfl ?_
  refine r_iload_n C dX5_isMarked_11 rfl rfl ?_
  refine r_ialdv (v := σ 7 4 c) C dX5_isMarked_12 ⟨by decide, by decide⟩ rfl (vp_in_nI hc (by decide)) (by rw [nI_clamp (by omega)]) ?_
  refine r_iconst (v := 1) C dX5_isMarked_13 rfl ?_
  refine r_iload_n C dX5_isMarked_14 rfl rfl ?_
  refine r_ishl C dX5_isMarked_15 ?_
  refine r_ior C dX5_isMarked_16 ?_
  refine r_aload_n C dX5_isMarked_17 rfl rfl ?_
  refine r_get (f := 3) C dX5_isMarked_18 ⟨by decide, by decide⟩ rfl rfl kU5 (by decide) kf_X5_33 rfl rfl ?_
  refine r_get (f := 6) C dX5_isMarked_21 ⟨by decide, by decide⟩ rfl rfl kU4 (by decide) kf_X5_138 rfl rfl ?_
  refine r_iand C dX5_isMarked_24 ?_
  refine r_ifeq (tgt := 32) C dX5_isMarked_25 (by decide) (fun c25 => ?_) (fun c25 => ?_)
  · have hw : mkC σ c = false := by unfold mkC b1; rw [decide_eq_true c25]; rfl
    refine r_iconst (v := 0) C dX5_isMarked_32 rfl ?_
    exact r_zret C dX5_isMarked_33 rfl (by decide) (by decide) ⟨c, hc, rfl, by rw [hw]; rfl, rfl, rfl⟩
  · have hw : mkC σ c = true := by unfold mkC b1; rw [decide_eq_false c25]; rfl
    refine r_iconst (v := 1) C dX5_isMarked_28 rfl ?_
    refine r_goto (tgt := 33) C dX5_isMarked_29 (by decide) ?_
    exact r_zret C dX5_isMarked_33 rfl (by decide) (by decide) ⟨c, hc, rfl, by rw [hw]; rfl, rfl, rfl⟩
set_option maxRecDepth 100000 in
set_option maxHeartbeats 4000000 in
theorem c_locked {l : Launch} {D : va_G} {ad : Nat → Nat → Nat} {aC : Nat → ClassId} (σ : gSig) (τ : gTau) (o : Nat → Nat) (hO : ordI (σ 7 5) o 16) : CZ l D ad aC yX5_locked cX5_locked 1 (some .int) 3 [.ref (ad 0 0)] σ τ (gEq (some (.int (bcJ (lcC σ o)))) σ τ) := by
  refine CZ.of (own := RX5) (by decide +kernel) rfl (Nat.le_of_ble_eq_true rfl) (fun S C => ?_)
  refine r_aload_n C dX5_locked_0 rfl rfl ?_
  refine r_callV C dX5_locked_1 (c_lockedCells σ τ o hO) rfl ⟨by decide, by decide⟩ rfl rfl kB_X5_lockedCells rfl kI_X5_lockedCells kV_X5_lockedCells kl_X5_144 (by decide) (Nat.le_of_ble_eq_true rfl) (by decide) ?_
  rintro r9 σ' τ' ⟨rfl, rfl, rfl⟩
  refine r_callS C dX5_locked_4 (c_bitCount σ τ (lcC σ o)) rfl kB_J6_bitCount_0f7a4 rfl kS_J6_bitCount_0f7a4 kl_X5_166 (by decide) (Nat.le_of_ble_eq_true rfl) (by decide) ?_
  rintro r9 σ' τ' ⟨rfl, rfl, rfl⟩
  exact r_iret C dX5_locked_7 rfl (by decide) ⟨rfl, rfl, rfl⟩
set_option maxRecDepth 100000 in
set_option maxHeartbeats 4000000 in
theorem c_unlockedAt {l : Launch} {D : va_G} {ad : Nat → Nat → Nat} {aC : Nat → ClassId} (σ : gSig) (τ : gTau) (ix : Int32) (w : Nat) (hw : σ 17 0 4 = nI w) (hw16 : w ≤ 16) : CT l D ad aC yX5_unlockedAt cX5_unlockedAt 2 (some .int) 7 1 [.ref (ad 0 0), .int ix] σ τ (fun r σ' τ' => ∃ j, j < w ∧ ix = nI j ∧ gEq (some (.int (σ 18 2 j))) σ τ r σ' τ') (fun E σ' τ' => (E = xIOB ∧ ¬ ∃ j, j < w ∧ ix = nI j) ∧ σ = σ' ∧ τ = τ') := by
  refine CT.of (own := RX5) (by decide +kernel) rfl (Nat.le_of_ble_eq_true rfl) (fun S C => ?_)
  refine r_iload_n C dX5_unlockedAt_0 rfl rfl ?_
  refine r_iflt (tgt := 15) C dX5_unlockedAt_1 (by decide) (fun c1 => ?_) (fun c1 => ?_)
  · have hno : ¬ ∃ j, j < w ∧ ix = nI j := fun ⟨j, hj, e⟩ => by rw [e] at c1; exact absurd c1 (nI_pos (by omega))
    obtain ⟨⟨t1, t2⟩, ⟨t3, t4⟩, t5, t6⟩ := kt_X5_225_229
    exact r_throw (is := 227) (text := "not so many cells were unlocked") C trivial t1 t2 t3 t4 (by decide +kernel) t5 dX5_unlockedAt_15 dX5_unlockedAt_18 dX5_unlockedAt_19 dX5_unlockedAt_21 dX5_unlockedAt_24 (by decide) (Nat.le_of_ble_eq_true rfl) (by decide) t6 (⟨⟨rfl, hno⟩, rfl, rfl⟩)
  · refine r_iload_n C dX5_unlockedAt_4 rfl rfl ?_
    refine r_aload_n C dX5_unlockedAt_5 rfl rfl ?_
    refine r_get (f := 4) C dX5_unlockedAt_6 ⟨by decide, by decide⟩ rfl rfl kU5 (by decide) kf_X5_40 rfl rfl ?_
    refine r_get (f := 4) (v := .int (nI w)) C dX5_unlockedAt_9 ⟨by decide, by decide⟩ rfl rfl kU1 (by decide) kf_X5_222 rfl (by rw [← hw]; rfl) ?_
    refine r_icmplt (tgt := 25) C dX5_unlockedAt_12 (by decide) (fun c12 => ?_) (fun c12 => ?_)
    · have n12 := Int32.not_le.mpr c12
      obtain ⟨j, hj31, rfl⟩ := nI_of c1
      have hj : j < w := (nI_ltI hj31 (by omega)).mp c12
      refine r_aload_n C dX5_unlockedAt_25 rfl rfl ?_
      refine r_get (f := 4) C dX5_unlockedAt_26 ⟨by decide, by decide⟩ rfl rfl kU5 (by decide) kf_X5_40 rfl rfl ?_
      refine r_get (f := 2) C dX5_unlockedAt_29 ⟨by decide, by decide⟩ rfl rfl kU1 (by decide) kf_X5_230 rfl rfl ?_
      refine r_iload_n C dX5_unlockedAt_32 rfl rfl ?_
      refine r_ialdv (v := σ 18 2 j) C dX5_unlockedAt_33 ⟨by decide, by decide⟩ rfl (vp_in_nI (show j < 16 by omega) (by decide)) (by rw [nI_clamp (by omega)]) ?_
      exact r_iret C dX5_unlockedAt_34 rfl (by decide) ⟨j, hj, rfl, rfl, rfl, rfl⟩
    · have n12 := Int32.not_lt.mp c12
      have hno : ¬ ∃ j, j < w ∧ ix = nI j := fun ⟨j, hj, e⟩ => by rw [e] at c12; exact absurd (nI_lt hj (by omega)) c12
      obtain ⟨⟨t1, t2⟩, ⟨t3, t4⟩, t5, t6⟩ := kt_X5_225_229
      exact r_throw (is := 227) (text := "not so many cells were unlocked") C trivial t1 t2 t3 t4 (by decide +kernel) t5 dX5_unlockedAt_15 dX5_unlockedAt_18 dX5_unlockedAt_19 dX5_unlockedAt_21 dX5_unlockedAt_24 (by decide) (Nat.le_of_ble_eq_true rfl) (by decide) t6 (⟨⟨rfl, hno⟩, rfl, rfl⟩)
set_option maxRecDepth 100000 in
set_option maxHeartbeats 4000000 in
theorem c_input {l : Launch} {D : va_G} {ad : Nat → Nat → Nat} {aC : Nat → ClassId} (σ : gSig) (τ : gTau) (cl lo hi : Int32) (hnew : ∀ c lo hi, c < 16 → (∀ d, d < 16 → m16 ((inS σ c lo hi) 7 3 d)) ∧ ∃ rk : Nat → Nat, ∀ a b, a < 16 → b < 16 → bt ((inS σ c lo hi) 7 3 a) b = true → rk b < rk a) : CT l D ad aC yX5_input cX5_input 4 (some .int) 8 2 [.ref (ad 0 0), .int cl, .int lo, .int hi] σ τ (fun r σ' τ' => ∃ c, c < 16 ∧ cl = nI c ∧ ((-1000000 : Int32) ≤ lo ∧ lo ≤ hi ∧ hi ≤ 1000000) ∧ ∃ ord ro o2, ordI ord o2 16 ∧ ordT ((inS σ c lo hi) 7 3) o2 16 ∧ ordJ o2 16 ∧ ordS o2 ∧ (∀ z, z < 16 → rsE ((inS σ c lo hi) 7 3) ro z) ∧ gEq (some (.int (bcJ ((upR (upR (inS σ c lo hi) 7 5 ord) 7 4 ro) 13 0 5 &&& chM (upR (upR (inS σ c lo hi) 7 5 ord) 7 4 ro) c)))) (fcS (upR (upR (inS σ c lo hi) 7 5 ord) 7 4 ro) c) τ r σ' τ') (fun E σ' τ' => ((E = xIOB ∧ ¬ isC cl) ∨ (E = xIAE ∧ ∃ c, c < 16 ∧ cl = nI c ∧ ¬ ((-1000000 : Int32) ≤ lo ∧ lo ≤ hi ∧ hi ≤ 1000000))) ∧ σ = σ' ∧ τ = τ') := by
  refine CT.of (own := RX5) (by decide +kernel) rfl (Nat.le_of_ble_eq_true rfl) (fun S C => ?_)
  refine r_iload_n C dX5_input_0 rfl rfl ?_
  refine r_callSX C trivial dX5_input_1 (c_needCell σ τ cl) rfl kB_X5_needCell rfl kS_X5_needCell kl_X5_59 (by decide) (Nat.le_of_ble_eq_true rfl) (by decide) ?_ ?_
  · rintro E σ' τ' ⟨rfl, rfl, rfl, hx⟩
    exact ⟨Or.inl ⟨rfl, hx⟩, rfl, rfl⟩
  rintro r9 σ' τ' ⟨⟨rfl, rfl, rfl⟩, hcell⟩
  obtain ⟨c, hc, rfl⟩ := isC_nI hcell
  refine r_iload_n C dX5_input_4 rfl rfl ?_
  refine r_ldc C dX5_input_5 kc_X5_92 ?_
  refine r_icmplt (tgt := 27) C dX5_input_7 (by decide) (fun c7 => ?_) (fun c7 => ?_)
  · have n7 := Int32.not_le.mpr c7
    have hno : ¬ ((-1000000 : Int32) ≤ lo ∧ lo ≤ hi ∧ hi ≤ 1000000) := fun q => n7 q.1
    obtain ⟨⟨t1, t2⟩, ⟨t3, t4⟩, t5, t6⟩ := kt_X5_63_67
    exact r_throw (is := 94) (text := "low or high is out of range") C trivial t1 t2 t3 t4 (by decide +kernel) t5 dX5_input_27 dX5_input_30 dX5_input_31 dX5_input_33 dX5_input_36 (by decide) (Nat.le_of_ble_eq_true rfl) (by decide) t6 (⟨Or.inr ⟨rfl, c, hc, rfl, hno⟩, rfl, rfl⟩)
  · have n7 := Int32.not_lt.mp c7
    refine r_iload_n C dX5_input_10 rfl rfl ?_
    refine r_ldc C dX5_input_11 kc_X5_93 ?_
    refine r_icmpgt (tgt := 27) C dX5_input_13 (by decide) (fun c13 => ?_) (fun c13 => ?_)
    · have n13 := Int32.not_le.mpr c13
      have hno : ¬ ((-1000000 : Int32) ≤ lo ∧ lo ≤ hi ∧ hi ≤ 1000000) := fun q => absurd (Int32.le_trans q.2.1 q.2.2) n13
      obtain ⟨⟨t1, t2⟩, ⟨t3, t4⟩, t5, t6⟩ := kt_X5_63_67
      exact r_throw (is := 94) (text := "low or high is out of range") C trivial t1 t2 t3 t4 (by decide +kernel) t5 dX5_input_27 dX5_input_30 dX5_input_31 dX5_input_33 dX5_input_36 (by decide) (Nat.le_of_ble_eq_true rfl) (by decide) t6 (⟨Or.inr ⟨rfl, c, hc, rfl, hno⟩, rfl, rfl⟩)
    · have n13 := Int32.not_lt.mp c13
      refine r_iload_n C dX5_input_16 rfl rfl ?_
      refine r_iload_n C dX5_input_17 rfl rfl ?_
      refine r_icmplt (tgt := 27) C dX5_input_18 (by decide) (fun c18 => ?_) (fun c18 => ?_)
      · have n18 := Int32.not_le.mpr c18
        have hno : ¬ ((-1000000 : Int32) ≤ lo ∧ lo ≤ hi ∧ hi ≤ 1000000) := fun q => n18 q.2.1
        obtain ⟨⟨t1, t2⟩, ⟨t3, t4⟩, t5, t6⟩ := kt_X5_63_67
        exact r_throw (is := 94) (text := "low or high is out of range") C trivial t1 t2 t3 t4 (by decide +kernel) t5 dX5_input_27 dX5_input_30 dX5_input_31 dX5_input_33 dX5_input_36 (by decide) (Nat.le_of_ble_eq_true rfl) (by decide) t6 (⟨Or.inr ⟨rfl, c, hc, rfl, hno⟩, rfl, rfl⟩)
      · have n18 := Int32.not_lt.mp c18
        refine r_iload_n C dX5_input_21 rfl rfl ?_
        refine r_ldc C dX5_input_22 kc_X5_93 ?_
        refine r_icmple (tgt := 37) C dX5_input_24 (by decide) (fun c24 => ?_) (fun c24 => ?_)
        · have n24 := Int32.not_lt.mpr c24
          have hyes : ((-1000000 : Int32) ≤ lo ∧ lo ≤ hi ∧ hi ≤ 1000000) := ⟨n7, n18, c24⟩
          obtain ⟨hm, rk, hrk⟩ := hnew c lo hi hc
          refine r_aload_n C dX5_input_37 rfl rfl ?_
          refine r_get (f := 1) C dX5_input_38 ⟨by decide, by decide⟩ rfl rfl kU5 (by decide) kf_X5_19 rfl rfl ?_
          refine r_iload_n C dX5_input_41 rfl rfl ?_
          refine r_iload_n C dX5_input_42 rfl rfl ?_
          refine r_iload_n C dX5_input_43 rfl rfl ?_
          refine r_callV C dX5_input_44 (c_makeInput σ τ c lo hi rk hc hm hrk) rfl ⟨by decide, by decide⟩ rfl rfl kB_X3_makeInput rfl kI_X3_makeInput kV_X3_makeInput kl_X5_96 (by decide) (Nat.le_of_ble_eq_true rfl) (by decide) ?_
          rintro r9 σ' τ' ⟨ord, ro, o2, rfl, rfl, rfl, q1, q2, q3, q4, q5⟩
          refine r_aload_n C dX5_input_47 rfl rfl ?_
          refine r_iload_n C dX5_input_48 rfl rfl ?_
          refine r_callV C dX5_input_49 (c_followChange (upR (upR (inS σ c lo hi) 7 5 ord) 7 4 ro) τ c hc) rfl ⟨by decide, by decide⟩ rfl rfl kB_X5_followChange rfl kI_X5_followChange kV_X5_followChange kl_X5_88 (by decide) (Nat.le_of_ble_eq_true rfl) (by decide) ?_
          rintro r9 σ' τ' ⟨rfl, rfl, rfl⟩
          exact r_iret C dX5_input_52 rfl (by decide) ⟨c, hc, rfl, hyes, ord, ro, o2, q1, q2, q3, q4, q5, rfl, rfl, rfl⟩
        · have n24 := Int32.not_le.mp c24
          have hno : ¬ ((-1000000 : Int32) ≤ lo ∧ lo ≤ hi ∧ hi ≤ 1000000) := fun q => c24 q.2.2
          obtain ⟨⟨t1, t2⟩, ⟨t3, t4⟩, t5, t6⟩ := kt_X5_63_67
          exact r_throw (is := 94) (text := "low or high is out of range") C trivial t1 t2 t3 t4 (by decide +kernel) t5 dX5_input_27 dX5_input_30 dX5_input_31 dX5_input_33 dX5_input_36 (by decide) (Nat.le_of_ble_eq_true rfl) (by decide) t6 (⟨Or.inr ⟨rfl, c, hc, rfl, hno⟩, rfl, rfl⟩)
set_option maxRecDepth 100000 in
set_option maxHeartbeats 4000000 in
theorem c_enter {l : Launch} {D : va_G} {ad : Nat → Nat → Nat} {aC : Nat → ClassId} (σ : gSig) (τ : gTau) (cl : Int32) (k : Nat) (hk : σ 1 16 3 = nI k) (hk2 : k ≤ 12) (hnew : ∀ c, c < 16 → (σ 1 16 4 = 1 ∧ bt (rotF (σ 7 4) (rsM (σ 2 16) (σ 3 16) k) 16) c = false) → (∀ d, d < 16 → m16 ((fmS σ c k) 7 3 d)) ∧ ∃ rk : Nat → Nat, ∀ a b, a < 16 → b < 16 → bt ((fmS σ c k) 7 3 a) b = true → rk b < rk a) : CT l D ad aC yX5_enter cX5_enter 2 (some .int) 8 2 [.ref (ad 0 0), .int cl] σ τ (fun r σ' τ' => ∃ c, c < 16 ∧ cl = nI c ∧ (σ 1 16 4 = 1 ∧ bt (rotF (σ 7 4) (rsM (σ 2 16) (σ 3 16) k) 16) c = false) ∧ ∃ ord ro o2, ordI ord o2 16 ∧ ordT ((fmS σ c k) 7 3) o2 16 ∧ ordJ o2 16 ∧ ordS o2 ∧ (∀ z, z < 16 → rsE ((fmS σ c k) 7 3) ro z) ∧ gEq (some (.int (bcJ ((clS (upR (upR (fmS σ c k) 7 5 ord) 7 4 ro)) 13 0 5 &&& chM (clS (upR (upR (fmS σ c k) 7 5 ord) 7 4 ro)) c)))) (fcS (clS (upR (upR (fmS σ c k) 7 5 ord) 7 4 ro)) c) τ r σ' τ') (fun E σ' τ' => ((E = xIOB ∧ ¬ isC cl) ∨ (E = xISE ∧ ∃ c, c < 16 ∧ cl = nI c ∧ ¬ (σ 1 16 4 = 1 ∧ bt (rotF (σ 7 4) (rsM (σ 2 16) (σ 3 16) k) 16) c = false))) ∧ σ = σ' ∧ τ = τ') := by
  refine CT.of (own := RX5) (by decide +kernel) rfl (Nat.le_of_ble_eq_true rfl) (fun S C => ?_)
  refine r_iload_n C dX5_enter_0 rfl rfl ?_
  refine r_callSX C trivial dX5_enter_1 (c_needCell σ τ cl) rfl kB_X5_needCell rfl kS_X5_needCell kl_X5_59 (by decide) (Nat.le_of_ble_eq_true rfl) (by decide) ?_ ?_
  · rintro E σ' τ' ⟨rfl, rfl, rfl, hx⟩
    exact ⟨Or.inl ⟨rfl, hx⟩, rfl, rfl⟩
  rintro r9 σ' τ' ⟨⟨rfl, rfl, rfl⟩, hcell⟩
  obtain ⟨c, hc, rfl⟩ := isC_nI hcell
  refine r_aload_n C dX5_enter_4 rfl rfl ?_
  refine r_get (f := 0) C dX5_enter_5 ⟨by decide, by decide⟩ rfl rfl kU5 (by decide) kf_X5_10 rfl rfl ?_
  refine r_get (f := 4) C dX5_enter_8 ⟨by decide, by decide⟩ rfl rfl kU0 (by decide) kf_X5_55 rfl rfl ?_
  refine r_iconst (v := 1) C dX5_enter_11 rfl ?_
  refine r_icmpeq (tgt := 25) C dX5_enter_12 (by decide) (fun c12 => ?_) (fun c12 => ?_)
  · refine r_aload_n C dX5_enter_25 rfl rfl ?_
    refine r_get (f := 1) C dX5_enter_26 ⟨by decide, by decide⟩ rfl rfl kU5 (by decide) kf_X5_19 rfl rfl ?_
    refine r_iload_n C dX5_enter_29 rfl rfl ?_
    refine r_aload_n C dX5_enter_30 rfl rfl ?_
    refine r_get (f := 0) C dX5_enter_31 ⟨by decide, by decide⟩ rfl rfl kU5 (by decide) kf_X5_10 rfl rfl ?_
    refine r_callV C dX5_enter_34 (c_wouldRest σ τ (nI c) 16 k (by decide) hk hk2) rfl ⟨by decide, by decide⟩ rfl rfl kB_X3_wouldRestOnItself rfl kI_X3_wouldRestOnItself kV_X3_wouldRestOnItself kl_X5_78 (by decide) (Nat.le_of_ble_eq_true rfl) (by decide) ?_
    rintro r9 σ' τ' ⟨rfl, rfl, rfl⟩
    rw [hasB_bt hc]
    refine r_ifeq (tgt := 50) C dX5_enter_37 (by decide) (fun c37 => ?_) (fun c37 => ?_)
    · have h37 := b2i_0.mp c37
      have hyes : (σ 1 16 4 = 1 ∧ bt (rotF (σ 7 4) (rsM (σ 2 16) (σ 3 16) k) 16) c = false) := ⟨c12, h37⟩
      obtain ⟨hm, rk, hrk⟩ := hnew c hc hyes
      refine r_aload_n C dX5_enter_50 rfl rfl ?_
      refine r_get (f := 1) C dX5_enter_51 ⟨by decide, by decide⟩ rfl rfl kU5 (by decide) kf_X5_19 rfl rfl ?_
      refine r_iload_n C dX5_enter_54 rfl rfl ?_
      refine r_aload_n C dX5_enter_55 rfl rfl ?_
      refine r_get (f := 0) C dX5_enter_56 ⟨by decide, by decide⟩ rfl rfl kU5 (by decide) kf_X5_10 rfl rfl ?_
      refine r_callV C dX5_enter_59 (c_makeFormula σ τ c k rk hc hk hk2 hm hrk) rfl ⟨by decide, by decide⟩ rfl rfl kB_X3_makeFormula rfl kI_X3_makeFormula kV_X3_makeFormula kl_X5_84 (by decide) (Nat.le_of_ble_eq_true rfl) (by decide) ?_
      rintro r9 σ' τ' ⟨ord, ro, o2, rfl, rfl, rfl, q1, q2, q3, q4, q5⟩
      refine r_aload_n C dX5_enter_62 rfl rfl ?_
      refine r_get (f := 0) C dX5_enter_63 ⟨by decide, by decide⟩ rfl rfl kU5 (by decide) kf_X5_10 rfl rfl ?_
      refine r_callV C dX5_enter_66 (c_clear (upR (upR (fmS σ c k) 7 5 ord) 7 4 ro) τ 16 (by decide)) rfl ⟨by decide, by decide⟩ rfl rfl kB_X0_clear rfl kI_X0_clear kV_X0_clear kl_X5_73 (by decide) (Nat.le_of_ble_eq_true rfl) (by decide) ?_
      rintro r9 σ' τ' ⟨rfl, rfl, rfl⟩
      refine r_aload_n C dX5_enter_69 rfl rfl ?_
      refine r_iload_n C dX5_enter_70 rfl rfl ?_
      refine r_callV C dX5_enter_71 (c_followChange (clS (upR (upR (fmS σ c k) 7 5 ord) 7 4 ro)) τ c hc) rfl ⟨by decide, by decide⟩ rfl rfl kB_X5_followChange rfl kI_X5_followChange kV_X5_followChange kl_X5_88 (by decide) (Nat.le_of_ble_eq_true rfl) (by decide) ?_
      rintro r9 σ' τ' ⟨rfl, rfl, rfl⟩
      exact r_iret C dX5_enter_74 rfl (by decide) ⟨c, hc, rfl, hyes, ord, ro, o2, q1, q2, q3, q4, q5, rfl, rfl, rfl⟩
    · have h37 := b2i_n.mp c37
      have hno : ¬ (σ 1 16 4 = 1 ∧ bt (rotF (σ 7 4) (rsM (σ 2 16) (σ 3 16) k) 16) c = false) := fun q => by rw [q.2] at h37; cases h37
      obtain ⟨⟨t1, t2⟩, ⟨t3, t4⟩, t5, t6⟩ := kt_X5_48_52
      exact r_throw (is := 82) (text := "a cell would rest on itself") C trivial t1 t2 t3 t4 (by decide +kernel) t5 dX5_enter_40 dX5_enter_43 dX5_enter_44 dX5_enter_46 dX5_enter_49 (by decide) (Nat.le_of_ble_eq_true rfl) (by decide) t6 (⟨Or.inr ⟨rfl, c, hc, rfl, hno⟩, rfl, rfl⟩)
  · have hno : ¬ (σ 1 16 4 = 1 ∧ bt (rotF (σ 7 4) (rsM (σ 2 16) (σ 3 16) k) 16) c = false) := fun q => c12 q.1
    obtain ⟨⟨t1, t2⟩, ⟨t3, t4⟩, t5, t6⟩ := kt_X5_48_52
    exact r_throw (is := 76) (text := "the draft has not just one formula") C trivial t1 t2 t3 t4 (by decide +kernel) t5 dX5_enter_15 dX5_enter_18 dX5_enter_19 dX5_enter_21 dX5_enter_24 (by decide) (Nat.le_of_ble_eq_true rfl) (by decide) t6 (⟨Or.inr ⟨rfl, c, hc, rfl, hno⟩, rfl, rfl⟩)
theorem runQ_int {σ : gSig} {τ : gTau} {cell q seed R : Nat} {r : Option Value} {σ' : gSig} {τ' : gTau} (h : runQ σ τ cell q seed R r σ' τ') : ∃ x, r = some (.int x) := by
  rcases h with ⟨s4, t8, -, h, -⟩ | ⟨a, p, s4, t8, -, -, -, -, -, h, -⟩
  · exact ⟨_, h.symm⟩
  · exact ⟨_, h.symm⟩
theorem kfS_7 (σ : gSig) (cell : Nat) (b t inp : Int32) : kfS σ cell b t inp 7 = σ 7 := rfl
theorem runQ_7 {σ : gSig} {τ : gTau} {cell q seed R : Nat} {r : Option Value} {σ' : gSig} {τ' : gTau} (h : runQ σ τ cell q seed R r σ' τ') : σ' 7 = σ 7 := by
  rcases h with ⟨s4, t8, -, -, h, -⟩ | ⟨a, p, s4, t8, -, -, -, -, -, -, h, -⟩
  · rw [← h]
    funext c i
    simp [up3, tS, rwS, upF, upR]
  · rw [← h, kfS_7]
    exact tS_ne _ _ _ _ (by decide) (by decide) (by decide)
/-- how an attempt ends -/
def atQ (σ : gSig) (τ : gTau) (o : Nat → Nat) (c q sd R : Nat) : Option Value → gSig → gTau → Prop := fun r σ' τ' => ∃ σ1, runQ σ τ c q sd R r σ1 τ' ∧
  ((bt (σ 13 0 6) c = true ∧ r = some (.int (-1))) → ∃ g, kS σ1 g (unL (σ1 7 3) c (lcC σ o &&& (lcC σ1 o ^^^ (-1)))).length = σ' ∧ onL g (unL (σ1 7 3) c (lcC σ o &&& (lcC σ1 o ^^^ (-1))))) ∧
  (¬ (bt (σ 13 0 6) c = true ∧ r = some (.int (-1))) → σ1 = σ')
set_option maxRecDepth 100000 in
set_option maxHeartbeats 4000000 in
theorem c_attempt {l : Launch} {D : va_G} {ad : Nat → Nat → Nat} {aC : Nat → ClassId} (σ : gSig) (τ : gTau) (cl sd ro : Int32) (o : Nat → Nat) (hK : shK σ o) (hPL : ∀ c, c < 16 → ∃ q, plK σ c q) (hrg : rgK (inpC σ) (σ 7 0) (σ 7 1)) : CT l D ad aC yX5_attempt cX5_attempt 7 (some .int) 10 2 [.ref (ad 0 0), .int cl, .int sd, .int ro] σ τ (fun r σ' τ' => ∃ c sdn Rn q, c < 16 ∧ cl = nI c ∧ sd = nI sdn ∧ ro = nI Rn ∧ sdn < 7875 ∧ ((¬ sd < 0 ∧ sd < 7875) ∧ (1 ≤ ro ∧ ro ≤ 20)) ∧ plK σ c q ∧ atQ σ τ o c q sdn Rn r σ' τ') (fun E σ' τ' => ((E = xIOB ∧ ¬ isC cl) ∨ (E = xIAE ∧ ∃ c, c < 16 ∧ cl = nI c ∧ ¬ ((¬ sd < 0 ∧ sd < 7875) ∧ (1 ≤ ro ∧ ro ≤ 20)))) ∧ σ = σ' ∧ τ = τ') := by
  refine CT.of (own := RX5) (by decide +kernel) rfl (Nat.le_of_ble_eq_true rfl) (fun S C => ?_)
  refine r_iload_n C dX5_attempt_0 rfl rfl ?_
  refine r_callSX C trivial dX5_attempt_1 (c_needCell σ τ cl) rfl kB_X5_needCell rfl kS_X5_needCell kl_X5_59 (by decide) (Nat.le_of_ble_eq_true rfl) (by decide) ?_ ?_
  · rintro E σ' τ' ⟨rfl, rfl, rfl, hx⟩
    exact ⟨Or.inl ⟨rfl, hx⟩, rfl, rfl⟩
  rintro r9 σ' τ' ⟨⟨rfl, rfl, rfl⟩, hcell⟩
  obtain ⟨c, hc, rfl⟩ := isC_nI hcell
  refine r_iload_n C dX5_attempt_4 rfl rfl ?_
  refine r_iflt (tgt := 26) C dX5_attempt_5 (by decide) (fun c5 => ?_) (fun c5 => ?_)
  · have hno : ¬ ((¬ sd < 0 ∧ sd < 7875) ∧ (1 ≤ ro ∧ ro ≤ 20)) := fun q => q.1.1 c5
    obtain ⟨⟨t1, t2⟩, ⟨t3, t4⟩, t5, t6⟩ := kt_X5_63_67
    exact r_throw (is := 136) (text := "seed or rows is out of range") C trivial t1 t2 t3 t4 (by decide +kernel) t5 dX5_attempt_26 dX5_attempt_29 dX5_attempt_30 dX5_attempt_32 dX5_attempt_35 (by decide) (Nat.le_of_ble_eq_true rfl) (by decide) t6 (⟨Or.inr ⟨rfl, c, hc, rfl, hno⟩, rfl, rfl⟩)
  · refine r_iload_n C dX5_attempt_8 rfl rfl ?_
    refine r_sipush (v := 7875) C dX5_attempt_9 rfl ?_
    refine r_icmpge (tgt := 26) C dX5_attempt_12 (by decide) (fun c12 => ?_) (fun c12 => ?_)
    · have n12 := Int32.not_lt.mpr c12
      have hno : ¬ ((¬ sd < 0 ∧ sd < 7875) ∧ (1 ≤ ro ∧ ro ≤ 20)) := fun q => n12 q.1.2
      obtain ⟨⟨t1, t2⟩, ⟨t3, t4⟩, t5, t6⟩ := kt_X5_63_67
      exact r_throw (is := 136) (text := "seed or rows is out of range") C trivial t1 t2 t3 t4 (by decide +kernel) t5 dX5_attempt_26 dX5_attempt_29 dX5_attempt_30 dX5_attempt_32 dX5_attempt_35 (by decide) (Nat.le_of_ble_eq_true rfl) (by decide) t6 (⟨Or.inr ⟨rfl, c, hc, rfl, hno⟩, rfl, rfl⟩)
    · have n12 := Int32.not_le.mp c12
      refine r_iload_n C dX5_attempt_15 rfl rfl ?_
      refine r_iconst (v := 1) C dX5_attempt_16 rfl ?_
      refine r_icmplt (tgt := 26) C dX5_attempt_17 (by decide) (fun c17 => ?_) (fun c17 => ?_)
      · have n17 := Int32.not_le.mpr c17
        have hno : ¬ ((¬ sd < 0 ∧ sd < 7875) ∧ (1 ≤ ro ∧ ro ≤ 20)) := fun q => n17 q.2.1
        obtain ⟨⟨t1, t2⟩, ⟨t3, t4⟩, t5, t6⟩ := kt_X5_63_67
        exact r_throw (is := 136) (text := "seed or rows is out of range") C trivial t1 t2 t3 t4 (by decide +kernel) t5 dX5_attempt_26 dX5_attempt_29 dX5_attempt_30 dX5_attempt_32 dX5_attempt_35 (by decide) (Nat.le_of_ble_eq_true rfl) (by decide) t6 (⟨Or.inr ⟨rfl, c, hc, rfl, hno⟩, rfl, rfl⟩)
      · have n17 := Int32.not_lt.mp c17
        refine r_iload_n C dX5_attempt_20 rfl rfl ?_
        refine r_bipush (v := 20) C dX5_attempt_21 rfl ?_
        refine r_icmple (tgt := 36) C dX5_attempt_23 (by decide) (fun c23 => ?_) (fun c23 => ?_)
        · have n23 := Int32.not_lt.mpr c23
          have hyes : ((¬ sd < 0 ∧ sd < 7875) ∧ (1 ≤ ro ∧ ro ≤ 20)) := ⟨⟨c5, n12⟩, n17, c23⟩
          obtain ⟨sdn, hsd31, rfl⟩ := nI_of c5
          have hsd : sdn < 7875 := (nI_ltI hsd31 (by decide)).mp n12
          obtain ⟨Rn, hR31, rfl⟩ := nI_of (x := ro) (fun q => absurd (Int32.lt_of_lt_of_le q (Int32.le_trans (by decide : (0 : Int32) ≤ 1) n17)) (Int32.lt_irrefl))
          have hR : Rn ≤ 20 := (nI_leI hR31 (by decide)).mp c23
          obtain ⟨q, hq, hq4, hpl⟩ := hPL c hc
          refine r_aload_n C dX5_attempt_36 rfl rfl ?_
          refine r_get (f := 3) C dX5_attempt_37 ⟨by decide, by decide⟩ rfl rfl kU5 (by decide) kf_X5_33 rfl rfl ?_
          refine r_get (f := 6) C dX5_attempt_40 ⟨by decide, by decide⟩ rfl rfl kU4 (by decide) kf_X5_138 rfl rfl ?_
          refine r_iload_n C dX5_attempt_43 rfl rfl ?_
          refine r_callS C dX5_attempt_44 (c_has σ τ (σ 13 0 6) (nI c)) rfl kB_X5_has rfl kS_X5_has kl_X5_141 (by decide) (Nat.le_of_ble_eq_true rfl) (by decide) ?_
          rintro r9 σ' τ' ⟨rfl, rfl, rfl⟩
          rw [hasB_bt hc]
          refine r_istore C dX5_attempt_47 (by decide) rfl ?_
          refine r_aload_n C dX5_attempt_49 rfl rfl ?_
          refine r_callV C dX5_attempt_50 (c_lockedCells σ τ o hK.1) rfl ⟨by decide, by decide⟩ rfl rfl kB_X5_lockedCells rfl kI_X5_lockedCells kV_X5_lockedCells kl_X5_144 (by decide) (Nat.le_of_ble_eq_true rfl) (by decide) ?_
          rintro r9 σ' τ' ⟨rfl, rfl, rfl⟩
          refine r_istore C dX5_attempt_53 (by decide) rfl ?_
          refine r_aload_n C dX5_attempt_55 rfl rfl ?_
          refine r_get (f := 3) C dX5_attempt_56 ⟨by decide, by decide⟩ rfl rfl kU5 (by decide) kf_X5_33 rfl rfl ?_
          refine r_aload_n C dX5_attempt_59 rfl rfl ?_
          refine r_get (f := 1) C dX5_attempt_60 ⟨by decide, by decide⟩ rfl rfl kU5 (by decide) kf_X5_19 rfl rfl ?_
          refine r_aload_n C dX5_attempt_63 rfl rfl ?_
          refine r_get (f := 2) C dX5_attempt_64 ⟨by decide, by decide⟩ rfl rfl kU5 (by decide) kf_X5_25 rfl rfl ?_
          refine r_iload_n C dX5_attempt_67 rfl rfl ?_
          refine r_aaldv (t0 := 4) C dX5_attempt_68 ⟨by decide, by decide⟩ rfl rfl (vp_in_nI hc (by decide)) (nI_clamp (by omega)) ?_
          refine r_iload_n C dX5_attempt_69 rfl rfl ?_
          refine r_iload_n C dX5_attempt_70 rfl rfl ?_
          refine r_iload_n C dX5_attempt_71 rfl rfl ?_
          refine r_callV C dX5_attempt_72 (c_run σ τ c q sdn Rn o hc hK hq hq4 hpl hrg hsd hR) rfl ⟨by decide, by decide⟩ rfl rfl kB_X4_run rfl kI_X4_run kV_X4_run kl_X5_148 (by decide) (Nat.le_of_ble_eq_true rfl) (by decide) ?_
          intro r9 σ1 τ1 hrun
          obtain ⟨x, rfl⟩ := runQ_int hrun
          have h7 := runQ_7 hrun
          have hO1 : ordI (σ1 7 5) o 16 := by rw [h7]; exact hK.1
          refine r_istore C dX5_attempt_75 (by decide) rfl ?_
          refine r_iload C dX5_attempt_77 rfl ?_
          refine r_ifeq (tgt := 109) C dX5_attempt_79 (by decide) (fun c79 => ?_) (fun c79 => ?_)
          · have h79 := b2i_0.mp c79
            have hat : atQ σ τ o c q sdn Rn (some (.int x)) σ1 τ1 := ⟨σ1, hrun, fun z => (by rw [h79] at z; exact absurd z.1 (by decide)), fun _ => rfl⟩
            refine r_iload C dX5_attempt_109 rfl ?_
            exact r_iret C dX5_attempt_111 rfl (by decide) ⟨c, sdn, Rn, q, hc, rfl, rfl, rfl, hsd, hyes, ⟨hq, hq4, hpl⟩, hat⟩
          · have h79 := b2i_n.mp c79
            refine r_iload C dX5_attempt_82 rfl ?_
            refine r_iconst (v := (-1)) C dX5_attempt_84 rfl ?_
            refine r_icmpne (tgt := 109) C dX5_attempt_85 (by decide) (fun c85 => ?_) (fun c85 => ?_)
            · have hat : atQ σ τ o c q sdn Rn (some (.int x)) σ1 τ1 := ⟨σ1, hrun, fun z => absurd (Value.int.inj (Option.some.inj z.2)) c85, fun _ => rfl⟩
              refine r_iload C dX5_attempt_109 rfl ?_
              exact r_iret C dX5_attempt_111 rfl (by decide) ⟨c, sdn, Rn, q, hc, rfl, rfl, rfl, hsd, hyes, ⟨hq, hq4, hpl⟩, hat⟩
            · refine r_aload_n C dX5_attempt_88 rfl rfl ?_
              refine r_get (f := 4) C dX5_attempt_89 ⟨by decide, by decide⟩ rfl rfl kU5 (by decide) kf_X5_40 rfl rfl ?_
              refine r_aload_n C dX5_attempt_92 rfl rfl ?_
              refine r_get (f := 1) C dX5_attempt_93 ⟨by decide, by decide⟩ rfl rfl kU5 (by decide) kf_X5_19 rfl rfl ?_
              refine r_iload_n C dX5_attempt_96 rfl rfl ?_
              refine r_iload C dX5_attempt_97 rfl ?_
              refine r_aload_n C dX5_attempt_99 rfl rfl ?_
              refine r_callV C dX5_attempt_100 (c_lockedCells σ1 τ1 o hO1) rfl ⟨by decide, by decide⟩ rfl rfl kB_X5_lockedCells rfl kI_X5_lockedCells kV_X5_lockedCells kl_X5_144 (by decide) (Nat.le_of_ble_eq_true rfl) (by decide) ?_
              rintro r9 σ' τ' ⟨rfl, rfl, rfl⟩
              refine r_iconst (v := (-1)) C dX5_attempt_103 rfl ?_
              refine r_ixor C dX5_attempt_104 ?_
              refine r_iand C dX5_attempt_105 ?_
              refine r_callV C dX5_attempt_106 (c_keepUnlocked σ1 τ1 c (lcC σ o &&& (lcC σ1 o ^^^ (-1))) hc) rfl ⟨by decide, by decide⟩ rfl rfl kB_X1_keepUnlocked rfl kI_X1_keepUnlocked kV_X1_keepUnlocked kl_X5_152 (by decide) (Nat.le_of_ble_eq_true rfl) (by decide) ?_
              rintro r9 σ' τ' ⟨g, rfl, rfl, rfl, hg⟩
              have hat : atQ σ τ o c q sdn Rn (some (.int x)) (kS σ1 g (unL (σ1 7 3) c (lcC σ o &&& (lcC σ1 o ^^^ (-1)))).length) τ1 := ⟨σ1, hrun, fun _ => ⟨g, rfl, hg⟩, fun z => absurd ⟨h79, by rw [c85]⟩ z⟩
              refine r_iload C dX5_attempt_109 rfl ?_
              exact r_iret C dX5_attempt_111 rfl (by decide) ⟨c, sdn, Rn, q, hc, rfl, rfl, rfl, hsd, hyes, ⟨hq, hq4, hpl⟩, hat⟩
        · have n23 := Int32.not_le.mp c23
          have hno : ¬ ((¬ sd < 0 ∧ sd < 7875) ∧ (1 ≤ ro ∧ ro ≤ 20)) := fun q => c23 q.2.2
          obtain ⟨⟨t1, t2⟩, ⟨t3, t4⟩, t5, t6⟩ := kt_X5_63_67
          exact r_throw (is := 136) (text := "seed or rows is out of range") C trivial t1 t2 t3 t4 (by decide +kernel) t5 dX5_attempt_26 dX5_attempt_29 dX5_attempt_30 dX5_attempt_32 dX5_attempt_35 (by decide) (Nat.le_of_ble_eq_true rfl) (by decide) t6 (⟨Or.inr ⟨rfl, c, hc, rfl, hno⟩, rfl, rfl⟩)
end
