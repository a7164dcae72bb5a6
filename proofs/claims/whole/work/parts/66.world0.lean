/-! ===== the world at the start: printed by g66.py ===== -/
def adW (h dr da db dc sh q a0 a1 a2 a3 a4 a5 a6 tq tr ta tb tc te tx dk ka kb kc : Nat) (g p : Nat → Nat → Nat) (r : Nat → Nat) (h2 m0 m1 m2 m3 m4 m5 m6 m7 m8 m9 m10 m11 m12 m13 m14 m15 m16 m17 m18 m19 m20 m21 m22 m23 m24 o : Nat) : Nat → Nat → Nat := fun f c => match f with
  | 0 => h
  | 1 => if c = 16 then dr else g 1 c
  | 2 => if c = 16 then da else g 2 c
  | 3 => if c = 16 then db else g 3 c
  | 4 => if c = 16 then dc else g 4 c
  | 5 => sh
  | 6 => q
  | 7 => [a0, a1, a2, a3, a4, a5].getD c 0
  | 8 => a6
  | 9 => tq
  | 10 => p 10 c
  | 11 => p 11 c
  | 12 => p 12 c
  | 13 => tr
  | 14 => [ta, tb, tc, te].getD c 0
  | 15 => tx
  | 16 => r c
  | 17 => dk
  | 18 => [ka, kb, kc].getD c 0
  | 19 => h2
  | 20 => [m0, m1, m2, m3, m4, m5, m6, m7, m8, m9, m10, m11, m12, m13, m14, m15, m16, m17, m18, m19, m20, m21, m22, m23, m24].getD c 0
  | _ => o
def sg0 : gSig := fun f c i => match f with
  | 5 => 65535
  | 7 => (match c with
    | 5 => nI i
    | _ => 0)
  | 18 => (match c with
    | 1 => -1
    | _ => 0)
  | 20 => (match c with
    | 15 => -1
    | 17 => -1
    | 19 => nI i
    | _ => 0)
  | _ => 0
def ta0 : gTau := fun _ _ => 0
/-- the places of the world in the order in which it is made -/
def gpI : List (Nat × Nat) := ([(0, 0), (1, 16), (2, 16), (3, 16), (4, 16), (5, 0), (6, 0), (7, 0), (7, 1), (7, 2), (7, 3), (7, 4), (7, 5), (8, 0), (9, 0)] ++ (List.range 16).flatMap (fun c => [(1, c), (2, c), (3, c), (4, c)]) ++ (List.range 16).flatMap (fun c => [(10, c), (11, c), (12, c)]) ++ ([(13, 0), (14, 0), (14, 1), (14, 2), (14, 3), (15, 0)] ++ (List.range 16).map (fun i => (16, i))) ++ [(17, 0), (18, 0), (18, 1), (18, 2)]) ++ ((19, 0) :: (List.range 25).map (fun i => (20, i))) ++ [(21, 0)]
theorem gpI_all : ∀ x, x ∈ gix → x ∈ gpI := by
  have h : gix.all (fun x => gpI.contains x) = true := by decide +kernel
  intro x hx
  exact List.contains_iff_mem.mp (List.all_eq_true.mp h x hx)
abbrev wsAll (aC : Nat → ClassId) (h dr da db dc sh q a0 a1 a2 a3 a4 a5 a6 tq tr ta tb tc te tx dk ka kb kc : Nat) (g p : Nat → Nat → Nat) (r : Nat → Nat) (h2 m0 m1 m2 m3 m4 m5 m6 m7 m8 m9 m10 m11 m12 m13 m14 m15 m16 m17 m18 m19 m20 m21 m22 m23 m24 o : Nat) : va_W := gpW aC h dr da db dc sh q a0 a1 a2 a3 a4 a5 a6 tq tr ta tb tc te tx dk ka kb kc g p r ++ mdW aC h2 m0 m1 m2 m3 m4 m5 m6 m7 m8 m9 m10 m11 m12 m13 m14 m15 m16 m17 m18 m19 m20 m21 m22 m23 m24 ++ [(o, .inl (aC 1, 1, .inr (.inl (fun _ => 0))))]
set_option maxRecDepth 1000000 in
set_option maxHeartbeats 4000000 in
theorem ws_eq (aC : Nat → ClassId) (h dr da db dc sh q a0 a1 a2 a3 a4 a5 a6 tq tr ta tb tc te tx dk ka kb kc : Nat) (g p : Nat → Nat → Nat) (r : Nat → Nat) (h2 m0 m1 m2 m3 m4 m5 m6 m7 m8 m9 m10 m11 m12 m13 m14 m15 m16 m17 m18 m19 m20 m21 m22 m23 m24 o : Nat) : (wsAll aC h dr da db dc sh q a0 a1 a2 a3 a4 a5 a6 tq tr ta tb tc te tx dk ka kb kc g p r h2 m0 m1 m2 m3 m4 m5 m6 m7 m8 m9 m10 m11 m12 m13 m14 m15 m16 m17 m18 m19 m20 m21 m22 m23 m24 o).set 6 (q, cel (adW h dr da db dc sh q a0 a1 a2 a3 a4 a5 a6 tq tr ta tb tc te tx dk ka kb kc g p r h2 m0 m1 m2 m3 m4 m5 m6 m7 m8 m9 m10 m11 m12 m13 m14 m15 m16 m17 m18 m19 m20 m21 m22 m23 m24 o) aC sg0 ta0 6 0) = gpI.map (fun x => (adW h dr da db dc sh q a0 a1 a2 a3 a4 a5 a6 tq tr ta tb tc te tx dk ka kb kc g p r h2 m0 m1 m2 m3 m4 m5 m6 m7 m8 m9 m10 m11 m12 m13 m14 m15 m16 m17 m18 m19 m20 m21 m22 m23 m24 o x.1 x.2, cel (adW h dr da db dc sh q a0 a1 a2 a3 a4 a5 a6 tq tr ta tb tc te tx dk ka kb kc g p r h2 m0 m1 m2 m3 m4 m5 m6 m7 m8 m9 m10 m11 m12 m13 m14 m15 m16 m17 m18 m19 m20 m21 m22 m23 m24 o) aC sg0 ta0 x.1 x.2)) := rfl
theorem ws_6 (aC : Nat → ClassId) (h dr da db dc sh q a0 a1 a2 a3 a4 a5 a6 tq tr ta tb tc te tx dk ka kb kc : Nat) (g p : Nat → Nat → Nat) (r : Nat → Nat) (h2 m0 m1 m2 m3 m4 m5 m6 m7 m8 m9 m10 m11 m12 m13 m14 m15 m16 m17 m18 m19 m20 m21 m22 m23 m24 o : Nat) : (wsAll aC h dr da db dc sh q a0 a1 a2 a3 a4 a5 a6 tq tr ta tb tc te tx dk ka kb kc g p r h2 m0 m1 m2 m3 m4 m5 m6 m7 m8 m9 m10 m11 m12 m13 m14 m15 m16 m17 m18 m19 m20 m21 m22 m23 m24 o)[6]? = some (q, .inl (aC 3, 16, .inr (.inr (.inr (.inr (fun j => some (g 1 j))))))) := rfl
/-- the world made is the world -/
theorem ws_all {D : va_G} {A : Nat → Prop} {H : Heap} (aC : Nat → ClassId) (h dr da db dc sh q a0 a1 a2 a3 a4 a5 a6 tq tr ta tb tc te tx dk ka kb kc : Nat) (g p : Nat → Nat → Nat) (r : Nat → Nat) (h2 m0 m1 m2 m3 m4 m5 m6 m7 m8 m9 m10 m11 m12 m13 m14 m15 m16 m17 m18 m19 m20 m21 m22 m23 m24 o : Nat) (hP : va_P D gcl (wsAll aC h dr da db dc sh q a0 a1 a2 a3 a4 a5 a6 tq tr ta tb tc te tx dk ka kb kc g p r h2 m0 m1 m2 m3 m4 m5 m6 m7 m8 m9 m10 m11 m12 m13 m14 m15 m16 m17 m18 m19 m20 m21 m22 m23 m24 o) H) (hD : va_D A (wsAll aC h dr da db dc sh q a0 a1 a2 a3 a4 a5 a6 tq tr ta tb tc te tx dk ka kb kc g p r h2 m0 m1 m2 m3 m4 m5 m6 m7 m8 m9 m10 m11 m12 m13 m14 m15 m16 m17 m18 m19 m20 m21 m22 m23 m24 o)) : va_P D gcl (Wd (adW h dr da db dc sh q a0 a1 a2 a3 a4 a5 a6 tq tr ta tb tc te tx dk ka kb kc g p r h2 m0 m1 m2 m3 m4 m5 m6 m7 m8 m9 m10 m11 m12 m13 m14 m15 m16 m17 m18 m19 m20 m21 m22 m23 m24 o) aC sg0 ta0) H ∧ gInj (adW h dr da db dc sh q a0 a1 a2 a3 a4 a5 a6 tq tr ta tb tc te tx dk ka kb kc g p r h2 m0 m1 m2 m3 m4 m5 m6 m7 m8 m9 m10 m11 m12 m13 m14 m15 m16 m17 m18 m19 m20 m21 m22 m23 m24 o) ∧ ∀ x ∈ gix, A (adW h dr da db dc sh q a0 a1 a2 a3 a4 a5 a6 tq tr ta tb tc te tx dk ka kb kc g p r h2 m0 m1 m2 m3 m4 m5 m6 m7 m8 m9 m10 m11 m12 m13 m14 m15 m16 m17 m18 m19 m20 m21 m22 m23 m24 o x.1 x.2) := by
  have h6 := ws_6 aC h dr da db dc sh q a0 a1 a2 a3 a4 a5 a6 tq tr ta tb tc te tx dk ka kb kc g p r h2 m0 m1 m2 m3 m4 m5 m6 m7 m8 m9 m10 m11 m12 m13 m14 m15 m16 m17 m18 m19 m20 m21 m22 m23 m24 o
  have hP2 : va_P D gcl ((wsAll aC h dr da db dc sh q a0 a1 a2 a3 a4 a5 a6 tq tr ta tb tc te tx dk ka kb kc g p r h2 m0 m1 m2 m3 m4 m5 m6 m7 m8 m9 m10 m11 m12 m13 m14 m15 m16 m17 m18 m19 m20 m21 m22 m23 m24 o).set 6 (q, cel (adW h dr da db dc sh q a0 a1 a2 a3 a4 a5 a6 tq tr ta tb tc te tx dk ka kb kc g p r h2 m0 m1 m2 m3 m4 m5 m6 m7 m8 m9 m10 m11 m12 m13 m14 m15 m16 m17 m18 m19 m20 m21 m22 m23 m24 o) aC sg0 ta0 6 0)) H := by
    refine va_P.set (H := H) hP hD h6 ?_ (fun _ _ => rfl)
    have h1 := hP 6 _ h6
    show H[q]? = some (vp_cell (aC 3) (16, .inr (.inr (.inr (.inr (fun i => some (adW h dr da db dc sh q a0 a1 a2 a3 a4 a5 a6 tq tr ta tb tc te tx dk ka kb kc g p r h2 m0 m1 m2 m3 m4 m5 m6 m7 m8 m9 m10 m11 m12 m13 m14 m15 m16 m17 m18 m19 m20 m21 m22 m23 m24 o 1 i)))))))
    rw [← cv_q (aC 3) 16 (f := fun j => some (g 1 j)) (fun j hj => ?_)]
    · exact h1
    · show some (g 1 j) = some (if j = 16 then dr else g 1 j)
      rw [if_neg (by omega)]
  have hD2 := va_D.set hD h6 (e := cel (adW h dr da db dc sh q a0 a1 a2 a3 a4 a5 a6 tq tr ta tb tc te tx dk ka kb kc g p r h2 m0 m1 m2 m3 m4 m5 m6 m7 m8 m9 m10 m11 m12 m13 m14 m15 m16 m17 m18 m19 m20 m21 m22 m23 m24 o) aC sg0 ta0 6 0)
  rw [ws_eq] at hP2 hD2
  have hat : ∀ x, x ∈ gix → ∃ i, (gpI.map (fun x => (adW h dr da db dc sh q a0 a1 a2 a3 a4 a5 a6 tq tr ta tb tc te tx dk ka kb kc g p r h2 m0 m1 m2 m3 m4 m5 m6 m7 m8 m9 m10 m11 m12 m13 m14 m15 m16 m17 m18 m19 m20 m21 m22 m23 m24 o x.1 x.2, cel (adW h dr da db dc sh q a0 a1 a2 a3 a4 a5 a6 tq tr ta tb tc te tx dk ka kb kc g p r h2 m0 m1 m2 m3 m4 m5 m6 m7 m8 m9 m10 m11 m12 m13 m14 m15 m16 m17 m18 m19 m20 m21 m22 m23 m24 o) aC sg0 ta0 x.1 x.2)))[i]? = some (adW h dr da db dc sh q a0 a1 a2 a3 a4 a5 a6 tq tr ta tb tc te tx dk ka kb kc g p r h2 m0 m1 m2 m3 m4 m5 m6 m7 m8 m9 m10 m11 m12 m13 m14 m15 m16 m17 m18 m19 m20 m21 m22 m23 m24 o x.1 x.2, cel (adW h dr da db dc sh q a0 a1 a2 a3 a4 a5 a6 tq tr ta tb tc te tx dk ka kb kc g p r h2 m0 m1 m2 m3 m4 m5 m6 m7 m8 m9 m10 m11 m12 m13 m14 m15 m16 m17 m18 m19 m20 m21 m22 m23 m24 o) aC sg0 ta0 x.1 x.2) ∧ gpI[i]? = some x := fun x hx => by
    obtain ⟨i, hi⟩ := List.getElem?_of_mem (gpI_all x hx)
    exact ⟨i, by rw [List.getElem?_map, hi]; rfl, hi⟩
  refine ⟨fun k z hz => ?_, fun x hx y hy e => ?_, fun x hx => ?_⟩
  · obtain ⟨x, hx, rfl⟩ := List.mem_map.mp (List.mem_of_getElem? hz)
    obtain ⟨i, hi, -⟩ := hat x hx
    exact hP2 i _ hi
  · obtain ⟨i, hi, hi2⟩ := hat x hx
    obtain ⟨j, hj, hj2⟩ := hat y hy
    have := hD2.1 i j _ _ hi hj e
    subst this
    exact Option.some.inj (hi2.symm.trans hj2)
  · obtain ⟨i, hi, -⟩ := hat x hx
    exact hD2.2 i _ hi
