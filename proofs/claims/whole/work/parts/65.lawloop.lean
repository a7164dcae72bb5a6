/-! ===== the law: its loop: printed by g65.py ===== -/
theorem low5 (x : Int32) : ∃ k, k < 32 ∧ x &&& 31 = nI k := by
  refine ⟨(x &&& 31).toBitVec.toNat, ?_, ?_⟩
  · rw [Int32.toBitVec_and, BitVec.toNat_and]
    exact Nat.lt_of_le_of_lt Nat.and_le_right (by decide)
  · apply Int32.toBitVec_inj.mp
    show _ = BitVec.ofNat 32 _
    rw [BitVec.ofNat_toNat, BitVec.setWidth_eq]
theorem end4 {Ls i : Nat} (hL : Ls ≤ 2048) (hi : i ≤ 2052) : ¬ nI Ls - 4 < nI i → i + 4 ≤ Ls := by
  intro h
  rcases Nat.lt_or_ge Ls 4 with q | q
  · exfalso
    apply h
    rw [fa_lt, nI_toInt (by omega)]
    have e : Ls = 0 ∨ Ls = 1 ∨ Ls = 2 ∨ Ls = 3 := by omega
    have : (nI Ls - 4).toInt < 0 := by
      rcases e with rfl | rfl | rfl | rfl <;> decide
    omega
  · have e : nI Ls - 4 = nI (Ls - 4) := nI_subN (b := 4) q
    rw [e] at h
    have := (nI_leI (a := i) (b := Ls - 4) (by omega) (by omega)).mp (Int32.not_lt.mp h)
    omega
set_option maxRecDepth 100000 in
set_option maxHeartbeats 4000000 in
theorem l_loop {l : Launch} {D : va_G} {ad : Nat → Nat → Nat} {aC : Nat → ClassId} {b Ls : Nat} {xs : Nat → Int32} {S : gS} (C : LX l D ad aC b Ls xs S) (hL : Ls ≤ 2048) : ∀ (m i n : Nat) (σ : gSig) (τ : gTau), Ls - i < m → i ≤ 2052 → n + 3 * (2052 - i) ≤ 9000 → Rel σ → S n σ τ 23 (lawL ad b i) [] := by
  intro m
  induction m with
  | zero => intro i n σ τ h; omega
  | succ m ih =>
    intro i n σ τ hm hi hn hR
    have c0 := C.cx
    refine r_iload c0 dL_law_23 rfl ?_
    refine r_aload_n c0 dL_law_25 rfl rfl ?_
    refine r_slen C dL_law_26 ?_
    refine r_iconst (v := 4) c0 dL_law_27 rfl ?_
    refine r_isub c0 dL_law_28 ?_
    refine r_icmpgt (tgt := 1676) c0 dL_law_29 (by decide) (fun _ => ?_) (fun q9 => ?_)
    · refine r_iconst (v := 1) c0 dL_law_1676 rfl ?_
      exact r_zret c0 dL_law_1677 rfl (by omega) (by decide) rfl
    have hi4 := end4 hL hi q9
    refine r_aload_n c0 dL_law_32 rfl rfl ?_
    refine r_iload c0 dL_law_33 rfl ?_
    refine r_sld0 C (by omega) (by omega) dL_law_35 ?_
    refine r_bipush (v := 31) c0 dL_law_36 rfl ?_
    refine r_iand c0 dL_law_38 ?_
    have hend : ∀ (n' : Nat) (σ' : gSig) (τ' : gTau), n' ≤ n + 3 → Rel σ' → S n' σ' τ' 1670 (lawL ad b i) [] := fun n' σ' τ' hn' hR' => by
      refine r_iinc (v := nI (i + 4)) c0 dL_law_1670 rfl (nI_add i 4) (by decide) rfl ?_
      refine r_goto (tgt := 23) c0 dL_law_1673 (by decide) ?_
      exact r_swk (ih (i + 4) n' σ' τ' (by omega) (by omega) (by omega) hR') rfl rfl rfl rfl
    obtain ⟨k, hk, ek⟩ := low5 (xs i)
    rw [ek]
    have hc : k = 0 ∨ k = 1 ∨ k = 2 ∨ k = 3 ∨ k = 4 ∨ k = 5 ∨ k = 6 ∨ k = 7 ∨ k = 8 ∨ k = 9 ∨ k = 10 ∨ k = 11 ∨ k = 12 ∨ k = 13 ∨ k = 14 ∨ k = 15 ∨ k = 16 ∨ k = 17 ∨ k = 18 ∨ k = 19 ∨ k = 20 ∨ k = 21 ∨ k = 22 ∨ k = 23 ∨ k = 24 ∨ k = 25 ∨ k = 26 ∨ k = 27 ∨ 28 ≤ k := by omega
    rcases hc with rfl | rfl | rfl | rfl | rfl | rfl | rfl | rfl | rfl | rfl | rfl | rfl | rfl | rfl | rfl | rfl | rfl | rfl | rfl | rfl | rfl | rfl | rfl | rfl | rfl | rfl | rfl | rfl | hc
    · exact r_swIn (off := 125) (tgt := 164) c0 dL_law_39 (by decide) (by decide) rfl (by decide) (l_number C hR hi4 hL (by omega) hend)
    · exact r_swIn (off := 181) (tgt := 220) c0 dL_law_39 (by decide) (by decide) rfl (by decide) (l_cell C hR hi4 hL (by omega) hend)
    · exact r_swIn (off := 237) (tgt := 276) c0 dL_law_39 (by decide) (by decide) rfl (by decide) (l_apply C hR hi4 hL (by omega) hend)
    · exact r_swIn (off := 293) (tgt := 332) c0 dL_law_39 (by decide) (by decide) rfl (by decide) (l_wipe C hR hi4 hL (by omega) hend)
    · exact r_swIn (off := 306) (tgt := 345) c0 dL_law_39 (by decide) (by decide) rfl (by decide) (l_enter C hR hi4 hL (by omega) hend)
    · exact r_swIn (off := 362) (tgt := 401) c0 dL_law_39 (by decide) (by decide) rfl (by decide) (l_input C hR hi4 hL (by omega) hend)
    · exact r_swIn (off := 442) (tgt := 481) c0 dL_law_39 (by decide) (by decide) rfl (by decide) (l_set C hR hi4 hL (by omega) hend)
    · exact r_swIn (off := 510) (tgt := 549) c0 dL_law_39 (by decide) (by decide) rfl (by decide) (l_tell C hR hi4 hL (by omega) hend)
    · exact r_swIn (off := 590) (tgt := 629) c0 dL_law_39 (by decide) (by decide) rfl (by decide) (l_drop C hR hi4 hL (by omega) hend)
    · exact r_swIn (off := 646) (tgt := 685) c0 dL_law_39 (by decide) (by decide) rfl (by decide) (l_own C hR hi4 hL (by omega) hend)
    · exact r_swIn (off := 714) (tgt := 753) c0 dL_law_39 (by decide) (by decide) rfl (by decide) (l_attempt C hR hi4 hL (by omega) hend)
    · exact r_swIn (off := 794) (tgt := 833) c0 dL_law_39 (by decide) (by decide) rfl (by decide) (l_waive C hR hi4 hL (by omega) hend)
    · exact r_swIn (off := 874) (tgt := 913) c0 dL_law_39 (by decide) (by decide) rfl (by decide) (l_pass C hR hi4 hL (by omega) hend)
    · exact r_swIn (off := 930) (tgt := 969) c0 dL_law_39 (by decide) (by decide) rfl (by decide) (l_drafted C hR hi4 hL (by omega) hend)
    · exact r_swIn (off := 943) (tgt := 982) c0 dL_law_39 (by decide) (by decide) rfl (by decide) (l_today C hR hi4 hL (by omega) hend)
    · exact r_swIn (off := 956) (tgt := 995) c0 dL_law_39 (by decide) (by decide) rfl (by decide) (l_reads C hR hi4 hL (by omega) hend)
    · exact r_swIn (off := 1012) (tgt := 1051) c0 dL_law_39 (by decide) (by decide) rfl (by decide) (l_rests C hR hi4 hL (by omega) hend)
    · exact r_swIn (off := 1068) (tgt := 1107) c0 dL_law_39 (by decide) (by decide) rfl (by decide) (l_show C hR hi4 hL (by omega) hend)
    · exact r_swIn (off := 1124) (tgt := 1163) c0 dL_law_39 (by decide) (by decide) rfl (by decide) (l_verdict C hR hi4 hL (by omega) hend)
    · exact r_swIn (off := 1180) (tgt := 1219) c0 dL_law_39 (by decide) (by decide) rfl (by decide) (l_failing C hR hi4 hL (by omega) hend)
    · exact r_swIn (off := 1236) (tgt := 1275) c0 dL_law_39 (by decide) (by decide) rfl (by decide) (l_example C hR hi4 hL (by omega) hend)
    · exact r_swIn (off := 1304) (tgt := 1343) c0 dL_law_39 (by decide) (by decide) rfl (by decide) (l_smaller C hR hi4 hL (by omega) hend)
    · exact r_swIn (off := 1360) (tgt := 1399) c0 dL_law_39 (by decide) (by decide) rfl (by decide) (l_isLocked C hR hi4 hL (by omega) hend)
    · exact r_swIn (off := 1423) (tgt := 1462) c0 dL_law_39 (by decide) (by decide) rfl (by decide) (l_isLockedByWays C hR hi4 hL (by omega) hend)
    · exact r_swIn (off := 1486) (tgt := 1525) c0 dL_law_39 (by decide) (by decide) rfl (by decide) (l_isMarked C hR hi4 hL (by omega) hend)
    · exact r_swIn (off := 1549) (tgt := 1588) c0 dL_law_39 (by decide) (by decide) rfl (by decide) (l_locked C hR hi4 hL (by omega) hend)
    · exact r_swIn (off := 1562) (tgt := 1601) c0 dL_law_39 (by decide) (by decide) rfl (by decide) (l_unlocked C hR hi4 hL (by omega) hend)
    · exact r_swIn (off := 1575) (tgt := 1614) c0 dL_law_39 (by decide) (by decide) rfl (by decide) (l_unlockedAt C hR hi4 hL (by omega) hend)
    · refine r_swOut (tgt := 1670) c0 dL_law_39 (Or.inr ?_) (by decide) (hend n σ τ (by omega) hR)
      rw [nI_toInt (by omega)]
      omega
