/-! ===== laying the order anew ===== -/
def arK (rd : Nat → Int32) (k : Nat) (P : Int32) (ord ro : Nat → Int32) (o : Nat → Nat) : Prop :=
  k ≤ 16 ∧ m16 P ∧ (∀ c, c < 16 → (bt P c = true ↔ ∃ i, i < k ∧ o i = c)) ∧ ordI ord o k ∧ ordJ o k ∧ ordT rd o k ∧ ∀ c, c < 16 → bt P c = true → rsE rd ro c
theorem sub_mask {x P : Int32} (h : x &&& (P ^^^ (-1)) = 0) {d : Nat} (hd : d < 16) (hx : bt x d = true) : bt P d = true := by
  have h1 := b_and x (P ^^^ (-1)) d
  rw [h, b_0, hx, Bool.true_and, bt_not P (by omega)] at h1
  cases hp : bt P d with
  | true => rfl
  | false => rw [hp] at h1; cases h1
theorem nsub_mask {x P : Int32} (hx : m16 x) (h : ¬ x &&& (P ^^^ (-1)) = 0) : ∃ d, d < 16 ∧ bt x d = true ∧ bt P d = false := by
  obtain ⟨i, hi, h2⟩ := mask_ne0 h
  rw [b_and, Bool.and_eq_true, bt_not P hi] at h2
  refine ⟨i, ?_, h2.1, by simpa using h2.2⟩
  rcases Nat.lt_or_ge i 16 with q | q
  · exact q
  · rw [hx i q] at h2; exact absurd h2.1 (by decide)
theorem arK_push {rd : Nat → Int32} {k : Nat} {P : Int32} {ord ro : Nat → Int32} {o : Nat → Nat} (hA : arK rd k P ord ro o) (hk : k < 16) {c : Nat} (hc : c < 16) (h1 : bt P c = false) (h2 : rd c &&& (P ^^^ (-1)) = 0) (hm : m16 (rd c)) :
    arK rd (k + 1) (P ||| b1 c) (upd ord k (nI c)) (upd ro c (rotF ro (rd c) 16)) (fun i => if i = k then c else o i) := by
  obtain ⟨a1, a2, a3, a4, a5, a6, a7⟩ := hA
  have hPo : ∀ i, i < k → bt P (o i) = true := fun i hi => (a3 _ (a4 i hi).2).mpr ⟨i, hi, rfl⟩
  refine ⟨by omega, m16_or a2 (m16_b1 hc), fun d hd => ?_, fun i hi => ?_, fun i j hi hj e => ?_, fun i hi d hd hr => ?_, fun d hd hp => ?_⟩
  · rw [b_or, Bool.or_eq_true, a3 d hd, bt_b1 (by omega)]
    constructor
    · rintro (⟨i, hi, e⟩ | h)
      · exact ⟨i, by omega, by dsimp only; rw [if_neg (by omega)]; exact e⟩
      · exact ⟨k, by omega, by dsimp only; rw [if_pos rfl]; exact (of_decide_eq_true h).symm⟩
    · rintro ⟨i, hi, e⟩
      dsimp only at e
      by_cases q : i = k
      · rw [if_pos q] at e
        exact Or.inr (decide_eq_true e.symm)
      · rw [if_neg q] at e
        exact Or.inl ⟨i, by omega, e⟩
  · unfold upd
    dsimp only
    by_cases q : i = k
    · rw [if_pos q, if_pos q]; exact ⟨rfl, hc⟩
    · rw [if_neg q, if_neg q]; exact a4 i (by omega)
  · have hne : ∀ z, z < k → o z ≠ c := fun z hz q => by
      have := hPo z hz
      rw [q, h1] at this
      cases this
    dsimp only at e
    by_cases q : i = k
    · by_cases q2 : j = k
      · omega
      · rw [if_pos q, if_neg q2] at e
        exact absurd e.symm (hne j (by omega))
    · by_cases q2 : j = k
      · rw [if_neg q, if_pos q2] at e
        exact absurd e (hne i (by omega))
      · rw [if_neg q, if_neg q2] at e
        exact a5 i j (by omega) (by omega) e
  · dsimp only at hr
    by_cases q : i = k
    · rw [if_pos q] at hr
      obtain ⟨j, hj, e⟩ := (a3 d hd).mp (sub_mask h2 hd hr)
      exact ⟨j, by omega, by dsimp only; rw [if_neg (by omega)]; exact e⟩
    · rw [if_neg q] at hr
      obtain ⟨j, hj, e⟩ := a6 i (by omega) d hd hr
      exact ⟨j, hj, by dsimp only; rw [if_neg (by omega)]; exact e⟩
  · have hro : ∀ e, bt P e = true → (upd ro c (rotF ro (rd c) 16)) e = ro e := fun e he => by
      unfold upd
      rw [if_neg]
      intro q
      rw [q, h1] at he
      cases he
    by_cases q : d = c
    · subst q
      have hself : (upd ro d (rotF ro (rd d) 16)) d = rotF ro (rd d) 16 := by unfold upd; rw [if_pos rfl]
      refine ⟨?_, fun x => ?_⟩
      · rw [hself]
        intro x hx
        rw [rotF_bt, hm x hx, Bool.false_or]
        rcases hq : anyB _ 16 with _ | _
        · rfl
        · obtain ⟨e, he, h3⟩ := anyB_true.mp hq
          rw [Bool.and_eq_true] at h3
          rw [(a7 e he (sub_mask h2 he h3.1)).1 x hx] at h3
          exact absurd h3.2 (by decide)
      · rw [hself, rotF_bt]
        congr 1
        apply anyB_congr
        intro e he
        cases hr : bt (rd d) e with
        | false => rfl
        | true => rw [hro e (sub_mask h2 he hr)]
    · have hpd : bt P d = true := by
        rw [b_or, bt_b1 (by omega), decide_eq_false q, Bool.or_false] at hp
        exact hp
      obtain ⟨g1, g2⟩ := a7 d hd hpd
      refine ⟨by rw [hro d hpd]; exact g1, fun x => ?_⟩
      rw [hro d hpd, g2 x]
      congr 1
      apply anyB_congr
      intro e he
      cases hr : bt (rd d) e with
      | false => rfl
      | true =>
        obtain ⟨i, hi, rfl⟩ := (a3 d hd).mp hpd
        obtain ⟨j, hj, rfl⟩ := a6 i hi e he hr
        rw [hro _ (hPo j (by omega))]
/-- while not all are laid, one can be -/
theorem ar_next {rd : Nat → Int32} {P : Int32} {rk : Nat → Nat} (hm : ∀ c, c < 16 → m16 (rd c)) (hrk : ∀ c d, c < 16 → d < 16 → bt (rd c) d = true → rk d < rk c) : ∀ n c, c < 16 → rk c < n → bt P c = false → ∃ c, c < 16 ∧ bt P c = false ∧ rd c &&& (P ^^^ (-1)) = 0 := by
  intro n
  induction n with
  | zero => intro c _ h; omega
  | succ n ih =>
    intro c hc hn hp
    by_cases h : rd c &&& (P ^^^ (-1)) = 0
    · exact ⟨c, hc, hp, h⟩
    · obtain ⟨d, hd, h1, h2⟩ := nsub_mask (hm c hc) h
      exact ih d hd (by have := hrk c d hc hd h1; omega) h2
theorem arK_open {rd : Nat → Int32} {k : Nat} {P : Int32} {ord ro : Nat → Int32} {o : Nat → Nat} (hA : arK rd k P ord ro o) (hk : k < 16) : ∃ c, c < 16 ∧ bt P c = false := by
  rcases Classical.em (∃ c, c < 16 ∧ bt P c = false) with q | q
  · exact q
  · exfalso
    have hall : ∀ c, c < 16 → ∃ i, i < k ∧ o i = c := fun c hc => (hA.2.2.1 c hc).mp (by
      cases hb : bt P c with
      | true => rfl
      | false => exact absurd ⟨c, hc, hb⟩ q)
    have hx : ∀ c, ∃ i, c < 16 → i < k ∧ o i = c := fun c => by
      by_cases h : c < 16
      · obtain ⟨i, hi⟩ := hall c h
        exact ⟨i, fun _ => hi⟩
      · exact ⟨0, fun z => absurd z h⟩
    have := fb_holes k 16 (fun c => Classical.choose (hx c)) (fun c hc => (Classical.choose_spec (hx c) hc).1) (fun a b hab hb e => by
      have e1 := (Classical.choose_spec (hx a) (by omega)).2
      have e2 := (Classical.choose_spec (hx b) hb).2
      have e3 : Classical.choose (hx a) = Classical.choose (hx b) := e
      rw [e3, e2] at e1
      omega)
    omega
theorem arK_end {rd : Nat → Int32} {P : Int32} {ord ro : Nat → Int32} {o : Nat → Nat} (hA : arK rd 16 P ord ro o) : ordI ord o 16 ∧ ordT rd o 16 ∧ ordJ o 16 ∧ ordS o ∧ ∀ c, c < 16 → rsE rd ro c := by
  obtain ⟨a1, a2, a3, a4, a5, a6, a7⟩ := hA
  have hS : ordS o := fun c hc => by
    obtain ⟨i, hi, e⟩ := fb_onto (n := 16) (f := o) (fun i hi => (a4 i hi).2) (fun i j hij hj e => by have := a5 i j (by omega) hj e; omega) hc
    exact ⟨i, hi, e⟩
  exact ⟨a4, a6, a5, hS, fun c hc => a7 c hc ((a3 c hc).mpr (hS c hc))⟩
theorem arK_0 (rd ord ro : Nat → Int32) (o : Nat → Nat) : arK rd 0 0 ord ro o := by
  refine ⟨by omega, m16_0, fun c hc => ⟨fun h => ?_, fun ⟨i, hi, _⟩ => absurd hi (Nat.not_lt_zero i)⟩, fun i hi => absurd hi (Nat.not_lt_zero i), fun i j hi => absurd hi (Nat.not_lt_zero i), fun i hi => absurd hi (Nat.not_lt_zero i), fun c hc h => ?_⟩
  · rw [b_0] at h; cases h
  · rw [b_0] at h; cases h
theorem up3_swap (σ : gSig) (f a b i : Nat) (x y : Nat → Int32) (v : Int32) (h : a ≠ b) : up3 (upR (upR σ f a x) f b y) f a i v = upR (upR σ f a (upd x i v)) f b y := by
  funext f' c' i'
  unfold up3 upR upd
  by_cases h1 : f' = f
  · by_cases h2 : c' = a
    · subst h2
      by_cases h3 : i' = i <;> simp [h1, h3, h]
    · simp [h1, h2]
  · simp [h1]
