/-! counting pairs -/
theorem cfB_cn {P : Nat → Bool} : ∀ k j, cfB P j k = cnS (fun i => P (j + i)) k
  | 0, j => rfl
  | k + 1, j => by
    have key : ∀ (R : Nat → Bool) k, cnS R (k + 1) = cnS (fun i => R (i + 1)) k + (if R 0 then 1 else 0) := by
      intro R k
      induction k with
      | zero => rfl
      | succ k ih =>
        show cnS R (k + 1) + (if R (k + 1) then 1 else 0) = (cnS (fun i => R (i + 1)) k + (if R (k + 1) then 1 else 0)) + (if R 0 then 1 else 0)
        rw [ih, Int32.add_assoc, Int32.add_assoc, Int32.add_comm (if R 0 then 1 else 0)]
    rw [key]
    show cfB P (j + 1) k + (if P j then 1 else 0) = cnS (fun i => P (j + (i + 1))) k + (if P (j + 0) then 1 else 0)
    rw [cfB_cn k (j + 1), Nat.add_zero]
    congr 1
    exact cnS_cong k (fun i _ => by rw [Nat.add_right_comm, Nat.add_assoc])
theorem cfB_cong {P R : Nat → Bool} : ∀ k j, (∀ i, j ≤ i → i < j + k → P i = R i) → cfB P j k = cfB R j k
  | 0, _, _ => rfl
  | k + 1, j, h => by
    show cfB P (j + 1) k + _ = cfB R (j + 1) k + _
    rw [cfB_cong k (j + 1) (fun i h1 h2 => h i (by omega) (by omega)), h j (by omega) (by omega)]
theorem f1B_cong {P R : Nat → Bool} {a : Nat} {z : Int32} : ∀ k j, (∀ i, j ≤ i → i < j + k → P i = R i) → f1B P a z j k = f1B R a z j k
  | 0, _, _ => rfl
  | k + 1, j, h => by
    show (if P j then _ else f1B P a z (j + 1) k) = (if R j then _ else f1B R a z (j + 1) k)
    rw [f1B_cong k (j + 1) (fun i h1 h2 => h i (by omega) (by omega)), h j (by omega) (by omega)]
theorem f2B_cong {P R : Nat → Nat → Bool} {N : Nat} : ∀ k j, j + k = N → (∀ a b, j ≤ a → a < b → b < N → P a b = R a b) → f2B P N j k = f2B R N j k
  | 0, _, _, _ => rfl
  | k + 1, j, e, h => by
    show f1B (P j) j (f2B P N (j + 1) k) (j + 1) (N - (j + 1)) = f1B (R j) j (f2B R N (j + 1) k) (j + 1) (N - (j + 1))
    rw [f2B_cong k (j + 1) (by omega) (fun a b h1 h2 h3 => h a b (by omega) h2 h3)]
    exact f1B_cong _ _ (fun i h1 h2 => h j i (Nat.le_refl _) (by omega) (by omega))
theorem cfB_none {P : Nat → Bool} : ∀ k j, (∀ i, j ≤ i → i < j + k → P i = false) → cfB P j k = 0
  | 0, _, _ => rfl
  | k + 1, j, h => by
    show cfB P (j + 1) k + _ = 0
    rw [cfB_none k (j + 1) (fun i h1 h2 => h i (by omega) (by omega)), h j (by omega) (by omega)]
    rfl
theorem cfB_one {P : Nat → Bool} {i0 : Nat} (hp : P i0 = true) : ∀ k j, j ≤ i0 → i0 < j + k → (∀ i, j ≤ i → i < j + k → P i = true → i = i0) → cfB P j k = 1
  | 0, _, _, _, _ => by omega
  | k + 1, j, h1, h2, h => by
    show cfB P (j + 1) k + (if P j then 1 else 0) = 1
    by_cases c : j = i0
    · subst c
      rw [cfB_none k (j + 1) (fun i z1 z2 => by
        cases hh : P i with
        | false => rfl
        | true => exact absurd (h i (by omega) (by omega) hh) (by omega)), hp]
      rfl
    · rw [cfB_one hp k (j + 1) (by omega) (by omega) (fun i z1 z2 z3 => h i (by omega) (by omega) z3)]
      cases hh : P j with
      | false => rfl
      | true => exact absurd (h j (by omega) (by omega) hh) c
theorem f1B_none {P : Nat → Bool} {a : Nat} {z : Int32} : ∀ k j, (∀ i, j ≤ i → i < j + k → P i = false) → f1B P a z j k = z
  | 0, _, _ => rfl
  | k + 1, j, h => by
    show (if P j then _ else f1B P a z (j + 1) k) = z
    rw [f1B_none k (j + 1) (fun i h1 h2 => h i (by omega) (by omega)), h j (by omega) (by omega)]
    rfl
theorem f1B_one {P : Nat → Bool} {a i0 : Nat} {z : Int32} (hp : P i0 = true) : ∀ k j, j ≤ i0 → i0 < j + k → (∀ i, j ≤ i → i < j + k → P i = true → i = i0) → f1B P a z j k = nI (10 * a + i0)
  | 0, _, _, _, _ => by omega
  | k + 1, j, h1, h2, h => by
    show (if P j then nI (10 * a + j) else f1B P a z (j + 1) k) = _
    by_cases c : j = i0
    · subst c
      rw [if_pos hp]
    · rw [f1B_one hp k (j + 1) (by omega) (by omega) (fun i z1 z2 z3 => h i (by omega) (by omega) z3), if_neg (fun hh => c (h j (by omega) (by omega) hh))]
theorem c2B_cn {P : Nat → Nat → Bool} {Q : Nat → Bool} {N : Nat} : ∀ k j, j + k = N → (∀ a, j ≤ a → a < N → cfB (P a) (a + 1) (N - (a + 1)) = if Q a then 1 else 0) → c2B P N j k + cnS Q j = cnS Q N
  | 0, j, e, _ => by
    have : j = N := by omega
    subst this
    exact Int32.zero_add _
  | k + 1, j, e, h => by
    show (c2B P N (j + 1) k + cfB (P j) (j + 1) (N - (j + 1))) + cnS Q j = _
    rw [h j (by omega) (by omega), Int32.add_assoc, Int32.add_comm _ (cnS Q j)]
    exact c2B_cn k (j + 1) (by omega) (fun a z1 z2 => h a (by omega) z2)
theorem c2B_c2U {P R : Nat → Nat → Bool} {N : Nat} : ∀ k j, j + k = N → (∀ a b, j ≤ a → a < b → b < N → P a b = R a b) → c2B P N j k + c2U R N j = c2U R N N
  | 0, j, e, _ => by
    have : j = N := by omega
    subst this
    exact Int32.zero_add _
  | k + 1, j, e, h => by
    show (c2B P N (j + 1) k + cfB (P j) (j + 1) (N - (j + 1))) + c2U R N j = _
    rw [cfB_cong (R := R j) _ _ (fun i z1 z2 => h j i (Nat.le_refl _) (by omega) (by omega)), cfB_cn, Int32.add_assoc, Int32.add_comm _ (c2U R N j)]
    exact c2B_c2U k (j + 1) (by omega) (fun a b z1 z2 z3 => h a b (by omega) z2 z3)
/-! clashes -/
theorem mate_two {N : Nat} {ins : Nat → Int32} {p i : Nat} (hN : N ≤ 8) (h : two2 N ins) (hp : p < N) (hi : i < N) (hne : i ≠ p) (h9 : ¬ ins p = 9) (he : ins i = ins p) : mateS N ins p = nI i := by
  unfold mateS
  rcases fsB_fst (P := mateP ins p) N 0 (by omega) with ⟨-, z⟩ | ⟨m, h1, h2, h3, h4, -⟩
  · exact absurd (z i (by omega) (by omega)) (by
      have : mateP ins p i = true := decide_eq_true ⟨hne, h9, he⟩
      rw [this]; decide)
  · rw [h4]
    have z := of_decide_eq_true h3
    by_cases c : m = i
    · rw [c]
    · exact (h p m i hp (by omega) hi (fun z' => z.1 z'.symm) (fun z' => hne z'.symm) c h9 z.2.2 he).elim
theorem mate_is {N : Nat} {ins : Nat → Int32} {p : Nat} (hN : N ≤ 8) (h : ¬ mateS N ins p < 0) : ∃ m, m < N ∧ m ≠ p ∧ mateS N ins p = nI m ∧ ¬ ins p = 9 ∧ ins m = ins p := by
  unfold mateS at h ⊢
  rcases fsB_fst (P := mateP ins p) N 0 (by omega) with ⟨z, -⟩ | ⟨m, h1, h2, h3, h4, -⟩
  · rw [z] at h
    exact absurd (show (-4 : Int32) < 0 by decide) h
  · have z := of_decide_eq_true h3
    exact ⟨m, by omega, z.1, h4, z.2.1, z.2.2⟩
theorem lc_one {N : Nat} {A : Nat → Nat → Int32} {a : Nat} (hN : N ≤ 8) (h : two2 N (A 4)) (ha : a < N) : (lcP N A a = true ∧ ∃ m, a < m ∧ m < N ∧ mateS N (A 4) a = nI m ∧ clP A a m = true ∧ ∀ i, a + 1 ≤ i → i < N → clP A a i = true → i = m) ∨ (lcP N A a = false ∧ ∀ i, a + 1 ≤ i → i < N → clP A a i = false) := by
  have two : ∀ i, a + 1 ≤ i → i < N → clP A a i = true → mateS N (A 4) a = nI i := fun i z1 z2 z3 => by
    have z := of_decide_eq_true z3
    exact mate_two hN h ha z2 (by omega) z.1 z.2.1.symm
  cases hl : lcP N A a with
  | true =>
    left
    obtain ⟨l1, l2⟩ := of_decide_eq_true hl
    have hm : ¬ mateS N (A 4) a < 0 := fun z => nI_pos (n := a) (by omega) (Int32.lt_trans l1 z)
    obtain ⟨m, m1, m2, m3, m4, m5⟩ := mate_is hN hm
    rw [m3, nI_clamp (by omega)] at l2
    rw [m3] at l1
    have l3 := (nI_ltl (by omega) (by omega)).mp l1
    exact ⟨rfl, m, l3, m1, m3, decide_eq_true ⟨m4, m5.symm, l2.symm⟩, fun i z1 z2 z3 => by
      have z := two i z1 z2 z3
      rw [m3] at z
      exact ((nI_eq (by omega) (by omega)).mp z).symm⟩
  | false =>
    right
    refine ⟨rfl, fun i z1 z2 => ?_⟩
    cases hc : clP A a i with
    | false => rfl
    | true =>
      have z := two i z1 z2 hc
      have w := of_decide_eq_true hc
      have : lcP N A a = true := decide_eq_true ⟨by rw [z]; exact (nI_ltl (by omega) (by omega)).mpr (by omega), by rw [z, nI_clamp (by omega)]; exact w.2.2.symm⟩
      rw [hl] at this
      cases this
theorem lc_cl {N : Nat} {A : Nat → Nat → Int32} (hN : N ≤ 8) (h : two2 N (A 4)) : c2B (clP A) N 0 N = cnS (lcP N A) N := by
  have z := c2B_cn (P := clP A) (Q := lcP N A) (N := N) N 0 (by omega) (fun a _ ha => ?_)
  · rw [← z]
    exact (Int32.add_zero _).symm
  · rcases lc_one hN h ha with ⟨e, m, m1, m2, m3, m4, m5⟩ | ⟨e, m⟩
    · rw [e, cfB_one m4 _ _ (by omega) (by omega) (fun i z1 z2 z3 => m5 i z1 (by omega) z3)]
      rfl
    · rw [e, cfB_none _ _ (fun i z1 z2 => m i z1 (by omega))]
      rfl
theorem ten_tab : ∀ a, a < 8 → ∀ m, m < 8 → 10 * nI a + nI m = nI (10 * a + m) := by decide +kernel
theorem fc_cl {N : Nat} {A : Nat → Nat → Int32} (hN : N ≤ 8) (h : two2 N (A 4)) : ∀ k j, j + k = N → fcB N A j k = f2B (clP A) N j k
  | 0, _, _ => rfl
  | k + 1, j, e => by
    show (if lcP N A j then 10 * nI j + mateS N (A 4) j else fcB N A (j + 1) k) = f1B (clP A j) j (f2B (clP A) N (j + 1) k) (j + 1) (N - (j + 1))
    rw [← fc_cl hN h k (j + 1) (by omega)]
    rcases lc_one hN h (a := j) (by omega) with ⟨e, m, m1, m2, m3, m4, m5⟩ | ⟨e, m⟩
    · rw [if_pos e, f1B_one m4 _ _ (by omega) (by omega) (fun i z1 z2 z3 => m5 i z1 (by omega) z3), m3]
      exact ten_tab j (by omega) m (by omega)
    · rw [if_neg (by rw [e]; decide), f1B_none _ _ (fun i z1 z2 => m i z1 (by omega))]
theorem ccl_cla {N : Nat} {A : Nat → Nat → Int32} {what : Int32} (hN : N ≤ 8) (h : two2 N (A 4)) : cclS N A what = claS N A what := by
  unfold cclS claS
  rw [lc_cl hN h, fc_cl hN h N 0 (by omega)]
/-! who would rather -/
theorem rc_ra {N : Nat} {A : Nat → Nat → Int32} {a b : Nat} (ha : a < N) (hb : b < N) : raQ N A a b = rcP N A a b := by
  unfold raQ rcP raS wrS mbS boS
  have e19 : ∀ p, p < N → mtA N A N 19 p = mateS N (A 4) p := fun p hp => by
    unfold mtA
    rw [if_pos rfl, if_pos hp]
  have eb : ∀ u v, brS (mtA N A N) u v = brS A u v := fun u v => rfl
  rw [e19 a ha, e19 b hb]
  simp only [eb]
theorem cra_raq {N : Nat} {A : Nat → Nat → Int32} {what : Int32} : craS N A what = (if okr what 0 1 then (if what = 0 then c2B (raQ N A) N 0 N else f2B (raQ N A) N 0 N) else -1) := by
  have e1 : c2B (raQ N A) N 0 N = c2U (rcP N A) N N := by
    rw [← c2B_c2U (P := raQ N A) (R := rcP N A) N 0 (by omega) (fun a b _ h2 h3 => rc_ra (by omega) h3)]
    exact (Int32.add_zero _).symm
  have e2 : f2B (raQ N A) N 0 N = f2B (rcP N A) N 0 N := f2B_cong N 0 (by omega) (fun a b _ h2 h3 => rc_ra (by omega) h3)
  unfold craS
  rw [e1, e2]
