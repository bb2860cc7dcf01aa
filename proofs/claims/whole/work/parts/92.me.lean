/-! the class's answers are the reference's: the easy ones -/
theorem okr03 {x : Int32} : okr x 0 3 = true ↔ x = 0 ∨ x = 1 ∨ x = 2 ∨ x = 3 := by
  constructor
  · intro h
    obtain ⟨j, hj, rfl⟩ := okr_nI (k := 3) rfl (by omega) h
    have : j = 0 ∨ j = 1 ∨ j = 2 ∨ j = 3 := by omega
    rcases this with rfl | rfl | rfl | rfl
    · exact Or.inl rfl
    · exact Or.inr (Or.inl rfl)
    · exact Or.inr (Or.inr (Or.inl rfl))
    · exact Or.inr (Or.inr (Or.inr rfl))
  · intro h
    rcases h with rfl | rfl | rfl | rfl <;> decide
theorem clk_lock {N M : Nat} {A : Nat → Nat → Int32} {l what : Int32} : clkS N M A l what = lockS N M A l what := by
  by_cases h : okp M l = true
  · by_cases h2 : okr what 0 3 = true
    · rcases okr03.mp h2 with rfl | rfl | rfl | rfl
      · simp [clkS, lockS, h, h2]
      · simp [clkS, lockS, h, h2]
      · simp [clkS, lockS, h, h2]
      · simp [clkS, lockS, h, h2]
    · have h3 := mt okr03.mpr h2
      have n0 : ¬ what = 0 := fun z => h3 (Or.inl z)
      have n1 : ¬ what = 1 := fun z => h3 (Or.inr (Or.inl z))
      have n2 : ¬ what = 2 := fun z => h3 (Or.inr (Or.inr (Or.inl z)))
      have n3 : ¬ what = 3 := fun z => h3 (Or.inr (Or.inr (Or.inr z)))
      simp [clkS, lockS, h, h2, n0, n1, n2, n3]
  · simp [clkS, lockS, h]
theorem wd_wid {N M : Nat} {A : Nat → Nat → Int32} {what : Int32} : wdS N M A what = widS N M A what := by
  unfold wdS widS
  by_cases h : okr what 0 1 = true
  · rw [if_pos h, if_pos h]
    by_cases h1 : what = 1
    · subst h1
      rfl
    · have h0 := okr01 h h1
      subst h0
      rfl
  · rw [if_neg h, if_neg h]
theorem pw_ls {N : Nat} {A : Nat → Nat → Int32} {x : Int32} : ∀ k, pwR N A x k = lsB (fun q => decide (¬ wpS N A (nI q) < x)) k
  | 0 => rfl
  | k + 1 => by
    unfold pwR lsB
    rw [pw_ls k]
    by_cases h : wpS N A (nI k) < x
    · rw [if_pos h, if_neg (by simp [h])]
    · rw [if_neg h, if_pos (by simp [h])]
theorem pw_pri {N : Nat} {A : Nat → Nat → Int32} {x : Int32} : (if x < 1 then -1 else pwR N A x 100) = priS N A x := by
  unfold priS
  rw [pw_ls]
theorem smS_one {f : Nat → Int32} {j : Nat} : ∀ k, k < 2 ^ 31 → j < 2 ^ 31 → smS (fun o => if nI o = nI j then f o else 0) k = if j < k then f j else 0
  | 0, _, _ => rfl
  | k + 1, hk, hj => by
    unfold smS
    rw [smS_one k (by omega) hj]
    by_cases e : k = j
    · subst e
      rw [if_neg (by omega), if_pos rfl, if_pos (by omega), Int32.zero_add]
    · rw [if_neg (mt (nI_eq (by omega) hj).mp e), Int32.add_zero]
      by_cases h : j < k
      · rw [if_pos h, if_pos (by omega)]
      · rw [if_neg h, if_neg (by omega)]
theorem cen_env {N : Nat} {A : Nat → Nat → Int32} {p : Int32} (hN : N ≤ 8) : cenS N A p = envS N A p := by
  unfold cenS envS
  by_cases h : p = -1
  · subst h
    have h1 : okm N (-1) = true := decide_eq_true ⟨by decide, by
      by_cases z : N = 0
      · subst z; decide
      · exact Int32.lt_trans (show (-1 : Int32) < 0 by decide) ((n0_gt (by omega)).mpr (by omega))⟩
    rw [if_pos rfl, if_pos h1]
    have e : (fun o => if (-1 : Int32) < 0 ∨ nI o = -1 then evS N A o else 0) = evS N A := by
      funext o
      exact if_pos (Or.inl (by decide))
    rw [e]
  · rw [if_neg h]
    by_cases h2 : okp N p = true
    · obtain ⟨j, hj, rfl⟩ := okp_nI h2 (by omega)
      have h1 : okm N (nI j) = true := decide_eq_true ⟨fun z => nI_pos (n := j) (by omega) (Int32.lt_trans z (by decide)), nI_lt hj (by omega)⟩
      rw [if_pos h2, if_pos h1, nI_clamp (by omega)]
      have e : (fun o => if nI j < 0 ∨ nI o = nI j then evS N A o else 0) = fun o => if nI o = nI j then evS N A o else 0 := by
        funext o
        by_cases c : nI o = nI j
        · rw [if_pos (Or.inr c), if_pos c]
        · rw [if_neg (fun z => z.elim (fun y => nI_pos (by omega) y) c), if_neg c]
      rw [e, smS_one N (by omega) (by omega), if_pos hj]
    · have h1 : ¬ okm N p = true := fun z => by
        obtain ⟨z1, z2⟩ := of_decide_eq_true z
        by_cases z3 : p < 0
        · refine h (Int32.le_antisymm ?_ (Int32.not_lt.mp z1))
          refine Int32.le_iff_toInt_le.mpr ?_
          have := Int32.lt_iff_toInt_lt.mp z3
          have e1 : (0 : Int32).toInt = 0 := rfl
          have e2 : (-1 : Int32).toInt = -1 := rfl
          omega
        · exact h2 (decide_eq_true ⟨z3, z2⟩)
      rw [if_neg h2, if_neg h1]
