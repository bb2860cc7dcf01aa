/-! the class's answers are the reference's: the easy ones -/
theorem okr03 {x : Int32} : okr x 0 3 = true ↔ x = 0 ∨ x = 1 ∨ x = 2 ∨ x = 3 := by
  constructor
  · intro h
    obtain ⟨j, hj, rfl⟩ := okr_nI (k := 3) rfl (by omega) h
    have : j = 0 ∨ j = 1 ∨ j = 2 ∨ j = 3 := by omega
    rcases this with rfl | rfl | rfl | rfl
    · exact Or.inl rfl
    · exact Or.inr (Or.inl rfl)
    · exact Or.inr (Or.inr (Or.inl rfl))
    · exact Or.inr (Or.inr (Or.inr rfl))
  · intro h
    rcases h with rfl | rfl | rfl | rfl <;> decide
theorem clk_lock {N M : Nat} {A : Nat → Nat → Int32} {l what : Int32} : clkS N M A l what = lockS N M A l what := by
  unfold clkS lockS
  by_cases h : okp M l = true
  · rw [if_pos h]
    by_cases h2 : okr what 0 3 = true
    · rw [if_pos ⟨h, h2⟩]
      rcases okr03.mp h2 with rfl | rfl | rfl | rfl
      · rfl
      · rfl
      · rfl
      · rfl
    · rw [if_neg (fun z => h2 z.2)]
      have h3 := mt okr03.mpr h2
      rw [if_neg (fun z => h3 (Or.inl z)), if_neg (fun z => h3 (Or.inr (Or.inl z))), if_neg (fun z => h3 (Or.inr (Or.inr (Or.inl z)))), if_neg (fun z => h3 (Or.inr (Or.inr (Or.inr z))))]
  · rw [if_neg h, if_neg (fun z => h z.1)]
theorem wd_wid {N M : Nat} {A : Nat → Nat → Int32} {what : Int32} : wdS N M A what = widS N M A what := by
  unfold wdS widS
  by_cases h : okr what 0 1 = true
  · rw [if_pos h, if_pos h]
    by_cases h1 : what = 1
    · subst h1
      rfl
    · have h0 := okr01 h h1
      subst h0
      rfl
  · rw [if_neg h, if_neg h]
theorem pw_ls {N : Nat} {A : Nat → Nat → Int32} {x : Int32} : ∀ k, pwR N A x k = lsB (fun q => decide (¬ wpS N A (nI q) < x)) k
  | 0 => rfl
  | k + 1 => by
    unfold pwR lsB
    rw [pw_ls k]
    by_cases h : wpS N A (nI k) < x
    · rw [if_pos h, if_neg (by simp [h])]
    · rw [if_neg h, if_pos (by simp [h])]
theorem pw_pri {N : Nat} {A : Nat → Nat → Int32} {x : Int32} : (if x < 1 then -1 else pwR N A x 100) = priS N A x := by
  unfold priS
  rw [pw_ls]
