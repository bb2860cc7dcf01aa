/-! keys gone -/
theorem go_tab : ∀ t, t < 21 → ∀ k, k < 5 → ∀ c, c < 3 → 2 ≤ t → (pwL (pwL (nI t).toInt64 k - pwL (nI t - 1).toInt64 k) c = lN ((t ^ k - (t - 1) ^ k) ^ c) ∧ pwL (pwL (nI t).toInt64 k) c = lN ((t ^ k) ^ c)) := by decide +kernel
theorem cgo_gon {M : Nat} {A : Nat → Nat → Int32} {l y k part : Int32} (hM : M ≤ 5) (hky : kyOK M (A 7)) : cgoS M A l y k part = gonS M A l y k part := by
  unfold cgoS gonS
  by_cases h : okp M l = true ∧ okr y 2 20 = true ∧ okr k 1 4 = true ∧ okr part 0 1 = true
  · rw [if_pos h, if_pos h]
    obtain ⟨h1, h2, h3, h4⟩ := h
    obtain ⟨j, hj, rfl⟩ := okp_nI h1 (by omega)
    obtain ⟨t, ht2, ht, rfl⟩ := okr_nI2 (k0 := 2) (k := 20) rfl rfl (by omega) (by omega) h2
    obtain ⟨e, he, rfl⟩ := okr14 h3
    obtain ⟨c, hc, ec⟩ := hky j hj
    rw [nI_clamp (n := j) (by omega), nI_clamp (n := t) (by omega), nI_clamp (n := e) (by omega), ec, nI_clamp (n := c) (by omega)]
    obtain ⟨t1, t2⟩ := go_tab t (by omega) e (by omega) c (by omega) ht2
    by_cases hp : part = 0
    · rw [if_pos hp, if_pos hp, t1]
    · rw [if_neg hp, if_neg hp, t2]
  · rw [if_neg h, if_neg h]
