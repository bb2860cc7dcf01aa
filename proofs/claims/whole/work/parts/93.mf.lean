/-! the list: how many sit otherwise -/
theorem bc_tab : ∀ k, k < 8 → ∀ m, m < 2 ^ k → ((nI m ||| (1 : Int32) <<< (nI k &&& 31)) = nI (m + 2 ^ k) ∧ bcI (nI (m + 2 ^ k)) = bcI (nI m) + 1) := by decide +kernel
theorem bc_cn {P : Nat → Bool} : ∀ k, k ≤ 8 → ∃ m, m < 2 ^ k ∧ btB P k = nI m ∧ cnS P k = bcI (nI m)
  | 0, _ => ⟨0, by decide, rfl, (show (0 : Int32) = bcI (nI 0) by decide +kernel)⟩
  | k + 1, h => by
    obtain ⟨m, h1, h2, h3⟩ := bc_cn (P := P) k (by omega)
    have hp : 2 ^ (k + 1) = 2 ^ k + 2 ^ k := by rw [Nat.pow_succ]; omega
    unfold btB cnS
    rw [h2, h3]
    by_cases c : P k = true
    · rw [if_pos c, if_pos c]
      obtain ⟨t1, t2⟩ := bc_tab k (by omega) m h1
      exact ⟨m + 2 ^ k, by omega, t1, t2.symm⟩
    · rw [if_neg c, if_neg c, Int32.add_zero, Int32.or_zero]
      exact ⟨m, by omega, rfl, rfl⟩
theorem bc_all {P : Nat → Bool} {k : Nat} (h : k ≤ 8) : bcI (btB P k) = cnS P k := by
  obtain ⟨m, h1, h2, h3⟩ := bc_cn (P := P) k h
  rw [h2, h3]
theorem cnS_cong {P R : Nat → Bool} : ∀ k, (∀ i, i < k → P i = R i) → cnS P k = cnS R k
  | 0, _ => rfl
  | k + 1, h => by
    unfold cnS
    rw [cnS_cong k (fun i hi => h i (by omega)), h k (by omega)]
theorem cli_lis {N M : Nat} {A : Nat → Nat → Int32} {what : Int32} (hN : N ≤ 8) : cliS N M A what = lisS N M A what := by
  unfold cliS lisS
  rw [bc_all hN, cnS_cong (P := fun p => decide (¬ A 4 p = liA N M A 4 p)) (R := fun p => decide (¬ A 4 p = liV M p)) N (fun i hi => by
    show decide (¬ A 4 i = (if i < N then liV M i else A 4 i)) = _
    rw [if_pos hi])]
