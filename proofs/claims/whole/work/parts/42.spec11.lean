theorem clr_t : ∀ s, s < 256 → ∀ a, a < 8 → ∀ p, p < 8 → Nat.testBit (clrN s a) p = (!(p == a) && Nat.testBit s p) := by decide +kernel
theorem low_N : ∀ N, N ≤ 8 → ∀ s, s < 2 ^ N → s ≠ 0 → lowN s < N := by decide +kernel
theorem full_t : ∀ N, N ≤ 8 → ∀ p, p < N → Nat.testBit (2 ^ N - 1) p = true := by decide +kernel
theorem okm_nI {N : Nat} {i : Int32} (h : okm N i = true) (h0 : ¬ i < 0) (hN : N < 2 ^ 31) : ∃ j, j < N ∧ i = nI j := by
  have h1 := of_decide_eq_true h
  obtain ⟨j, hj, rfl⟩ := nI_of h0
  exact ⟨j, (nI_ltI hj hN).mp h1.2, rfl⟩
theorem lbX_nI {A : Nat → Nat → Int32} {N : Nat} {T : Nat → Int32} {s : Nat} (hN : N ≤ 8) (hs : s < 256) (hl : lowN s < 8) (h : ¬ lbX A N T s < 0) : ∃ o, lowN s < o ∧ o < N ∧ Nat.testBit (clrN s (lowN s)) o = true ∧ lbX A N T s = nI o := by
  obtain ⟨i, h1, h2, h3, h4⟩ := fsB_nI _ _ (by omega) h
  have h3 := of_decide_eq_true h3
  exact ⟨i, by omega, by omega, h3.1, h4⟩
theorem lbM_n {A : Nat → Nat → Int32} {N : Nat} {T mt : Nat → Int32} {f s : Nat} (h : s ≠ 0) (hx : lbX A N T s < 0) : lbM A N T (f + 1) s mt = lbM A N T f (clrN s (lowN s)) (fun i => if i = lowN s then lbX A N T s else mt i) := by
  conv => lhs; unfold lbM
  rw [if_neg h, if_pos hx]
theorem lbM_p {A : Nat → Nat → Int32} {N : Nat} {T mt : Nat → Int32} {f s o : Nat} (h : s ≠ 0) (hx : lbX A N T s = nI o) (ho : o < 8) : lbM A N T (f + 1) s mt = lbM A N T f (clrN (clrN s (lowN s)) o) (fun i => if i = o then nI (lowN s) else if i = lowN s then nI o else mt i) := by
  conv => lhs; unfold lbM
  rw [if_neg h, if_neg (by rw [hx]; exact nI_pos (by omega)), hx, nI_clamp (by omega)]
theorem lbM_z {A : Nat → Nat → Int32} {N : Nat} {T mt : Nat → Int32} {f : Nat} : lbM A N T f 0 mt = mt := by
  cases f with
  | zero => rfl
  | succ f => unfold lbM; rw [if_pos rfl]
/-- those who are out of the set have somebody, or nobody -/
def lbI (N s : Nat) (mt : Nat → Int32) : Prop := ∀ p, p < N → Nat.testBit s p = false → mt p < 0 ∨ ∃ o, o < N ∧ mt p = nI o
theorem lbI_n {N s a : Nat} {mt : Nat → Int32} {x : Int32} (hN : N ≤ 8) (hs : s < 256) (ha : a < 8) (hx : x < 0) (h : lbI N s mt) : lbI N (clrN s a) (fun i => if i = a then x else mt i) := by
  intro p hp ht
  by_cases e : p = a
  · exact Or.inl (by simp [e, hx])
  · rw [clr_t s hs a ha p (by omega)] at ht
    simp [e] at ht ⊢
    exact h p hp ht
theorem lbI_p {N s a o : Nat} {mt : Nat → Int32} (hN : N ≤ 8) (hs : s < 256) (ha : a < N) (ho : o < N) (h : lbI N s mt) : lbI N (clrN (clrN s a) o) (fun i => if i = o then nI a else if i = a then nI o else mt i) := by
  intro p hp ht
  by_cases e : p = o
  · exact Or.inr ⟨a, ha, by simp [e]⟩
  · by_cases e2 : p = a
    · exact Or.inr ⟨o, ho, by simp [e, e2]; intro z; exact absurd (e2.trans z) e⟩
    · rw [clr_t _ (clr_lt hs) o (by omega) p (by omega), clr_t s hs a (by omega) p (by omega)] at ht
      simp [e, e2] at ht ⊢
      exact h p hp ht
def bbS (N : Nat) (A : Nat → Nat → Int32) (p : Nat) (z : Int32) : Int32 := if bsM N (upA A 2 p z) p < 0 then 0 else brS A p (bsM N (upA A 2 p z) p).toNatClampNeg
def bbA (N : Nat) (A : Nat → Nat → Int32) (p : Nat) (z : Int32) : Nat → Nat → Int32 := upA (lbA N (upA A 2 p z) (bsM N (upA A 2 p z))) 2 p (A 2 p)
