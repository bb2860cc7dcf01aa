def smS (f : Nat → Int32) : Nat → Int32
  | 0 => 0
  | n + 1 => smS f n + f n
def cnS (P : Nat → Bool) : Nat → Int32
  | 0 => 0
  | n + 1 => cnS P n + (if P n then 1 else 0)
def brS (A : Nat → Nat → Int32) (a b : Nat) : Int32 := bearS (A 1 a) (A 2 a) (A 1 b) (A 2 b)
def trS (A : Nat → Nat → Int32) (p l : Nat) : Int32 := trouS (A 1 p) (A 5 l) (A 6 l)
/-- how p would fare in the place l, with that mate -/
def cpS (A : Nat → Nat → Int32) (p : Nat) (l mate : Int32) : Int32 := if l = 9 then -20 else (if mate < 0 then 12 else brS A p mate.toNatClampNeg) - trS A p l.toNatClampNeg
def ctS (N : Nat) (A : Nat → Nat → Int32) (p : Nat) : Int32 := cpS A p (A 4 p) (mateS N (A 4) p)
def alS (N : Nat) (A : Nat → Nat → Int32) : Int32 := smS (ctS N A) N
def inS (N : Nat) (ins : Nat → Int32) (l : Int32) : Int32 := cnS (fun p => decide (ins p = l)) N
def mmS (N : Nat) (ins : Nat → Int32) (p : Nat) (l : Int32) : Bool := decide (l = 9 ∨ ins p = l ∨ inS N ins l < 2)
def swS (A : Nat → Nat → Int32) (a b : Nat) : Nat → Nat → Int32 := upA (upA A 4 a (A 4 b)) 4 b (A 4 a)
def wkS (H : Nat → Int32) (x : Int32) (d : Int32) : Int32 := if ¬ okr d 0 7 then -1 else if H d.toNatClampNeg = 0 then -11 else if ¬ H d.toNatClampNeg = x then -12 else 0
theorem fsB_nI {P : Nat → Bool} : ∀ (k j : Nat), j + k < 2 ^ 31 → ¬ fsB P j k < 0 → ∃ i, j ≤ i ∧ i < j + k ∧ P i = true ∧ fsB P j k = nI i
  | 0, j, h, hn => absurd (show (-4 : Int32) < 0 by decide) hn
  | k + 1, j, h, hn => by
    unfold fsB at hn ⊢
    by_cases hp : P j = true
    · rw [if_pos hp]
      exact ⟨j, Nat.le_refl _, by omega, hp, rfl⟩
    · rw [if_neg hp] at hn ⊢
      obtain ⟨i, h1, h2, h3, h4⟩ := fsB_nI k (j + 1) (by omega) hn
      exact ⟨i, by omega, by omega, h3, h4⟩
theorem mateS_nI {N : Nat} {ins : Nat → Int32} {p : Nat} (hN : N ≤ 8) (h : ¬ mateS N ins p < 0) : ∃ o, o < N ∧ o ≠ p ∧ mateS N ins p = nI o := by
  obtain ⟨i, -, h2, h3, h4⟩ := fsB_nI N 0 (by omega) h
  have h3 := of_decide_eq_true h3
  exact ⟨i, by omega, h3.1, h4⟩
theorem okr_nI {d hi : Int32} {k : Nat} (hk : hi = nI k) (hk2 : k < 2 ^ 31) (h : okr d 0 hi) : ∃ j : Nat, j ≤ k ∧ d = nI j := by
  subst hk
  have h := okr_i.mp h
  obtain ⟨j, hj, rfl⟩ := nI_of h.1
  have := mt (nI_ltI hk2 hj).mpr h.2
  exact ⟨j, by omega, rfl⟩
/-- where pupils sit -/
def insOK (N M : Nat) (ins : Nat → Int32) : Prop := ∀ p, p < N → ins p = 9 ∨ ∃ l, l < M ∧ ins p = nI l
theorem cpS_in {A : Nat → Nat → Int32} {p l o : Nat} {v : Int32} (hl : l < 5) (ho : o < 8) (e : v = nI o) : cpS A p (nI l) v = brS A p o - trS A p l := by
  unfold cpS
  rw [if_neg (fun h => by have := (nI_eq (a := l) (b := 9) (by omega) (by omega)).mp h; omega), e, if_neg (nI_pos (by omega)), nI_clamp (by omega), nI_clamp (by omega)]
theorem cpS_al {A : Nat → Nat → Int32} {p l : Nat} {v : Int32} (hl : l < 5) (e : v < 0) : cpS A p (nI l) v = 12 - trS A p l := by
  unfold cpS
  rw [if_neg (fun h => by have := (nI_eq (a := l) (b := 9) (by omega) (by omega)).mp h; omega), if_pos e, nI_clamp (by omega)]
theorem cpS_no {A : Nat → Nat → Int32} {p : Nat} {v : Int32} : cpS A p 9 v = -20 := by
  unfold cpS
  rw [if_pos rfl]
