/-! plain facts of numbers, as the walks want them -/
theorem n0_eq {a : Nat} (h : a < 2 ^ 31) : nI a = 0 ↔ a = 0 := nI_0 ▸ nI_eq h (by omega)
theorem n0_lt {a : Nat} (h : a < 2 ^ 31) : nI a < 0 ↔ False := ⟨fun z => nI_pos h z, fun z => z.elim⟩
theorem n0_ge {a : Nat} (h : a < 2 ^ 31) : 0 ≤ nI a ↔ True := ⟨fun _ => trivial, fun _ => nI_pos' h⟩
theorem n0_gt {a : Nat} (h : a < 2 ^ 31) : 0 < nI a ↔ 0 < a := nI_0 ▸ nI_ltI (by omega) h
theorem n0_le {a : Nat} (h : a < 2 ^ 31) : nI a ≤ 0 ↔ a ≤ 0 := nI_0 ▸ nI_leI h (by omega)
theorem bz_f {P : Prop} [Decidable P] (h : (if P then (1 : Int32) else 0) = 0) : ¬ P := by
  intro p
  rw [if_pos p] at h
  exact absurd h (by decide)
theorem bz_t {P : Prop} [Decidable P] (h : ¬ (if P then (1 : Int32) else 0) = 0) : P := by
  by_cases p : P
  · exact p
  · rw [if_neg p] at h
    exact absurd rfl h
theorem bz_n (P : Prop) [Decidable P] : narrow .boolean (.int (if P then 1 else 0)) = .int (if P then 1 else 0) := by
  by_cases p : P
  · rw [if_pos p]; rfl
  · rw [if_neg p]; rfl
theorem i32_ne {x v : Int32} {k : Int} (hv : v.toInt = k) (h : ¬ x = v) : x.toInt ≠ k := fun e => h (Int32.toInt_inj.mp (e.trans hv.symm))
theorem i32_m1 (x : Int32) : x + Int32.ofInt (-1) = x - 1 := by
  rw [Int32.sub_eq_add_neg]
  rfl
theorem i32_lt (a b : Int32) : a < b ↔ a.toInt < b.toInt := Int32.lt_iff_toInt_lt
theorem i32_le (a b : Int32) : a ≤ b ↔ a.toInt ≤ b.toInt := Int32.le_iff_toInt_le
theorem i32_eq (a b : Int32) : a = b ↔ a.toInt = b.toInt := Int32.toInt_inj.symm
theorem i64_lt (a b : Int64) : a < b ↔ a.toInt < b.toInt := Int64.lt_iff_toInt_lt
theorem i64_le (a b : Int64) : a ≤ b ↔ a.toInt ≤ b.toInt := Int64.le_iff_toInt_le
theorem i64_eq (a b : Int64) : a = b ↔ a.toInt = b.toInt := Int64.toInt_inj.symm
theorem lc_cases (x z : Int64) : (z.toInt < x.toInt ∧ lg_cmp x z = 1) ∨ (x.toInt = z.toInt ∧ lg_cmp x z = 0) ∨ (x.toInt < z.toInt ∧ lg_cmp x z = -1) := by
  unfold lg_cmp
  by_cases h1 : x > z
  · have h1' := (i64_lt _ _).mp h1
    exact Or.inl ⟨h1', if_pos h1⟩
  · have h1' := mt (i64_lt _ _).mpr h1
    rw [if_neg h1]
    by_cases h2 : x = z
    · exact Or.inr (Or.inl ⟨by rw [h2], if_pos h2⟩)
    · have h2' := mt (i64_eq _ _).mpr h2
      exact Or.inr (Or.inr ⟨by omega, if_neg h2⟩)
theorem lc_eq (x z : Int64) : lg_cmp x z = 0 ↔ x = z := by
  rw [i64_eq]
  rcases lc_cases x z with ⟨h, e⟩ | ⟨h, e⟩ | ⟨h, e⟩ <;> rw [e]
  · exact ⟨fun z => absurd z (by decide), fun z => by omega⟩
  · exact ⟨fun _ => h, fun _ => rfl⟩
  · exact ⟨fun z => absurd z (by decide), fun z => by omega⟩
theorem lc_lt (x z : Int64) : lg_cmp x z < 0 ↔ x < z := by
  rw [i64_lt]
  rcases lc_cases x z with ⟨h, e⟩ | ⟨h, e⟩ | ⟨h, e⟩ <;> rw [e]
  · exact ⟨fun z => absurd z (by decide), fun z => by omega⟩
  · exact ⟨fun z => absurd z (by decide), fun z => by omega⟩
  · exact ⟨fun _ => h, fun _ => by decide⟩
theorem lc_gt (x z : Int64) : 0 < lg_cmp x z ↔ z < x := by
  rw [i64_lt]
  rcases lc_cases x z with ⟨h, e⟩ | ⟨h, e⟩ | ⟨h, e⟩ <;> rw [e]
  · exact ⟨fun _ => h, fun _ => by decide⟩
  · exact ⟨fun z => absurd z (by decide), fun z => by omega⟩
  · exact ⟨fun z => absurd z (by decide), fun z => by omega⟩
theorem lc_ge (x z : Int64) : 0 ≤ lg_cmp x z ↔ ¬ x < z := by
  rw [i64_lt]
  rcases lc_cases x z with ⟨h, e⟩ | ⟨h, e⟩ | ⟨h, e⟩ <;> rw [e]
  · exact ⟨fun _ => by omega, fun _ => by decide⟩
  · exact ⟨fun _ => by omega, fun _ => by decide⟩
  · exact ⟨fun z => absurd z (by decide), fun z => by omega⟩
theorem lc_le (x z : Int64) : lg_cmp x z ≤ 0 ↔ ¬ z < x := by
  rw [i64_lt]
  rcases lc_cases x z with ⟨h, e⟩ | ⟨h, e⟩ | ⟨h, e⟩ <;> rw [e]
  · exact ⟨fun z => absurd z (by decide), fun z => by omega⟩
  · exact ⟨fun _ => by omega, fun _ => by decide⟩
  · exact ⟨fun _ => by omega, fun _ => by decide⟩
theorem wide_le (a b : Int32) : a.toInt64 ≤ b.toInt64 ↔ a ≤ b := by rw [i64_le, i32_le, Int32.toInt_toInt64, Int32.toInt_toInt64]
/-- a row of rows with one place changed -/
def upA {α : Type} (A : Nat → Nat → α) (j i : Nat) (v : α) : Nat → Nat → α := fun j' => if j' = j then (fun i' => if i' = i then v else A j i') else A j'
theorem upA_s {α : Type} (A : Nat → Nat → α) (j i : Nat) (v : α) : upA A j i v j = fun i' => if i' = i then v else A j i' := by simp [upA]
theorem upA_n {α : Type} (A : Nat → Nat → α) {j j' : Nat} (h : j' ≠ j) (i : Nat) (v : α) : upA A j i v j' = A j' := by simp [upA, h]
