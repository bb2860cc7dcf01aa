/-! THE TEXT: c says what stands at each place (behind the end: nothing of a text) -/
def txC (L : Nat → Nat → Int64) (d R i : Nat) : Int32 := if i < R then (L 13 (100 * d + i)).toInt32 else -999
def ndS (ch : Int32) : Nat := if ch = 112 then 3 else if ch = 107 then 1 else if ch = 110 then 1 else 2
def dgS (ch : Int32) : Bool := okr ch 48 57
/-- how many digits there are from i on, of k -/
def rdK (c : Nat → Int32) : Nat → Nat → Nat
  | _, 0 => 0
  | i, k + 1 => if dgS (c i) then rdK c (i + 1) k + 1 else 0
theorem rdK_le {c : Nat → Int32} : ∀ (k i : Nat), rdK c i k ≤ k
  | 0, _ => Nat.le_refl _
  | k + 1, i => by
    unfold rdK
    by_cases h : dgS (c i) = true
    · rw [if_pos h]
      have := rdK_le (c := c) k (i + 1)
      omega
    · rw [if_neg h]
      omega
theorem rdK_all {c : Nat → Int32} : ∀ (k i : Nat), (∀ j, j < k → dgS (c (i + j)) = true) → rdK c i k = k
  | 0, _, _ => rfl
  | k + 1, i, h => by
    unfold rdK
    rw [if_pos (show dgS (c i) = true from h 0 (by omega)), rdK_all k (i + 1) (fun j hj => by rw [show i + 1 + j = i + (j + 1) by omega]; exact h (j + 1) (by omega))]
theorem rdK_stop {c : Nat → Int32} : ∀ (k i m : Nat), (∀ j, j < m → dgS (c (i + j)) = true) → m < k → dgS (c (i + m)) = false → rdK c i k = m
  | 0, _, _, _, h, _ => absurd h (by omega)
  | k + 1, i, 0, _, _, h => by
    unfold rdK
    rw [if_neg (by rw [show i = i + 0 by omega, h]; decide)]
  | k + 1, i, m + 1, ha, hm, h => by
    unfold rdK
    rw [if_pos (show dgS (c i) = true from ha 0 (by omega)), rdK_stop k (i + 1) m (fun j hj => by rw [show i + 1 + j = i + (j + 1) by omega]; exact ha (j + 1) (by omega)) (by omega) (by rw [show i + 1 + m = i + (m + 1) by omega]; exact h)]
/-- is the statement at a well made; where its reading stops -/
def stG (c : Nat → Int32) (a : Nat) : Bool := ltrS (c a) && decide (rdK c (a + 1) (ndS (c a)) = ndS (c a)) && decide (c (a + 1 + ndS (c a)) = 59)
def stP (c : Nat → Int32) (a : Nat) : Nat := if ltrS (c a) = false then a else if rdK c (a + 1) (ndS (c a)) < ndS (c a) then a + 1 + rdK c (a + 1) (ndS (c a)) else if c (a + 1 + ndS (c a)) = 59 then a + 1 + ndS (c a) + 1 else a + 1 + ndS (c a)
/-- the k-th statement's place -/
def psS (c : Nat → Int32) : Nat → Nat
  | 0 => 0
  | k + 1 => psS c k + 1 + ndS (c (psS c k)) + 1
theorem psS_ge {c : Nat → Int32} : ∀ k, 3 * k ≤ psS c k
  | 0 => Nat.le_refl _
  | k + 1 => by
    have := psS_ge (c := c) k
    have h : 1 ≤ ndS (c (psS c k)) := by
      unfold ndS
      split
      · decide
      · split
        · decide
        · split <;> decide
    show 3 * (k + 1) ≤ psS c k + 1 + ndS (c (psS c k)) + 1
    omega
/-- reading on: how many statements, or the first misfit -/
def scS (c : Nat → Int32) (R : Nat) : Nat → Nat → Nat × Option Nat
  | 0, k => (k, none)
  | f + 1, k => if stG c (psS c k) then (if psS c (k + 1) < R then scS c R f (k + 1) else (k + 1, none)) else (k, some (stP c (psS c k)))
/-! A SCHOOL: pupils, lockers, pence, rows 1 to 7 -/
abbrev SS : Type := Nat × Nat × Int32 × (Nat → Nat → Int32)
/-- what a statement does -/
def exS (s : SS) (l a b e : Int32) : Option SS :=
  if l = 112 then (if pcC s.1 a e then some (s.1 + 1, s.2.1, s.2.2.1, pcA s.1 s.2.2.2 a b e) else none)
  else if l = 108 then (if lcC s.2.1 b then some (s.1, s.2.1 + 1, s.2.2.1, lcA s.2.1 s.2.2.2 a b) else none)
  else if l = 109 then (if okp s.1 a = true ∧ (b = 9 ∨ okp s.2.1 b = true) ∧ mmS s.1 (s.2.2.2 4) a.toNatClampNeg b = true then some (s.1, s.2.1, s.2.2.1, upA s.2.2.2 4 a.toNatClampNeg b) else none)
  else if l = 120 then (if okp s.1 a = true ∧ okp s.1 b = true ∧ ¬ a = b then some (s.1, s.2.1, s.2.2.1, swS s.2.2.2 a.toNatClampNeg b.toNatClampNeg) else none)
  else if l = 107 then (if okp s.2.1 a = true ∧ 0 < s.2.2.2 7 a.toNatClampNeg then some (s.1, s.2.1, s.2.2.1, upA s.2.2.2 7 a.toNatClampNeg (s.2.2.2 7 a.toNatClampNeg - 1)) else none)
  else (if mkC s.2.1 s.2.2.1 a then some (s.1, s.2.1, s.2.2.1 + 5, mkA s.2.2.2 a) else none)
/-- the statement at a place, with its digits -/
def exC (c : Nat → Int32) (s : SS) (a : Nat) : Option SS := exS s (c a) (c (a + 1) - 48) (c (a + 2) - 48) (c (a + 3) - 48)
/-- f statements from the k-th on: the answer, and all that came of it -/
def rnS (c : Nat → Int32) : Nat → Nat → SS → Int32 × Option SS
  | 0, k, s => (nI k, some s)
  | f + 1, k, s => match exC c s (psS c k) with
    | none => (-2000 - nI (psS c k), none)
    | some s' => rnS c f (k + 1) s'
def schV (c : Nat → Int32) (R : Nat) (s : SS) : Int32 × Option SS := match scS c R 40 0 with
  | (_, some b) => (-1000 - nI b, none)
  | (k, none) => rnS c k 0 s
/-- what of a school is in its range -/
def schOK (s : SS) : Prop := s.1 ≤ 8 ∧ s.2.1 ≤ 5 ∧ insOK s.1 s.2.1 (s.2.2.2 4) ∧ kyOK s.2.1 (s.2.2.2 7) ∧ (∀ p, p < s.1 → (∃ k, k < 8 ∧ s.2.2.2 1 p = nI k) ∧ (∃ k, k < 10 ∧ s.2.2.2 2 p = nI k) ∧ ∃ k, k < 6 ∧ s.2.2.2 3 p = nI k) ∧ (∀ l, l < s.2.1 → (∃ k, k < 10 ∧ s.2.2.2 5 l = nI k) ∧ ∃ k, k < 2 ∧ s.2.2.2 6 l = nI k) ∧ ∃ k, k < 10000 ∧ s.2.2.1 = nI k
theorem nI_ne {a b : Nat} (ha : a < 2 ^ 31) (hb : b < 2 ^ 31) (h : a ≠ b) : nI a ≠ nI b := fun z => h ((nI_eq ha hb).mp z)
theorem insOK_N {N M : Nat} {ins : Nat → Int32} {N' M' : Nat} (h : insOK N M ins) (hN : N' ≤ N) (hM : M ≤ M') : insOK N' M' ins := by
  intro p hp
  rcases h p (by omega) with e | ⟨l, hl, e⟩
  · exact Or.inl e
  · exact Or.inr ⟨l, by omega, e⟩
theorem sch_p {s : SS} {a b e : Nat} (h : schOK s) (hc : pcC s.1 (nI a) (nI e) = true) (ha : a < 10) (hb : b < 10) (he : e < 10) : schOK (s.1 + 1, s.2.1, s.2.2.1, pcA s.1 s.2.2.2 (nI a) (nI b) (nI e)) := by
  obtain ⟨h1, h2, h3, h4, h5, h6, h7⟩ := h
  obtain ⟨c1, c2, c3⟩ := of_decide_eq_true hc
  have c1 := (nI_ltI (a := a) (b := 8) (by omega) (by omega)).mp c1
  have c2 := (nI_ltI (a := e) (b := 6) (by omega) (by omega)).mp c2
  refine ⟨by show s.1 + 1 ≤ 8; omega, h2, fun p hp => ?_, fun l hl => ?_, fun p hp => ?_, fun l hl => ?_, h7⟩
  · show pcA s.1 s.2.2.2 (nI a) (nI b) (nI e) 4 p = 9 ∨ ∃ l, l < s.2.1 ∧ pcA s.1 s.2.2.2 (nI a) (nI b) (nI e) 4 p = nI l
    unfold pcA
    rw [upA_s]
    simp only []
    by_cases e0 : p = s.1
    · rw [if_pos e0]; exact Or.inl rfl
    · rw [if_neg e0, upA_n _ (by decide), upA_n _ (by decide), upA_n _ (by decide)]
      have hp : p < s.1 + 1 := hp
      exact h3 p (by omega)
  · show ∃ k, k < 3 ∧ pcA s.1 s.2.2.2 (nI a) (nI b) (nI e) 7 l = nI k
    unfold pcA
    rw [upA_n _ (by decide), upA_n _ (by decide), upA_n _ (by decide), upA_n _ (by decide)]
    exact h4 l hl
  · show (∃ k, k < 8 ∧ pcA s.1 s.2.2.2 (nI a) (nI b) (nI e) 1 p = nI k) ∧ (∃ k, k < 10 ∧ pcA s.1 s.2.2.2 (nI a) (nI b) (nI e) 2 p = nI k) ∧ ∃ k, k < 6 ∧ pcA s.1 s.2.2.2 (nI a) (nI b) (nI e) 3 p = nI k
    simp only [pcA, upA_at]
    by_cases e0 : p = s.1
    · subst e0
      exact ⟨⟨a, c1, by simp⟩, ⟨b, hb, by simp⟩, ⟨e, c2, by simp⟩⟩
    · have hp : p < s.1 + 1 := hp
      obtain ⟨i1, i2, i3⟩ := h5 p (by omega)
      simp only [e0, and_false, if_false]
      exact ⟨i1, i2, i3⟩
  · show (∃ k, k < 10 ∧ pcA s.1 s.2.2.2 (nI a) (nI b) (nI e) 5 l = nI k) ∧ ∃ k, k < 2 ∧ pcA s.1 s.2.2.2 (nI a) (nI b) (nI e) 6 l = nI k
    unfold pcA
    rw [upA_n _ (by decide), upA_n _ (by decide), upA_n _ (by decide), upA_n _ (by decide), upA_n _ (by decide), upA_n _ (by decide), upA_n _ (by decide), upA_n _ (by decide)]
    exact h6 l hl
theorem sch_l {s : SS} {a b : Nat} (h : schOK s) (hc : lcC s.2.1 (nI b) = true) (ha : a < 10) (hb : b < 10) : schOK (s.1, s.2.1 + 1, s.2.2.1, lcA s.2.1 s.2.2.2 (nI a) (nI b)) := by
  obtain ⟨h1, h2, h3, h4, h5, h6, h7⟩ := h
  obtain ⟨c1, c2⟩ := of_decide_eq_true hc
  have c1 := (nI_ltI (a := b) (b := 2) (by omega) (by omega)).mp c1
  refine ⟨h1, by show s.2.1 + 1 ≤ 5; omega, ?_, fun l hl => ?_, fun p hp => ?_, fun l hl => ?_, h7⟩
  · show insOK s.1 (s.2.1 + 1) (lcA s.2.1 s.2.2.2 (nI a) (nI b) 4)
    unfold lcA
    rw [upA_n _ (by decide), upA_n _ (by decide), upA_n _ (by decide)]
    exact insOK_N h3 (Nat.le_refl _) (by omega)
  · have hl : l < s.2.1 + 1 := hl
    show ∃ k, k < 3 ∧ lcA s.2.1 s.2.2.2 (nI a) (nI b) 7 l = nI k
    simp only [lcA, upA_at]
    by_cases e0 : l = s.2.1
    · subst e0
      exact ⟨2, by decide, by simp; rfl⟩
    · simp only [e0, and_false, if_false]
      exact h4 l (by omega)
  · show (∃ k, k < 8 ∧ lcA s.2.1 s.2.2.2 (nI a) (nI b) 1 p = nI k) ∧ (∃ k, k < 10 ∧ lcA s.2.1 s.2.2.2 (nI a) (nI b) 2 p = nI k) ∧ ∃ k, k < 6 ∧ lcA s.2.1 s.2.2.2 (nI a) (nI b) 3 p = nI k
    unfold lcA
    rw [upA_n _ (by decide), upA_n _ (by decide), upA_n _ (by decide), upA_n _ (by decide), upA_n _ (by decide), upA_n _ (by decide), upA_n _ (by decide), upA_n _ (by decide), upA_n _ (by decide)]
    exact h5 p hp
  · have hl : l < s.2.1 + 1 := hl
    show (∃ k, k < 10 ∧ lcA s.2.1 s.2.2.2 (nI a) (nI b) 5 l = nI k) ∧ ∃ k, k < 2 ∧ lcA s.2.1 s.2.2.2 (nI a) (nI b) 6 l = nI k
    simp only [lcA, upA_at]
    by_cases e0 : l = s.2.1
    · subst e0
      exact ⟨⟨a, ha, by simp⟩, ⟨b, c1, by simp⟩⟩
    · obtain ⟨i1, i2⟩ := h6 l (by omega)
      simp only [e0, and_false, if_false]
      exact ⟨i1, i2⟩
/-- a change of row 4 alone, of row 7 alone -/
theorem sch_4 {s : SS} {A' : Nat → Nat → Int32} (h : schOK s) (hr : ∀ r, r ≠ 4 → A' r = s.2.2.2 r) (hi : insOK s.1 s.2.1 (A' 4)) : schOK (s.1, s.2.1, s.2.2.1, A') := by
  obtain ⟨h1, h2, h3, h4, h5, h6, h7⟩ := h
  refine ⟨h1, h2, hi, ?_, ?_, ?_, h7⟩
  · show kyOK s.2.1 (A' 7)
    rw [hr 7 (by decide)]; exact h4
  · show ∀ p, p < s.1 → (∃ k, k < 8 ∧ A' 1 p = nI k) ∧ (∃ k, k < 10 ∧ A' 2 p = nI k) ∧ ∃ k, k < 6 ∧ A' 3 p = nI k
    rw [hr 1 (by decide), hr 2 (by decide), hr 3 (by decide)]; exact h5
  · show ∀ l, l < s.2.1 → (∃ k, k < 10 ∧ A' 5 l = nI k) ∧ ∃ k, k < 2 ∧ A' 6 l = nI k
    rw [hr 5 (by decide), hr 6 (by decide)]; exact h6
theorem sch_7 {s : SS} {A' : Nat → Nat → Int32} {P : Int32} (h : schOK s) (hr : ∀ r, r ≠ 7 → A' r = s.2.2.2 r) (hk : kyOK s.2.1 (A' 7)) (hP : ∃ k, k < 10000 ∧ P = nI k) : schOK (s.1, s.2.1, P, A') := by
  obtain ⟨h1, h2, h3, h4, h5, h6, h7⟩ := h
  refine ⟨h1, h2, ?_, hk, ?_, ?_, hP⟩
  · show insOK s.1 s.2.1 (A' 4)
    rw [hr 4 (by decide)]; exact h3
  · show ∀ p, p < s.1 → (∃ k, k < 8 ∧ A' 1 p = nI k) ∧ (∃ k, k < 10 ∧ A' 2 p = nI k) ∧ ∃ k, k < 6 ∧ A' 3 p = nI k
    rw [hr 1 (by decide), hr 2 (by decide), hr 3 (by decide)]; exact h5
  · show ∀ l, l < s.2.1 → (∃ k, k < 10 ∧ A' 5 l = nI k) ∧ ∃ k, k < 2 ∧ A' 6 l = nI k
    rw [hr 5 (by decide), hr 6 (by decide)]; exact h6
theorem sch_mv {s : SS} {a : Nat} {b : Int32} (h : schOK s) (hb : b = 9 ∨ okp s.2.1 b = true) : schOK (s.1, s.2.1, s.2.2.1, upA s.2.2.2 4 a b) := by
  refine sch_4 h (fun r hr => upA_n _ hr _ _) (fun p hp => ?_)
  rw [upA_s]
  simp only []
  by_cases e : p = a
  · rw [if_pos e]
    rcases hb with z | z
    · exact Or.inl z
    · obtain ⟨l, hl, e2⟩ := okp_nI z (by have := h.2.1; omega)
      exact Or.inr ⟨l, hl, e2⟩
  · rw [if_neg e]
    exact h.2.2.1 p hp
theorem sch_sw {s : SS} {a b : Nat} (h : schOK s) (ha : a < s.1) (hb : b < s.1) : schOK (s.1, s.2.1, s.2.2.1, swS s.2.2.2 a b) := sch_4 h (fun _ hr => swS_row hr) (insOK_sw h.2.2.1 ha hb)
theorem sch_lo {s : SS} {a : Nat} (h : schOK s) (ha : a < s.2.1) (hk : 0 < s.2.2.2 7 a) : schOK (s.1, s.2.1, s.2.2.1, upA s.2.2.2 7 a (s.2.2.2 7 a - 1)) := by
  refine sch_7 h (fun r hr => upA_n _ hr _ _) (fun l hl => ?_) h.2.2.2.2.2.2
  rw [upA_s]
  simp only []
  by_cases e : l = a
  · rw [if_pos e]
    obtain ⟨k, hk3, ek⟩ := h.2.2.2.1 a ha
    rw [ek] at hk ⊢
    have := (n0_gt (a := k) (by omega)).mp hk
    obtain ⟨j, rfl⟩ : ∃ j, k = j + 1 := ⟨k - 1, by omega⟩
    exact ⟨j, by omega, nI_pred j⟩
  · rw [if_neg e]
    exact h.2.2.2.1 l hl
theorem sch_mk {s : SS} {a : Int32} (h : schOK s) (hc : mkC s.2.1 s.2.2.1 a = true) : schOK (s.1, s.2.1, s.2.2.1 + 5, mkA s.2.2.2 a) := by
  obtain ⟨c1, c2⟩ := of_decide_eq_true hc
  obtain ⟨k, hk, ek⟩ := h.2.2.2.2.2.2
  refine sch_7 h (fun r hr => upA_n _ hr _ _) (fun l hl => ?_) ?_
  · unfold mkA
    rw [upA_s]
    simp only []
    by_cases e : l = a.toNatClampNeg
    · rw [if_pos e]; exact ⟨2, by decide, rfl⟩
    · rw [if_neg e]; exact h.2.2.2.1 l hl
  · rw [ek] at c2 ⊢
    have e : nI k + 5 = nI (k + 5) := nI_add k 5
    rw [e] at c2 ⊢
    have := mt (nI_ltI (a := 9999) (b := k + 5) (by omega) (by omega)).mpr c2
    exact ⟨k + 5, by omega, rfl⟩
theorem dg_nI {x : Int32} (h : dgS x = true) : ∃ k, k < 10 ∧ x - 48 = nI k := by
  obtain ⟨j, h1, h2, e⟩ := okr_nI2 (k0 := 48) (k := 57) rfl rfl (by omega) (by omega) h
  refine ⟨j - 48, by omega, ?_⟩
  obtain ⟨z, rfl⟩ : ∃ z, j = z + 48 := ⟨j - 48, by omega⟩
  rw [e, Nat.add_sub_cancel]
  show nI (z + 48) - nI 48 = nI z
  rw [← nI_add]
  exact Int32.add_sub_cancel _ _
/-- what a statement's numbers are, if it is well made -/
theorem ex_ok {s s' : SS} {l : Int32} {a b e : Int32} (h : schOK s) (ha : ∃ k, k < 10 ∧ a = nI k) (hb : l = 112 ∨ l = 108 ∨ l = 109 ∨ l = 120 → ∃ k, k < 10 ∧ b = nI k) (he : l = 112 → ∃ k, k < 10 ∧ e = nI k) (hx : exS s l a b e = some s') : schOK s' := by
  obtain ⟨a0, ha0, rfl⟩ := ha
  unfold exS at hx
  by_cases c1 : l = 112
  · rw [if_pos c1] at hx
    obtain ⟨b0, hb0, rfl⟩ := hb (Or.inl c1)
    obtain ⟨e0, he0, rfl⟩ := he c1
    by_cases g : pcC s.1 (nI a0) (nI e0) = true
    · rw [if_pos g] at hx
      cases hx
      exact sch_p h g ha0 hb0 he0
    · rw [if_neg g] at hx; cases hx
  · rw [if_neg c1] at hx
    by_cases c2 : l = 108
    · rw [if_pos c2] at hx
      obtain ⟨b0, hb0, rfl⟩ := hb (Or.inr (Or.inl c2))
      by_cases g : lcC s.2.1 (nI b0) = true
      · rw [if_pos g] at hx
        cases hx
        exact sch_l h g ha0 hb0
      · rw [if_neg g] at hx; cases hx
    · rw [if_neg c2] at hx
      by_cases c3 : l = 109
      · rw [if_pos c3] at hx
        by_cases g : okp s.1 (nI a0) = true ∧ (b = 9 ∨ okp s.2.1 b = true) ∧ mmS s.1 (s.2.2.2 4) (nI a0).toNatClampNeg b = true
        · rw [if_pos g] at hx
          cases hx
          exact sch_mv h g.2.1
        · rw [if_neg g] at hx; cases hx
      · rw [if_neg c3] at hx
        by_cases c4 : l = 120
        · rw [if_pos c4] at hx
          by_cases g : okp s.1 (nI a0) = true ∧ okp s.1 b = true ∧ ¬ nI a0 = b
          · rw [if_pos g] at hx
            cases hx
            have hN := h.1
            obtain ⟨b0, hb0, rfl⟩ := okp_nI g.2.1 (by omega)
            have := okp_lt g.1 (by omega) (by omega)
            rw [nI_clamp (by omega), nI_clamp (by omega)]
            exact sch_sw h this hb0
          · rw [if_neg g] at hx; cases hx
        · rw [if_neg c4] at hx
          by_cases c5 : l = 107
          · rw [if_pos c5] at hx
            by_cases g : okp s.2.1 (nI a0) = true ∧ 0 < s.2.2.2 7 (nI a0).toNatClampNeg
            · rw [if_pos g] at hx
              cases hx
              have hM := h.2.1
              have := okp_lt g.1 (by omega) (by omega)
              rw [nI_clamp (by omega)] at g ⊢
              exact sch_lo h this g.2
            · rw [if_neg g] at hx; cases hx
          · rw [if_neg c5] at hx
            by_cases g : mkC s.2.1 s.2.2.1 (nI a0) = true
            · rw [if_pos g] at hx
              cases hx
              exact sch_mk h g
            · rw [if_neg g] at hx; cases hx
/-- rows behind the seventh, and what is out of range, stay -/
def fxR (A A2 : Nat → Nat → Int32) : Prop := (∀ r, r = 0 ∨ 8 ≤ r → A2 r = A r) ∧ (∀ c p, c < 4 → 8 ≤ p → A2 (1 + c) p = A (1 + c) p) ∧ ∀ c l, c < 3 → 5 ≤ l → A2 (5 + c) l = A (5 + c) l
theorem fxR_0 {A : Nat → Nat → Int32} : fxR A A := ⟨fun _ _ => rfl, fun _ _ _ _ => rfl, fun _ _ _ _ => rfl⟩
theorem fxR_up {A A2 : Nat → Nat → Int32} {r i : Nat} {v : Int32} (h : fxR A A2) (hr : (1 ≤ r ∧ r ≤ 4 ∧ i < 8) ∨ (5 ≤ r ∧ r ≤ 7 ∧ i < 5)) : fxR A (upA A2 r i v) := by
  refine ⟨fun k hk => ?_, fun c p hc hp => ?_, fun c l hc hl => ?_⟩
  · rw [upA_n _ (by omega), h.1 k hk]
  · rw [upA_at, if_neg (by omega), h.2.1 c p hc hp]
  · rw [upA_at, if_neg (by omega), h.2.2 c l hc hl]
theorem ex_fx {s s' : SS} {A : Nat → Nat → Int32} {l a b e : Int32} (h : schOK s) (hf : fxR A s.2.2.2) (hx : exS s l a b e = some s') : fxR A s'.2.2.2 := by
  have hN := h.1
  have hM := h.2.1
  unfold exS at hx
  by_cases c1 : l = 112
  · rw [if_pos c1] at hx
    by_cases g : pcC s.1 a e = true
    · rw [if_pos g] at hx
      cases hx
      have := (of_decide_eq_true g).2.2
      exact fxR_up (fxR_up (fxR_up (fxR_up hf (by omega)) (by omega)) (by omega)) (by omega)
    · rw [if_neg g] at hx; cases hx
  · rw [if_neg c1] at hx
    by_cases c2 : l = 108
    · rw [if_pos c2] at hx
      by_cases g : lcC s.2.1 b = true
      · rw [if_pos g] at hx
        cases hx
        have := (of_decide_eq_true g).2
        exact fxR_up (fxR_up (fxR_up hf (by omega)) (by omega)) (by omega)
      · rw [if_neg g] at hx; cases hx
    · rw [if_neg c2] at hx
      by_cases c3 : l = 109
      · rw [if_pos c3] at hx
        by_cases g : okp s.1 a = true ∧ (b = 9 ∨ okp s.2.1 b = true) ∧ mmS s.1 (s.2.2.2 4) a.toNatClampNeg b = true
        · rw [if_pos g] at hx
          cases hx
          obtain ⟨j, hj, rfl⟩ := okp_nI g.1 (by omega)
          rw [nI_clamp (by omega)]
          exact fxR_up hf (by omega)
        · rw [if_neg g] at hx; cases hx
      · rw [if_neg c3] at hx
        by_cases c4 : l = 120
        · rw [if_pos c4] at hx
          by_cases g : okp s.1 a = true ∧ okp s.1 b = true ∧ ¬ a = b
          · rw [if_pos g] at hx
            cases hx
            obtain ⟨j, hj, rfl⟩ := okp_nI g.1 (by omega)
            obtain ⟨k, hk, rfl⟩ := okp_nI g.2.1 (by omega)
            rw [nI_clamp (by omega), nI_clamp (by omega)]
            exact fxR_up (fxR_up hf (by omega)) (by omega)
          · rw [if_neg g] at hx; cases hx
        · rw [if_neg c4] at hx
          by_cases c5 : l = 107
          · rw [if_pos c5] at hx
            by_cases g : okp s.2.1 a = true ∧ 0 < s.2.2.2 7 a.toNatClampNeg
            · rw [if_pos g] at hx
              cases hx
              obtain ⟨j, hj, rfl⟩ := okp_nI g.1 (by omega)
              rw [nI_clamp (by omega)]
              exact fxR_up hf (by omega)
            · rw [if_neg g] at hx; cases hx
          · rw [if_neg c5] at hx
            by_cases g : mkC s.2.1 s.2.2.1 a = true
            · rw [if_pos g] at hx
              cases hx
              obtain ⟨j, hj, rfl⟩ := okp_nI (of_decide_eq_true g).1 (by omega)
              show fxR A (upA _ 7 _ _)
              rw [nI_clamp (by omega)]
              exact fxR_up hf (by omega)
            · rw [if_neg g] at hx; cases hx
