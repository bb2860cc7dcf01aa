theorem ndS_le (ch : Int32) : ndS ch ≤ 3 := by
  unfold ndS
  split
  · decide
  · split
    · decide
    · split <;> decide
theorem st_1 {c : Nat → Int32} {a : Nat} (h : ¬ ltrS (c a) = true) : stG c a = false ∧ stP c a = a := by
  have h : ltrS (c a) = false := Bool.eq_false_iff.mpr h
  refine ⟨by unfold stG; rw [h]; rfl, by unfold stP; rw [if_pos h]⟩
theorem st_2 {c : Nat → Int32} {a m : Nat} (h : ltrS (c a) = true) (h1 : ∀ j, j < m → dgS (c (a + 1 + j)) = true) (h2 : m < ndS (c a)) (h3 : dgS (c (a + 1 + m)) = false) : stG c a = false ∧ stP c a = a + 1 + m := by
  have e := rdK_stop (ndS (c a)) (a + 1) m h1 h2 h3
  refine ⟨?_, ?_⟩
  · unfold stG
    rw [e, show decide (m = ndS (c a)) = false from decide_eq_false (by omega), Bool.and_false]
    rfl
  · unfold stP
    rw [if_neg (by rw [h]; decide), e, if_pos h2]
theorem st_3 {c : Nat → Int32} {a m : Nat} (h : ltrS (c a) = true) (h1 : ∀ j, j < m → dgS (c (a + 1 + j)) = true) (h2 : m = ndS (c a)) (h3 : ¬ c (a + 1 + m) = 59) : stG c a = false ∧ stP c a = a + 1 + m := by
  have e := rdK_all (ndS (c a)) (a + 1) (h2 ▸ h1)
  subst h2
  refine ⟨?_, ?_⟩
  · unfold stG
    rw [show decide (c (a + 1 + ndS (c a)) = 59) = false from decide_eq_false h3, Bool.and_false]
  · unfold stP
    rw [if_neg (by rw [h]; decide), e, if_neg (by omega), if_neg h3]
theorem st_4 {c : Nat → Int32} {a m : Nat} (h : ltrS (c a) = true) (h1 : ∀ j, j < m → dgS (c (a + 1 + j)) = true) (h2 : m = ndS (c a)) (h3 : c (a + 1 + m) = 59) : stG c a = true ∧ stP c a = a + 1 + m + 1 := by
  have e := rdK_all (ndS (c a)) (a + 1) (h2 ▸ h1)
  subst h2
  refine ⟨?_, ?_⟩
  · unfold stG
    rw [h, e, show decide (c (a + 1 + ndS (c a)) = 59) = true from decide_eq_true h3, show decide (ndS (c a) = ndS (c a)) = true from decide_eq_true rfl]
    rfl
  · unfold stP
    rw [if_neg (by rw [h]; decide), e, if_neg (by omega), if_pos h3]
/-- one statement read -/
def sdR (c : Nat → Int32) (a k : Nat) (F : Nat → Int32) (A : Nat → Nat → Int32) (F' : Nat → Int32) (A' : Nat → Nat → Int32) : Prop :=
  F' 18 = nI (stP c a) ∧ F' 19 = (if stG c a = true then 0 else 1) ∧ F' 20 = nI (k + 1) ∧ (∀ j, j ≠ 18 → j ≠ 19 → j ≠ 20 → F' j = F j) ∧ (∀ r, r ≠ 14 → r ≠ 15 → r ≠ 16 → A' r = A r) ∧ (∀ i, A' 14 i = if i = k then nI a else A 14 i) ∧ (∀ i, A' 15 i = if i = k then c a else A 15 i) ∧ (∀ i, i < 3 * k → A' 16 i = A 16 i) ∧ (stG c a = true → ∀ i, i < ndS (c a) → A' 16 (3 * k + i) = c (a + 1 + i) - 48)
/-- what the digits' loop has done -/
def stW (c : Nat → Int32) (a k m : Nat) (F : Nat → Int32) (A : Nat → Nat → Int32) (F1 : Nat → Int32) (A1 : Nat → Nat → Int32) : Prop :=
  (∀ j, j ≠ 18 → j ≠ 19 → F1 j = F j) ∧ (∀ r, r ≠ 16 → A1 r = upA (upA A 14 k (nI a)) 15 k (c a) r) ∧ (∀ i, i < 3 * k → A1 16 i = A 16 i) ∧ ∀ j, j < m → A1 16 (3 * k + j) = c (a + 1 + j) - 48
theorem stW_0 {c : Nat → Int32} {a k : Nat} {F F1 : Nat → Int32} {A : Nat → Nat → Int32} (h : ∀ j, j ≠ 18 → j ≠ 19 → F1 j = F j) : stW c a k 0 F A F1 (upA (upA A 14 k (nI a)) 15 k (c a)) :=
  ⟨h, fun _ _ => rfl, fun i _ => by rw [upA_n _ (by decide), upA_n _ (by decide)], fun j hj => absurd hj (by omega)⟩
theorem stW_s {c : Nat → Int32} {a k m i : Nat} {F F1 F2 : Nat → Int32} {A A1 : Nat → Nat → Int32} {v : Int32} (h : stW c a k m F A F1 A1) (hi : m = i) (h2 : ∀ j, j ≠ 18 → j ≠ 19 → F2 j = F1 j) (hv : v = c (a + 1 + i) - 48) : stW c a k (i + 1) F A F2 (upA A1 16 (3 * k + i) v) := by
  subst hi
  refine ⟨fun j h3 h4 => by rw [h2 j h3 h4, h.1 j h3 h4], fun r hr => by rw [upA_n _ hr, h.2.1 r hr], fun i hi => ?_, fun j hj => ?_⟩
  · rw [upA_at, if_neg (by omega), h.2.2.1 i hi]
  · rw [upA_at]
    by_cases e : j = m
    · rw [if_pos ⟨rfl, by omega⟩, hv, e]
    · rw [if_neg (by omega), h.2.2.2 j (by omega)]
theorem stW_b {c : Nat → Int32} {a k m i : Nat} {F F1 F2 : Nat → Int32} {A A1 : Nat → Nat → Int32} {v : Int32} (h : stW c a k m F A F1 A1) (hi : m = i) (h2 : ∀ j, j ≠ 18 → j ≠ 19 → F2 j = F1 j) : stW c a k i F A F2 (upA A1 16 (3 * k + i) v) := by
  subst hi
  refine ⟨fun j h3 h4 => by rw [h2 j h3 h4, h.1 j h3 h4], fun r hr => by rw [upA_n _ hr, h.2.1 r hr], fun i hi => ?_, fun j hj => ?_⟩
  · rw [upA_at, if_neg (by omega), h.2.2.1 i hi]
  · rw [upA_at, if_neg (by omega), h.2.2.2 j hj]
theorem sdR_of {c : Nat → Int32} {a k m : Nat} {F F1 F' : Nat → Int32} {A A1 : Nat → Nat → Int32} {x y : Int32} {g : Bool} {p : Nat} (h : stW c a k m F A F1 A1) (hs : stG c a = g ∧ stP c a = p) (hx : x = nI p) (hy : y = if g = true then 0 else 1) (hm : g = true → m = ndS (c a)) (e18 : F' 18 = x) (e19 : F' 19 = y) (e20 : F' 20 = nI (k + 1)) (eF : ∀ j, j ≠ 18 → j ≠ 19 → j ≠ 20 → F' j = F1 j) : sdR c a k F A F' A1 := by
  refine ⟨by rw [hs.2, e18, hx], by rw [hs.1, e19, hy], e20, fun j h1 h2 h3 => by rw [eF j h1 h2 h3, h.1 j h1 h2], fun r h1 h2 h3 => by rw [h.2.1 r h3, upA_n _ h2, upA_n _ h1], fun i => ?_, fun i => ?_, h.2.2.1, fun z i hi => ?_⟩
  · rw [h.2.1 14 (by decide), upA_n _ (by decide), upA_s]
  · rw [h.2.1 15 (by decide), upA_s]
    simp only []
    rw [upA_n _ (by decide)]
  · exact h.2.2.2 i (by rw [hm (hs.1 ▸ z)]; exact hi)
/-! what a told statement does to the rows -/
def exQ (s : SS) (l a b e : Int32) (F F' : Nat → Int32) (A' : Nat → Nat → Int32) : Prop := match exS s l a b e with
  | none => F' = F ∧ A' = s.2.2.2
  | some s' => F' 0 = nI s'.1 ∧ F' 5 = nI s'.2.1 ∧ F' 9 = s'.2.2.1 ∧ A' = s'.2.2.2 ∧ ∀ j, j ≠ 0 → j ≠ 5 → j ≠ 9 → F' j = F j
def ctQ (G : GX) (m0 : Mem) (q n : Nat) (F : Nat → Int32) (L : Nat → Nat → Int64) (K : Option Nat) (s : SS) (l a b e : Int32) : RQ := fun r f1 n1 => r = some (.int (if (exS s l a b e).isSome = true then 1 else 0)) ∧ (∃ F' A', exQ s l a b e F F' A' ∧ f1 = mo G m0 q F' A' L K) ∧ n1 = n
section CT
variable {G : GX} {m0 : Mem} {q n : Nat} {F F1 : Nat → Int32} {L : Nat → Nat → Int64} {K : Option Nat} {s s' : SS} {l a b e : Int32}
theorem ct_t (h : exS s l a b e = some s') (h0 : F1 0 = nI s'.1) (h5 : F1 5 = nI s'.2.1) (h9 : F1 9 = s'.2.2.1) (hF : ∀ j, j ≠ 0 → j ≠ 5 → j ≠ 9 → F1 j = F j) : ctQ G m0 q n F L K s l a b e (some (.int 1)) (mo G m0 q F1 s'.2.2.2 L K) n := by
  refine ⟨by rw [h]; rfl, ⟨F1, s'.2.2.2, ?_, rfl⟩, rfl⟩
  unfold exQ
  rw [h]
  exact ⟨h0, h5, h9, rfl, hF⟩
theorem ct_f (h : exS s l a b e = none) : ctQ G m0 q n F L K s l a b e (some (.int 0)) (mo G m0 q F s.2.2.2 L K) n := by
  refine ⟨by rw [h]; rfl, ⟨F, s.2.2.2, ?_, rfl⟩, rfl⟩
  unfold exQ
  rw [h]
  exact ⟨rfl, rfl⟩
theorem ct_i {cnd : Bool} (h : exS s l a b e = if cnd = true then some s' else none) (h0 : F1 0 = nI s'.1) (h5 : F1 5 = nI s'.2.1) (h9 : F1 9 = s'.2.2.1) (hF : ∀ j, j ≠ 0 → j ≠ 5 → j ≠ 9 → F1 j = F j) : ctQ G m0 q n F L K s l a b e (some (.int (if cnd = true then 1 else 0))) (if cnd = true then mo G m0 q F1 s'.2.2.2 L K else mo G m0 q F s.2.2.2 L K) n := by
  by_cases c : cnd = true
  · rw [if_pos c] at h ⊢
    rw [if_pos c]
    exact ct_t h h0 h5 h9 hF
  · rw [if_neg c] at h ⊢
    rw [if_neg c]
    exact ct_f h
end CT
/-- two schools alike -/
def SEq (s s2 : SS) : Prop := s2.1 = s.1 ∧ s2.2.1 = s.2.1 ∧ s2.2.2.1 = s.2.2.1 ∧ EqR s.2.2.2 s2.2.2.2
def OEq : Option SS → Option SS → Prop
  | none, none => True
  | some s, some s2 => SEq s s2
  | _, _ => False
theorem EqR.up {A A2 : Nat → Nat → Int32} (h : EqR A A2) (r i : Nat) (v : Int32) : EqR (upA A r i v) (upA A2 r i v) := by
  intro k hk
  by_cases e : k = r
  · subst e
    rw [upA_s, upA_s, h k hk]
  · rw [upA_n _ e, upA_n _ e, h k hk]
theorem OEq_if {p : Prop} [Decidable p] {s s2 : SS} (h : SEq s s2) : OEq (if p then some s else none) (if p then some s2 else none) := by
  by_cases c : p
  · rw [if_pos c, if_pos c]; exact h
  · rw [if_neg c, if_neg c]; exact True.intro
theorem exS_eq {s s2 : SS} (h : SEq s s2) (l a b e : Int32) : OEq (exS s l a b e) (exS s2 l a b e) := by
  obtain ⟨N, M, P, A⟩ := s
  obtain ⟨N2, M2, P2, A2⟩ := s2
  obtain ⟨h1, h2, h3, h4⟩ := h
  have h1 : N2 = N := h1
  have h2 : M2 = M := h2
  have h3 : P2 = P := h3
  have h4 : EqR A A2 := h4
  subst h1
  subst h2
  subst h3
  unfold exS
  simp only []
  by_cases c1 : l = 112
  · rw [if_pos c1, if_pos c1]
    exact OEq_if ⟨rfl, rfl, rfl, (((h4.up _ _ _).up _ _ _).up _ _ _).up _ _ _⟩
  · rw [if_neg c1, if_neg c1]
    by_cases c2 : l = 108
    · rw [if_pos c2, if_pos c2]
      exact OEq_if ⟨rfl, rfl, rfl, ((h4.up _ _ _).up _ _ _).up _ _ _⟩
    · rw [if_neg c2, if_neg c2]
      by_cases c3 : l = 109
      · rw [if_pos c3, if_pos c3, show A2 4 = A 4 from h4 4 (by decide)]
        exact OEq_if ⟨rfl, rfl, rfl, h4.up _ _ _⟩
      · rw [if_neg c3, if_neg c3]
        by_cases c4 : l = 120
        · rw [if_pos c4, if_pos c4]
          exact OEq_if ⟨rfl, rfl, rfl, h4.sw _ _⟩
        · rw [if_neg c4, if_neg c4]
          by_cases c5 : l = 107
          · rw [if_pos c5, if_pos c5, show A2 7 = A 7 from h4 7 (by decide)]
            exact OEq_if ⟨rfl, rfl, rfl, h4.up _ _ _⟩
          · rw [if_neg c5, if_neg c5]
            exact OEq_if ⟨rfl, rfl, rfl, h4.up _ _ _⟩
/-- only the numbers that a statement has count -/
theorem exS_dig {s : SS} {l a b e a2 b2 e2 : Int32} (h1 : a2 = a) (h2 : 1 < ndS l → b2 = b) (h3 : 2 < ndS l → e2 = e) : exS s l a2 b2 e2 = exS s l a b e := by
  subst h1
  unfold exS
  by_cases c1 : l = 112
  · rw [if_pos c1, if_pos c1, h2 (by rw [c1]; decide), h3 (by rw [c1]; decide)]
  · rw [if_neg c1, if_neg c1]
    by_cases c2 : l = 108
    · rw [if_pos c2, if_pos c2, h2 (by rw [c2]; decide)]
    · rw [if_neg c2, if_neg c2]
      by_cases c3 : l = 109
      · rw [if_pos c3, if_pos c3, h2 (by rw [c3]; decide)]
      · rw [if_neg c3, if_neg c3]
        by_cases c4 : l = 120
        · rw [if_pos c4, if_pos c4, h2 (by rw [c4]; decide)]
        · rw [if_neg c4, if_neg c4]
