/-! placements, seen from both sides -/
def gOK (N M : Nat) (χ : Chi) : Prop := (∀ l c, l < M → χ l = some c → c.1 ≤ c.2 ∧ c.2 < N) ∧ ∀ l l' p, l < l' → l' < M → inn χ l p = true → inn χ l' p = true → False
theorem inn_c {χ : Chi} {l p : Nat} {c : Nat × Nat} (e : χ l = some c) : inn χ l p = true ↔ p = c.1 ∨ p = c.2 := inn_s (a := c.1) (b := c.2) e
theorem clr_ne {s a p : Nat} (hs : s < 256) (ha : a < 8) (hp : p < 8) : Nat.testBit (clrN s a) p = true ↔ p ≠ a ∧ Nat.testBit s p = true := by
  rw [clr_t s hs a ha p hp]
  simp
theorem cOK_iff {N : Nat} {χ : Chi} (hN : N ≤ 8) : ∀ l s, s < 256 → (cOK N χ l s ↔ (∀ l' c, l' < l → χ l' = some c → c.1 ≤ c.2 ∧ c.2 < N) ∧ (∀ l' p, l' < l → inn χ l' p = true → Nat.testBit s p = true) ∧ ∀ l1 l2 p, l1 < l2 → l2 < l → inn χ l1 p = true → inn χ l2 p = true → False)
  | 0, s, _ => ⟨fun _ => ⟨fun l' c h => by omega, fun l' p h => by omega, fun l1 l2 p h1 h2 => by omega⟩, fun _ => trivial⟩
  | l + 1, s, hs => by
    cases hx : χ l with
    | none =>
      rw [cOK_n hx, cOK_iff hN l s hs]
      constructor
      · rintro ⟨h1, h2, h3⟩
        refine ⟨fun l' c hl hc => ?_, fun l' p hl hi => ?_, fun l1 l2 p a1 a2 i1 i2 => ?_⟩
        · by_cases e : l' = l
          · rw [e, hx] at hc; cases hc
          · exact h1 l' c (by omega) hc
        · by_cases e : l' = l
          · rw [e, inn_n hx] at hi; cases hi
          · exact h2 l' p (by omega) hi
        · by_cases e : l2 = l
          · rw [e, inn_n hx] at i2; cases i2
          · exact h3 l1 l2 p a1 (by omega) i1 i2
      · rintro ⟨h1, h2, h3⟩
        exact ⟨fun l' c hl => h1 l' c (by omega), fun l' p hl => h2 l' p (by omega), fun l1 l2 p a1 a2 => h3 l1 l2 p a1 (by omega)⟩
    | some c =>
      rw [cOK_s (a := c.1) (b := c.2) hx]
      constructor
      · rintro ⟨z1, z2, z3, z4, z5⟩
        obtain ⟨h1, h2, h3⟩ := (cOK_iff hN l _ (clr_lt (clr_lt hs))).mp z5
        have hb8 : ∀ l' p, l' < l → inn χ l' p = true → p < 8 := fun l' p hl hi => by
          cases hy : χ l' with
          | none => rw [inn_n hy] at hi; cases hi
          | some d =>
            have := h1 l' d hl hy
            rcases (inn_c hy).mp hi with e | e <;> omega
        have hs' : ∀ l' p, l' < l → inn χ l' p = true → p ≠ c.1 ∧ p ≠ c.2 ∧ Nat.testBit s p = true := fun l' p hl hi => by
          have t := h2 l' p hl hi
          have p8 := hb8 l' p hl hi
          rw [clr_ne (clr_lt hs) (by omega) p8, clr_ne hs (by omega) p8] at t
          exact ⟨t.2.1, t.1, t.2.2⟩
        refine ⟨fun l' d hl hc => ?_, fun l' p hl hi => ?_, fun l1 l2 p a1 a2 i1 i2 => ?_⟩
        · by_cases e : l' = l
          · rw [e, hx] at hc
            cases hc
            exact ⟨z1, z2⟩
          · exact h1 l' d (by omega) hc
        · by_cases e : l' = l
          · rw [e] at hi
            rcases (inn_c hx).mp hi with e | e
            · rw [e]; exact z3
            · rw [e]; exact z4
          · exact (hs' l' p (by omega) hi).2.2
        · by_cases e : l2 = l
          · rw [e] at i2
            have := hs' l1 p (by omega) i1
            rcases (inn_c hx).mp i2 with e | e
            · exact this.1 e
            · exact this.2.1 e
          · exact h3 l1 l2 p a1 (by omega) i1 i2
      · rintro ⟨h1, h2, h3⟩
        obtain ⟨z1, z2⟩ := h1 l c (by omega) hx
        refine ⟨z1, z2, h2 l c.1 (by omega) ((inn_c hx).mpr (Or.inl rfl)), h2 l c.2 (by omega) ((inn_c hx).mpr (Or.inr rfl)), (cOK_iff hN l _ (clr_lt (clr_lt hs))).mpr ⟨fun l' d hl => h1 l' d (by omega), fun l' p hl hi => ?_, fun l1 l2 p a1 a2 => h3 l1 l2 p a1 (by omega)⟩⟩
        have p8 : p < 8 := by
          cases hy : χ l' with
          | none => rw [inn_n hy] at hi; cases hi
          | some d =>
            have := h1 l' d (by omega) hy
            rcases (inn_c hy).mp hi with e | e <;> omega
        have n0 : ¬ inn χ l p = true := fun z => h3 l' l p hl (by omega) hi z
        rw [inn_c hx] at n0
        rw [clr_ne (clr_lt hs) (by omega) p8, clr_ne hs (by omega) p8]
        exact ⟨fun z => n0 (Or.inr z), fun z => n0 (Or.inl z), h2 l' p (by omega) hi⟩
theorem full_tb {N p : Nat} : Nat.testBit (2 ^ N - 1) p = decide (p < N) := Nat.testBit_two_pow_sub_one N p
theorem full_lt {N : Nat} (hN : N ≤ 8) : 2 ^ N - 1 < 256 := by
  have : 2 ^ N ≤ 2 ^ 8 := Nat.pow_le_pow_right (by decide) hN
  omega
theorem cOK_g {N M : Nat} {χ : Chi} (hN : N ≤ 8) : cOK N χ M (2 ^ N - 1) ↔ gOK N M χ := by
  rw [cOK_iff hN M _ (full_lt hN)]
  constructor
  · rintro ⟨h1, -, h3⟩
    exact ⟨fun l c hl hc => h1 l c hl hc, fun l l' p a1 a2 => h3 l l' p a1 a2⟩
  · rintro ⟨h1, h3⟩
    refine ⟨fun l c hl hc => h1 l c hl hc, fun l p hl hi => ?_, fun l l' p a1 a2 => h3 l l' p a1 a2⟩
    rw [full_tb]
    cases hy : χ l with
    | none => rw [inn_n hy] at hi; cases hi
    | some d =>
      have := h1 l d hl hy
      rcases (inn_c hy).mp hi with e | e <;> exact decide_eq_true (by omega)
/-! the reference's -/
def mkO (o : Option (Nat × Nat)) : Nat := match o with
  | none => 0
  | some c => mk2 c
theorem mk_tab : ∀ s, s < 256 → ∀ a, a < 8 → ∀ b, b < 8 → (s &&& mk2 (a, b) = 0 ↔ Nat.testBit s a = false ∧ Nat.testBit s b = false) := by decide +kernel
theorem mk_t {s p : Nat} {c : Nat × Nat} : Nat.testBit (s ||| mk2 c) p = true ↔ Nat.testBit s p = true ∨ p = c.1 ∨ p = c.2 := by
  unfold mk2
  rw [Nat.testBit_or, Nat.testBit_or, Nat.testBit_two_pow, Nat.testBit_two_pow]
  simp only [Bool.or_eq_true, decide_eq_true_eq]
  constructor
  · rintro (z | z | z)
    · exact Or.inl z
    · exact Or.inr (Or.inl z.symm)
    · exact Or.inr (Or.inr z.symm)
  · rintro (z | z | z)
    · exact Or.inl z
    · exact Or.inr (Or.inl z.symm)
    · exact Or.inr (Or.inr z.symm)
theorem bf {b : Bool} : b = false ↔ ¬ b = true := by cases b <;> simp
theorem rK_iff {N M : Nat} {χ : Chi} {fx : Nat → Int32} (hN : N ≤ 8) : ∀ m s, m ≤ M → s < 256 → (rK N M χ fx m s ↔ (∀ l c, M - m ≤ l → l < M → χ l = some c → c.1 ≤ c.2 ∧ c.2 < N) ∧ (∀ l p, M - m ≤ l → l < M → inn χ l p = true → Nat.testBit s p = false) ∧ (∀ l1 l2 p, M - m ≤ l1 → l1 < l2 → l2 < M → inn χ l1 p = true → inn χ l2 p = true → False) ∧ (∀ l, M - m ≤ l → l < M → awl fx N (nI (mkO (χ l))) l = true) ∧ ∀ k, k < N → Nat.testBit s k = false → (∀ l, M - m ≤ l → l < M → inn χ l k = false) → mbeS fx k 9 = true)
  | 0, s, _, _ => ⟨fun h => ⟨fun l c h1 h2 => by omega, fun l p h1 h2 => by omega, fun l1 l2 p h1 h2 h3 => by omega, fun l h1 h2 => by omega, fun k hk ht _ => h k hk ht⟩, fun h k hk ht => h.2.2.2.2 k hk ht (fun l h1 h2 => by omega)⟩
  | m + 1, s, hm, hs => by
    cases hx : χ (M - (m + 1)) with
    | none =>
      rw [rK_n hx, rK_iff hN m s (by omega) hs]
      constructor
      · rintro ⟨h0, h1, h2, h3, h4, h5⟩
        refine ⟨fun l c a1 a2 hc => ?_, fun l p a1 a2 hi => ?_, fun l1 l2 p a1 a2 a3 i1 i2 => ?_, fun l a1 a2 => ?_, fun k hk ht hu => h5 k hk ht (fun l b1 b2 => hu l (by omega) b2)⟩
        · by_cases e : l = M - (m + 1)
          · rw [e, hx] at hc; cases hc
          · exact h1 l c (by omega) a2 hc
        · by_cases e : l = M - (m + 1)
          · rw [e, inn_n hx] at hi; cases hi
          · exact h2 l p (by omega) a2 hi
        · by_cases e : l1 = M - (m + 1)
          · rw [e, inn_n hx] at i1; cases i1
          · exact h3 l1 l2 p (by omega) a2 a3 i1 i2
        · by_cases e : l = M - (m + 1)
          · rw [e, hx]; exact h0
          · exact h4 l (by omega) a2
      · rintro ⟨h1, h2, h3, h4, h5⟩
        have h0 := h4 (M - (m + 1)) (Nat.le_refl _) (by omega)
        rw [hx] at h0
        refine ⟨h0, fun l c a1 => h1 l c (by omega), fun l p a1 => h2 l p (by omega), fun l1 l2 p a1 => h3 l1 l2 p (by omega), fun l a1 => h4 l (by omega), fun k hk ht hu => h5 k hk ht (fun l b1 b2 => ?_)⟩
        by_cases e : l = M - (m + 1)
        · rw [e]; exact inn_n hx
        · exact hu l (by omega) b2
    | some c =>
      rw [rK_s hx]
      constructor
      · rintro ⟨z1, z2, z3, z4, z5⟩
        have hc8 : mk2 c < 256 := mk_lt (a := c.1) (b := c.2) (by omega) (by omega)
        obtain ⟨t1, t2⟩ := (mk_tab s hs c.1 (by omega) c.2 (by omega)).mp z3
        obtain ⟨h1, h2, h3, h4, h5⟩ := (rK_iff hN m _ (by omega) (or_lt8 hs hc8)).mp z5
        have hs' : ∀ l p, M - m ≤ l → l < M → inn χ l p = true → p ≠ c.1 ∧ p ≠ c.2 ∧ Nat.testBit s p = false := fun l p a1 a2 hi => by
          have t := h2 l p a1 a2 hi
          rw [bf, mk_t] at t
          exact ⟨fun z => t (Or.inr (Or.inl z)), fun z => t (Or.inr (Or.inr z)), bf.mpr (fun z => t (Or.inl z))⟩
        refine ⟨fun l d a1 a2 hc => ?_, fun l p a1 a2 hi => ?_, fun l1 l2 p a1 a2 a3 i1 i2 => ?_, fun l a1 a2 => ?_, fun k hk ht hu => h5 k hk ?_ (fun l b1 b2 => hu l (by omega) b2)⟩
        · by_cases e : l = M - (m + 1)
          · rw [e, hx] at hc
            cases hc
            exact ⟨z1, z2⟩
          · exact h1 l d (by omega) a2 hc
        · by_cases e : l = M - (m + 1)
          · rw [e] at hi
            rcases (inn_c hx).mp hi with e | e
            · rw [e]; exact t1
            · rw [e]; exact t2
          · exact (hs' l p (by omega) a2 hi).2.2
        · by_cases e : l1 = M - (m + 1)
          · rw [e] at i1
            have := hs' l2 p (by omega) a3 i2
            rcases (inn_c hx).mp i1 with e | e
            · exact this.1 e
            · exact this.2.1 e
          · exact h3 l1 l2 p (by omega) a2 a3 i1 i2
        · by_cases e : l = M - (m + 1)
          · rw [e, hx]; exact z4
          · exact h4 l (by omega) a2
        · rw [bf, mk_t]
          have n0 := hu (M - (m + 1)) (Nat.le_refl _) (by omega)
          rw [bf, inn_c hx] at n0
          rintro (z | z)
          · rw [z] at ht; cases ht
          · exact n0 z
      · rintro ⟨h1, h2, h3, h4, h5⟩
        obtain ⟨z1, z2⟩ := h1 (M - (m + 1)) c (Nat.le_refl _) (by omega) hx
        have hc8 : mk2 c < 256 := mk_lt (a := c.1) (b := c.2) (by omega) (by omega)
        have h0 := h4 (M - (m + 1)) (Nat.le_refl _) (by omega)
        rw [hx] at h0
        refine ⟨z1, z2, (mk_tab s hs c.1 (by omega) c.2 (by omega)).mpr ⟨h2 _ c.1 (Nat.le_refl _) (by omega) ((inn_c hx).mpr (Or.inl rfl)), h2 _ c.2 (Nat.le_refl _) (by omega) ((inn_c hx).mpr (Or.inr rfl))⟩, h0, (rK_iff hN m _ (by omega) (or_lt8 hs hc8)).mpr ⟨fun l d a1 => h1 l d (by omega), fun l p a1 a2 hi => ?_, fun l1 l2 p a1 => h3 l1 l2 p (by omega), fun l a1 => h4 l (by omega), fun k hk ht hu => h5 k hk ?_ (fun l b1 b2 => ?_)⟩⟩
        · have n0 : ¬ inn χ (M - (m + 1)) p = true := fun z => h3 _ l p (Nat.le_refl _) (by omega) a2 z hi
          rw [inn_c hx] at n0
          rw [bf, mk_t]
          rintro (z | z)
          · have := h2 l p (by omega) a2 hi
            rw [z] at this; cases this
          · exact n0 z
        · rw [bf, mk_t] at ht
          exact bf.mpr (fun z => ht (Or.inl z))
        · by_cases e : l = M - (m + 1)
          · rw [bf, mk_t] at ht
            rw [e, bf, inn_c hx]
            exact fun z => ht (Or.inr z)
          · exact hu l (by omega) b2
/-- what is fixed is kept -/
def fcO (N M : Nat) (χ : Chi) (fx : Nat → Int32) : Prop := (∀ l, l < M → awl fx N (nI (mkO (χ l))) l = true) ∧ ∀ k, k < N → (∀ l, l < M → inn χ l k = false) → mbeS fx k 9 = true
theorem rK_g {N M : Nat} {χ : Chi} {fx : Nat → Int32} (hN : N ≤ 8) : rK N M χ fx M 0 ↔ gOK N M χ ∧ fcO N M χ fx := by
  rw [rK_iff hN M 0 (Nat.le_refl _) (by omega), Nat.sub_self]
  constructor
  · rintro ⟨h1, -, h3, h4, h5⟩
    exact ⟨⟨fun l c hl hc => h1 l c (Nat.zero_le _) hl hc, fun l l' p a1 a2 => h3 l l' p (Nat.zero_le _) a1 a2⟩, fun l hl => h4 l (Nat.zero_le _) hl, fun k hk hu => h5 k hk (Nat.zero_testBit k) (fun l _ hl => hu l hl)⟩
  · rintro ⟨⟨h1, h3⟩, h4, h5⟩
    exact ⟨fun l c _ hl hc => h1 l c hl hc, fun l p _ _ _ => Nat.zero_testBit p, fun l l' p _ a1 a2 => h3 l l' p a1 a2, fun l _ hl => h4 l hl, fun k hk _ hu => h5 k hk (fun l hl => hu l (Nat.zero_le _) hl)⟩
