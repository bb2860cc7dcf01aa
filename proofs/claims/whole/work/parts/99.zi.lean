/-! A TEXT on both sides -/
/-- two texts that say the same, up to B; where they differ they say nothing -/
def txE (B : Nat) (c c' : Nat → Int32) : Prop := ∀ i, i < B → c i = c' i ∨ (dgS (c i) = false ∧ dgS (c' i) = false ∧ ltrS (c i) = false ∧ ltrS (c' i) = false ∧ ¬ c i = 59 ∧ ¬ c' i = 59 ∧ ndS (c i) = ndS (c' i))
theorem ndS_le3 (ch : Int32) : ndS ch ≤ 3 := by
  unfold ndS
  repeat' split
  all_goals omega
theorem tx_nd {B i : Nat} {c c' : Nat → Int32} (h : txE B c c') (hi : i < B) : ndS (c i) = ndS (c' i) := by
  rcases h i hi with e | e
  · rw [e]
  · exact e.2.2.2.2.2.2
theorem tx_dg {B i : Nat} {c c' : Nat → Int32} (h : txE B c c') (hi : i < B) : dgS (c i) = dgS (c' i) := by
  rcases h i hi with e | e
  · rw [e]
  · rw [e.1, e.2.1]
theorem tx_lt {B i : Nat} {c c' : Nat → Int32} (h : txE B c c') (hi : i < B) : ltrS (c i) = ltrS (c' i) := by
  rcases h i hi with e | e
  · rw [e]
  · rw [e.2.2.1, e.2.2.2.1]
theorem tx_59 {B i : Nat} {c c' : Nat → Int32} (h : txE B c c') (hi : i < B) : c i = 59 ↔ c' i = 59 := by
  rcases h i hi with e | e
  · rw [e]
  · exact ⟨fun z => absurd z e.2.2.2.2.1, fun z => absurd z e.2.2.2.2.2.1⟩
theorem tx_rd {B : Nat} {c c' : Nat → Int32} (h : txE B c c') : ∀ k i, i + k ≤ B → rdK c i k = rdK c' i k
  | 0, _, _ => rfl
  | k + 1, i, hi => by
    unfold rdK
    rw [tx_dg h (by omega), tx_rd h k (i + 1) (by omega)]
theorem tx_st {B a : Nat} {c c' : Nat → Int32} (h : txE B c c') (ha : a + 5 ≤ B) : stG c a = stG c' a ∧ stP c a = stP c' a := by
  have g := ndS_le3 (c' a)
  unfold stG stP
  rw [tx_nd h (by omega), tx_lt h (by omega), tx_rd h _ _ (by omega)]
  have e := tx_59 h (i := a + 1 + ndS (c' a)) (by omega)
  constructor
  · rw [decide_eq_decide.mpr e]
  · by_cases c1 : ltrS (c' a) = false
    · rw [if_pos c1, if_pos c1]
    · rw [if_neg c1, if_neg c1]
      by_cases c2 : rdK c' (a + 1) (ndS (c' a)) < ndS (c' a)
      · rw [if_pos c2, if_pos c2]
      · rw [if_neg c2, if_neg c2]
        by_cases c3 : c' (a + 1 + ndS (c' a)) = 59
        · rw [if_pos c3, if_pos (e.mpr c3)]
        · rw [if_neg c3, if_neg (fun z => c3 (e.mp z))]
theorem tx_ps {B : Nat} {c c' : Nat → Int32} (h : txE B c c') : ∀ k, 5 * k ≤ B → psS c k = psS c' k
  | 0, _ => rfl
  | k + 1, hk => by
    have := psS_le (c := c') k
    show psS c k + 1 + ndS (c (psS c k)) + 1 = psS c' k + 1 + ndS (c' (psS c' k)) + 1
    rw [tx_ps h k (by omega), tx_nd h (by omega)]
theorem tx_sc {B R : Nat} {c c' : Nat → Int32} (h : txE B c c') : ∀ f k, 5 * (k + f) + 5 ≤ B → scS c R f k = scS c' R f k
  | 0, _, _ => rfl
  | f + 1, k, hk => by
    have := psS_le (c := c') k
    unfold scS
    rw [tx_ps h k (by omega), tx_ps h (k + 1) (by omega), (tx_st h (a := psS c' k) (by omega)).1, (tx_st h (a := psS c' k) (by omega)).2, tx_sc h f (k + 1) (by omega)]
theorem exS_arg {s : SS} {l a b e b' e' : Int32} (hb : l = 112 ∨ l = 108 ∨ l = 109 ∨ l = 120 → b = b') (he : l = 112 → e = e') : exS s l a b e = exS s l a b' e' := by
  unfold exS
  by_cases c1 : l = 112
  · rw [hb (Or.inl c1), he c1]
  · rw [if_neg c1, if_neg c1]
    by_cases c2 : l = 108
    · rw [hb (Or.inr (Or.inl c2))]
    · rw [if_neg c2, if_neg c2]
      by_cases c3 : l = 109
      · rw [hb (Or.inr (Or.inr (Or.inl c3)))]
      · rw [if_neg c3, if_neg c3]
        by_cases c4 : l = 120
        · rw [hb (Or.inr (Or.inr (Or.inr c4)))]
        · rw [if_neg c4, if_neg c4]
theorem tx_dge {B i : Nat} {c c' : Nat → Int32} (h : txE B c c') (hi : i < B) (hd : dgS (c i) = true) : c i = c' i := by
  rcases h i hi with e | e
  · exact e
  · rw [e.1] at hd
    cases hd
theorem tx_ex {B a : Nat} {c c' : Nat → Int32} {s : SS} (h : txE B c c') (ha : a + 5 ≤ B) (hg : stG c a = true) : exC c s a = exC c' s a := by
  have hd := (st_next hg).2
  have g := ndS_ge (c a)
  have hl : ltrS (c a) = true := by
    unfold stG at hg
    rw [Bool.and_eq_true, Bool.and_eq_true] at hg
    exact hg.1.1
  have e0 : c a = c' a := by
    rcases h a (by omega) with e | e
    · exact e
    · rw [e.2.2.1] at hl
      cases hl
  unfold exC
  rw [← e0, tx_dge h (i := a + 1) (by omega) (hd 0 (by omega))]
  refine exS_arg (fun z => ?_) (fun z => ?_)
  · rw [tx_dge h (i := a + 2) (by omega) (hd 1 (by rcases z with z | z | z | z <;> rw [z] <;> decide))]
  · rw [tx_dge h (i := a + 3) (by omega) (hd 2 (by rw [z]; decide))]
theorem sc_all {c : Nat → Int32} {R : Nat} : ∀ f k k', scS c R f k = (k', none) → k ≤ k' ∧ k' ≤ k + f ∧ ∀ i, k ≤ i → i < k' → stG c (psS c i) = true
  | 0, k, k', h => by
    cases h
    exact ⟨Nat.le_refl _, Nat.le_refl _, fun i h1 h2 => by omega⟩
  | f + 1, k, k', h => by
    unfold scS at h
    by_cases c1 : stG c (psS c k) = true
    · rw [if_pos c1] at h
      by_cases c2 : psS c (k + 1) < R
      · rw [if_pos c2] at h
        obtain ⟨z1, z2, z3⟩ := sc_all f (k + 1) k' h
        exact ⟨by omega, by omega, fun i h1 h2 => by
          by_cases e : i = k
          · rw [e]; exact c1
          · exact z3 i (by omega) h2⟩
      · rw [if_neg c2] at h
        cases h
        exact ⟨by omega, by omega, fun i h1 h2 => by
          have e : i = k := by omega
          rw [e]; exact c1⟩
    · rw [if_neg c1] at h
      cases h
theorem tx_rn {B : Nat} {c c' : Nat → Int32} (h : txE B c c') : ∀ f k s, 5 * (k + f) + 5 ≤ B → (∀ i, k ≤ i → i < k + f → stG c (psS c i) = true) → rnS c f k s = rnS c' f k s
  | 0, _, _, _, _ => rfl
  | f + 1, k, s, hB, hg => by
    have := psS_le (c := c') k
    have ep := tx_ps h k (by omega)
    unfold rnS
    rw [← ep, tx_ex h (by rw [ep]; omega) (hg k (by omega) (by omega))]
    cases exC c' s (psS c k) with
    | none => rfl
    | some s' => exact tx_rn h f (k + 1) s' (by omega) (fun i h1 h2 => hg i (by omega) (by omega))
theorem tx_schV {B R : Nat} {c c' : Nat → Int32} {s : SS} (h : txE B c c') (hB : 500 ≤ B) : schV c R s = schV c' R s := by
  have e := tx_sc (R := R) h 40 0 (by omega)
  unfold schV
  rw [← e]
  cases hs : scS c R 40 0 with
  | mk k o =>
    cases o with
    | some b => rfl
    | none =>
      obtain ⟨z1, z2, z3⟩ := sc_all 40 0 k hs
      exact tx_rn h k 0 s (by omega) (fun i h1 h2 => z3 i (by omega) (by omega))
theorem tx_row {R d : Nat} {L : Nat → Nat → Int64} {g : Nat → Int32} (h : rowE L d R g) (hR : R ≤ 100) : txE 1000 (ccR g R) (txC L d R) := by
  intro i hi
  unfold ccR txC rdC
  by_cases c : i < R
  · left
    rw [if_pos c, if_pos (nI_okp c (by omega)), nI_clamp (by omega), h i c]
    exact (Int32.toInt32_toInt64 _).symm
  · right
    rw [if_neg c, if_neg (fun z => c (by
      obtain ⟨j, hj, e⟩ := okp_nI z (by omega)
      have := (nI_eq (by omega) (by omega)).mp e
      omega))]
    decide
/-- what comes of the statements is a school again -/
theorem rn_ok {c : Nat → Int32} {A : Nat → Nat → Int32} : ∀ f k s v s', (∀ i, k ≤ i → i < k + f → stG c (psS c i) = true) → schOK s → two2 s.1 (s.2.2.2 4) → fxR A s.2.2.2 → rnS c f k s = (v, some s') → schOK s' ∧ two2 s'.1 (s'.2.2.2 4) ∧ fxR A s'.2.2.2
  | 0, _, s, v, s', _, h1, h2, h3, e => by
    cases e
    exact ⟨h1, h2, h3⟩
  | f + 1, k, s, v, s', hg, h1, h2, h3, e => by
    unfold rnS at e
    cases hx : exC c s (psS c k) with
    | none =>
      rw [hx] at e
      have e2 : (none : Option SS) = some s' := congrArg Prod.snd e
      cases e2
    | some s2 =>
      rw [hx] at e
      exact rn_ok f (k + 1) s2 v s' (fun i z1 z2 => hg i (by omega) (by omega)) (exC_ok h1 (hg k (by omega) (by omega)) hx) (two2_ex h1.1 h2 hx) (ex_fx h1 h3 hx) e
theorem schV_ok {c : Nat → Int32} {R : Nat} {A : Nat → Nat → Int32} {s s' : SS} {v : Int32} (h1 : schOK s) (h2 : two2 s.1 (s.2.2.2 4)) (h3 : fxR A s.2.2.2) (e : schV c R s = (v, some s')) : schOK s' ∧ two2 s'.1 (s'.2.2.2 4) ∧ fxR A s'.2.2.2 := by
  unfold schV at e
  cases hs : scS c R 40 0 with
  | mk k o =>
    rw [hs] at e
    cases o with
    | some b =>
      have e2 : (none : Option SS) = some s' := congrArg Prod.snd e
      cases e2
    | none =>
      obtain ⟨z1, z2, z3⟩ := sc_all 40 0 k hs
      exact rn_ok k 0 s v s' (fun i h1 h2 => z3 i (by omega) (by omega)) h1 h2 h3 e
