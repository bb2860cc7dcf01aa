/-! choices, from the first locker on: the reference -/
def mk2 (c : Nat × Nat) : Nat := 2 ^ c.1 ||| 2 ^ c.2
def rK (N M : Nat) (χ : Chi) (fx : Nat → Int32) : Nat → Nat → Prop
  | 0, s => ∀ k, k < N → Nat.testBit s k = false → mbeS fx k 9 = true
  | m + 1, s => match χ (M - (m + 1)) with
    | none => awl fx N 0 (M - (m + 1)) = true ∧ rK N M χ fx m s
    | some c => c.1 ≤ c.2 ∧ c.2 < N ∧ s &&& mk2 c = 0 ∧ awl fx N (nI (mk2 c)) (M - (m + 1)) = true ∧ rK N M χ fx m (s ||| mk2 c)
def usI (s : Nat) : Nat → Int
  | 0 => 0
  | k + 1 => usI s k + (if Nat.testBit s k then 0 else -20)
def rV (N M : Nat) (A : Nat → Nat → Int32) (χ : Chi) : Nat → Nat → Int
  | 0, s => usI s N
  | m + 1, s => match χ (M - (m + 1)) with
    | none => rV N M A χ m s
    | some c => cI A (M - (m + 1)) c.1 c.2 + rV N M A χ m (s ||| mk2 c)
theorem rK_n {N M m s : Nat} {χ : Chi} {fx : Nat → Int32} (e : χ (M - (m + 1)) = none) : rK N M χ fx (m + 1) s ↔ (awl fx N 0 (M - (m + 1)) = true ∧ rK N M χ fx m s) := by
  conv => lhs; unfold rK
  rw [e]
theorem rK_s {N M m s : Nat} {χ : Chi} {fx : Nat → Int32} {c : Nat × Nat} (e : χ (M - (m + 1)) = some c) : rK N M χ fx (m + 1) s ↔ (c.1 ≤ c.2 ∧ c.2 < N ∧ s &&& mk2 c = 0 ∧ awl fx N (nI (mk2 c)) (M - (m + 1)) = true ∧ rK N M χ fx m (s ||| mk2 c)) := by
  conv => lhs; unfold rK
  rw [e]
theorem rV_n {N M m s : Nat} {A : Nat → Nat → Int32} {χ : Chi} (e : χ (M - (m + 1)) = none) : rV N M A χ (m + 1) s = rV N M A χ m s := by
  conv => lhs; unfold rV
  rw [e]
theorem rV_s {N M m s : Nat} {A : Nat → Nat → Int32} {χ : Chi} {c : Nat × Nat} (e : χ (M - (m + 1)) = some c) : rV N M A χ (m + 1) s = cI A (M - (m + 1)) c.1 c.2 + rV N M A χ m (s ||| mk2 c) := by
  conv => lhs; unfold rV
  rw [e]
theorem rK_cong {N M : Nat} {χ χ' : Chi} {fx : Nat → Int32} : ∀ m s, m ≤ M → (∀ i, M - m ≤ i → i < M → χ' i = χ i) → (rK N M χ' fx m s ↔ rK N M χ fx m s)
  | 0, _, _, _ => Iff.rfl
  | m + 1, s, hm, h => by
    have e := h (M - (m + 1)) (Nat.le_refl _) (by omega)
    cases hx : χ (M - (m + 1)) with
    | none => rw [rK_n (e.trans hx), rK_n hx, rK_cong m s (by omega) (fun i h1 h2 => h i (by omega) h2)]
    | some c => rw [rK_s (e.trans hx), rK_s hx, rK_cong m _ (by omega) (fun i h1 h2 => h i (by omega) h2)]
theorem rV_cong {N M : Nat} {A : Nat → Nat → Int32} {χ χ' : Chi} : ∀ m s, m ≤ M → (∀ i, M - m ≤ i → i < M → χ' i = χ i) → rV N M A χ' m s = rV N M A χ m s
  | 0, _, _, _ => rfl
  | m + 1, s, hm, h => by
    have e := h (M - (m + 1)) (Nat.le_refl _) (by omega)
    cases hx : χ (M - (m + 1)) with
    | none => rw [rV_n (e.trans hx), rV_n hx, rV_cong m s (by omega) (fun i h1 h2 => h i (by omega) h2)]
    | some c => rw [rV_s (e.trans hx), rV_s hx, rV_cong m _ (by omega) (fun i h1 h2 => h i (by omega) h2)]
theorem gr_int (a b : Int32) : a.toInt ≤ (grS a b).toInt ∧ b.toInt ≤ (grS a b).toInt ∧ (grS a b = a ∨ grS a b = b) := by
  unfold grS
  by_cases c : b < a
  · rw [if_pos c]
    have := (i32_lt _ _).mp c
    exact ⟨by omega, by omega, Or.inl rfl⟩
  · rw [if_neg c]
    have := mt (i32_lt _ _).mpr c
    exact ⟨by omega, by omega, Or.inr rfl⟩
theorem addi {x y : Int32} (h1 : -1000000 ≤ x.toInt) (h2 : x.toInt ≤ 1000000) (h3 : -1000000 ≤ y.toInt) (h4 : y.toInt ≤ 1000000) : (x + y).toInt = x.toInt + y.toInt := by
  rw [Int32.toInt_add]
  exact Int.bmod_eq_of_le (by omega) (by omega)
theorem us_bd {s : Nat} : ∀ n : Nat, -20 * (n : Int) ≤ usI s n ∧ usI s n ≤ 0
  | 0 => ⟨by show (-20 : Int) * ((0 : Nat) : Int) ≤ 0; decide, Int.le_refl _⟩
  | n + 1 => by
    have := us_bd (s := s) n
    unfold usI
    split <;> omega
theorem p0_spec {N s : Nat} {fx : Nat → Int32} : ∀ n : Nat, n ≤ 8 → (-9999 * (n : Int) ≤ (pl0S N fx s n).toInt ∧ (pl0S N fx s n).toInt ≤ 0) ∧ ((∀ k, k < n → Nat.testBit s k = false → mbeS fx k 9 = true) → (pl0S N fx s n).toInt = usI s n) ∧ ((∀ k, k < n → Nat.testBit s k = false → mbeS fx k 9 = true) ∨ (pl0S N fx s n).toInt ≤ -9999)
  | 0, _ => ⟨⟨by show (-9999 : Int) * ((0 : Nat) : Int) ≤ (0 : Int32).toInt; decide, by show (0 : Int32).toInt ≤ 0; decide⟩, fun _ => rfl, Or.inl fun k hk => by omega⟩
  | n + 1, hn => by
    obtain ⟨⟨b1, b2⟩, b3, b4⟩ := p0_spec (N := N) (s := s) (fx := fx) n (by omega)
    unfold pl0S usI
    by_cases c : Nat.testBit s n = true
    · rw [if_pos c, if_pos c, addi (by omega) (by omega) (by decide) (by decide)]
      show ((_ ≤ (pl0S N fx s n).toInt + 0) ∧ _) ∧ _
      refine ⟨⟨by omega, by show (pl0S N fx s n).toInt + 0 ≤ 0; omega⟩, fun h => ?_, ?_⟩
      · have := b3 (fun k hk ht => h k (by omega) ht)
        show (pl0S N fx s n).toInt + 0 = usI s n + 0
        omega
      · rcases b4 with b4 | b4
        · exact Or.inl fun k hk ht => by
            by_cases e : k = n
            · rw [e, c] at ht
              cases ht
            · exact b4 k (by omega) ht
        · right
          show (pl0S N fx s n).toInt + 0 ≤ -9999
          omega
    · rw [if_neg c, if_neg c]
      have c' : Nat.testBit s n = false := by
        cases h : Nat.testBit s n with
        | true => exact absurd h c
        | false => rfl
      by_cases c2 : mbeS fx n 9 = true
      · rw [if_pos c2, addi (by omega) (by omega) (by decide) (by decide)]
        show ((_ ≤ (pl0S N fx s n).toInt + -20) ∧ _) ∧ _
        refine ⟨⟨by omega, by show (pl0S N fx s n).toInt + -20 ≤ 0; omega⟩, fun h => ?_, ?_⟩
        · have := b3 (fun k hk ht => h k (by omega) ht)
          show (pl0S N fx s n).toInt + -20 = usI s n + -20
          omega
        · rcases b4 with b4 | b4
          · exact Or.inl fun k hk ht => by
              by_cases e : k = n
              · rw [e]; exact c2
              · exact b4 k (by omega) ht
          · right
            show (pl0S N fx s n).toInt + -20 ≤ -9999
            omega
      · rw [if_neg c2, addi (by omega) (by omega) (by decide) (by decide)]
        show ((_ ≤ (pl0S N fx s n).toInt + -9999) ∧ _) ∧ _
        refine ⟨⟨by omega, by show (pl0S N fx s n).toInt + -9999 ≤ 0; omega⟩, fun h => absurd (h n (by omega) c') c2, Or.inr ?_⟩
        show (pl0S N fx s n).toInt + -9999 ≤ -9999
        omega
section PU
variable {q : SS} {T fx : Nat → Int32} {s l : Nat}
theorem mk_lt {a b : Nat} (ha : a < 8) (hb : b < 8) : mk2 (a, b) < 256 := or_lt8 (p8_lt ha) (p8_lt hb)
theorem pi_spec (h : schOK q) (hl : l < q.2.1) (hs : s < 256) (hT : ∀ i, i < 256 → -200000 ≤ (T i).toInt ∧ (T i).toInt ≤ 200000) {a : Nat} (ha : a < q.1) (z : Int32) : ∀ k, a + k ≤ q.1 → z.toInt ≤ (plIn q.2.2.2 T fx q.1 l s a z k).toInt ∧
    (∀ b, a ≤ b → b < a + k → s &&& mk2 (a, b) = 0 → awl fx q.1 (nI (mk2 (a, b))) l = true → cI q.2.2.2 l a b + (T (s ||| mk2 (a, b))).toInt ≤ (plIn q.2.2.2 T fx q.1 l s a z k).toInt) ∧
    (plIn q.2.2.2 T fx q.1 l s a z k = z ∨ ∃ b, a ≤ b ∧ b < a + k ∧ s &&& mk2 (a, b) = 0 ∧ awl fx q.1 (nI (mk2 (a, b))) l = true ∧ (plIn q.2.2.2 T fx q.1 l s a z k).toInt = cI q.2.2.2 l a b + (T (s ||| mk2 (a, b))).toInt)
  | 0, _ => ⟨Int.le_refl _, fun b h1 h2 => by omega, Or.inl rfl⟩
  | k + 1, hk => by
    have hN := h.1
    obtain ⟨i1, i2, i3⟩ := pi_spec h hl hs hT ha z k (by omega)
    have keep : ¬ (s &&& mk2 (a, a + k) = 0 ∧ awl fx q.1 (nI (mk2 (a, a + k))) l = true) → z.toInt ≤ (plIn q.2.2.2 T fx q.1 l s a z k).toInt ∧
      (∀ b, a ≤ b → b < a + (k + 1) → s &&& mk2 (a, b) = 0 → awl fx q.1 (nI (mk2 (a, b))) l = true → cI q.2.2.2 l a b + (T (s ||| mk2 (a, b))).toInt ≤ (plIn q.2.2.2 T fx q.1 l s a z k).toInt) ∧
      (plIn q.2.2.2 T fx q.1 l s a z k = z ∨ ∃ b, a ≤ b ∧ b < a + (k + 1) ∧ s &&& mk2 (a, b) = 0 ∧ awl fx q.1 (nI (mk2 (a, b))) l = true ∧ (plIn q.2.2.2 T fx q.1 l s a z k).toInt = cI q.2.2.2 l a b + (T (s ||| mk2 (a, b))).toInt) := fun hn =>
      ⟨i1, fun b h1 h2 h3 h4 => by
        by_cases e : b = a + k
        · subst e
          exact absurd ⟨h3, h4⟩ hn
        · exact i2 b h1 (by omega) h3 h4, i3.imp id fun ⟨b, h1, h2, h3⟩ => ⟨b, h1, by omega, h3⟩⟩
    by_cases c : s &&& mk2 (a, a + k) = 0
    · by_cases c2 : awl fx q.1 (nI (mk2 (a, a + k))) l = true
      · have e : plIn q.2.2.2 T fx q.1 l s a z (k + 1) = grS (plIn q.2.2.2 T fx q.1 l s a z k) (ciS q.2.2.2 a (a + k) l + T (s ||| mk2 (a, a + k))) := (if_pos c).trans (if_pos c2)
        rw [e]
        obtain ⟨t1, t2⟩ := ci_bd h ha (b := a + k) (by omega) hl
        obtain ⟨t3, t4⟩ := hT (s ||| mk2 (a, a + k)) (or_lt8 hs (mk_lt (by omega) (by omega)))
        have es : (ciS q.2.2.2 a (a + k) l + T (s ||| mk2 (a, a + k))).toInt = cI q.2.2.2 l a (a + k) + (T (s ||| mk2 (a, a + k))).toInt := by
          unfold cI at t1 t2 ⊢
          exact addi (by omega) (by omega) (by omega) (by omega)
        obtain ⟨m1, m2, m3⟩ := gr_int (plIn q.2.2.2 T fx q.1 l s a z k) (ciS q.2.2.2 a (a + k) l + T (s ||| mk2 (a, a + k)))
        rw [es] at m2
        refine ⟨by omega, fun b h1 h2 h3 h4 => ?_, ?_⟩
        · by_cases e : b = a + k
          · subst e; exact m2
          · exact Int.le_trans (i2 b h1 (by omega) h3 h4) m1
        · rcases m3 with m3 | m3
          · rw [m3]
            exact i3.imp id fun ⟨b, h1, h2, h3⟩ => ⟨b, h1, by omega, h3⟩
          · exact Or.inr ⟨a + k, by omega, by omega, c, c2, by rw [m3, es]⟩
      · have e : plIn q.2.2.2 T fx q.1 l s a z (k + 1) = plIn q.2.2.2 T fx q.1 l s a z k := (if_pos c).trans (if_neg c2)
        rw [e]
        exact keep (fun z => c2 z.2)
    · have e : plIn q.2.2.2 T fx q.1 l s a z (k + 1) = plIn q.2.2.2 T fx q.1 l s a z k := if_neg c
      rw [e]
      exact keep (fun z => c z.1)
theorem po_spec (h : schOK q) (hl : l < q.2.1) (hs : s < 256) (hT : ∀ i, i < 256 → -200000 ≤ (T i).toInt ∧ (T i).toInt ≤ 200000) (z : Int32) : ∀ a, a ≤ q.1 → z.toInt ≤ (plOut q.2.2.2 T fx q.1 l s z a).toInt ∧
    (∀ a' b, a' < a → a' ≤ b → b < q.1 → s &&& mk2 (a', b) = 0 → awl fx q.1 (nI (mk2 (a', b))) l = true → cI q.2.2.2 l a' b + (T (s ||| mk2 (a', b))).toInt ≤ (plOut q.2.2.2 T fx q.1 l s z a).toInt) ∧
    (plOut q.2.2.2 T fx q.1 l s z a = z ∨ ∃ a' b, a' < a ∧ a' ≤ b ∧ b < q.1 ∧ s &&& mk2 (a', b) = 0 ∧ awl fx q.1 (nI (mk2 (a', b))) l = true ∧ (plOut q.2.2.2 T fx q.1 l s z a).toInt = cI q.2.2.2 l a' b + (T (s ||| mk2 (a', b))).toInt)
  | 0, _ => ⟨Int.le_refl _, fun a' b h1 => by omega, Or.inl rfl⟩
  | a + 1, ha => by
    obtain ⟨i1, i2, i3⟩ := po_spec h hl hs hT z a (by omega)
    obtain ⟨j1, j2, j3⟩ := pi_spec (fx := fx) h hl hs hT (a := a) (by omega) (plOut q.2.2.2 T fx q.1 l s z a) (q.1 - a) (by omega)
    show z.toInt ≤ (plIn q.2.2.2 T fx q.1 l s a (plOut q.2.2.2 T fx q.1 l s z a) (q.1 - a)).toInt ∧ _
    refine ⟨Int.le_trans i1 j1, fun a' b h1 h2 h3 h4 h5 => ?_, ?_⟩
    · by_cases e : a' = a
      · subst e
        exact j2 b h2 (by omega) h4 h5
      · exact Int.le_trans (i2 a' b (by omega) h2 h3 h4 h5) j1
    · rcases j3 with j3 | ⟨b, h1, h2, h3⟩
      · show plIn q.2.2.2 T fx q.1 l s a (plOut q.2.2.2 T fx q.1 l s z a) (q.1 - a) = z ∨ _
        rw [show plOut q.2.2.2 T fx q.1 l s z (a + 1) = plOut q.2.2.2 T fx q.1 l s z a from j3, j3]
        exact i3.imp id fun ⟨a', b, h1, h2⟩ => ⟨a', b, by omega, h2⟩
      · exact Or.inr ⟨a, b, by omega, h1, by omega, h3⟩
theorem pl_all (h : schOK q) {fx : Nat → Int32} : ∀ m, m ≤ q.2.1 → ∀ s, s < 256 → (-100000 - 200 * (m : Int) ≤ (plR q.1 q.2.1 q.2.2.2 fx m s).toInt ∧ (plR q.1 q.2.1 q.2.2.2 fx m s).toInt ≤ 200 * (m : Int)) ∧
    (∀ χ : Chi, rK q.1 q.2.1 χ fx m s → rV q.1 q.2.1 q.2.2.2 χ m s ≤ (plR q.1 q.2.1 q.2.2.2 fx m s).toInt) ∧ ((plR q.1 q.2.1 q.2.2.2 fx m s).toInt ≤ -9999 + 200 * (m : Int) ∨ ∃ χ : Chi, rK q.1 q.2.1 χ fx m s ∧ rV q.1 q.2.1 q.2.2.2 χ m s = (plR q.1 q.2.1 q.2.2.2 fx m s).toInt)
  | 0, _, s, hs => by
    have hN := h.1
    obtain ⟨⟨b1, b2⟩, b3, b4⟩ := p0_spec (N := q.1) (s := s) (fx := fx) q.1 hN
    show (_ ≤ (pl0S q.1 fx s q.1).toInt ∧ (pl0S q.1 fx s q.1).toInt ≤ _) ∧ (∀ χ : Chi, rK q.1 q.2.1 χ fx 0 s → usI s q.1 ≤ (pl0S q.1 fx s q.1).toInt) ∧ ((pl0S q.1 fx s q.1).toInt ≤ _ ∨ ∃ χ : Chi, rK q.1 q.2.1 χ fx 0 s ∧ usI s q.1 = (pl0S q.1 fx s q.1).toInt)
    refine ⟨⟨by omega, by omega⟩, fun χ hc => by rw [b3 hc]; exact Int.le_refl _, ?_⟩
    rcases b4 with b4 | b4
    · exact Or.inr ⟨fun _ => none, b4, (b3 b4).symm⟩
    · exact Or.inl (by omega)
  | m + 1, hm, s, hs => by
    have hM := h.2.1
    have hN := h.1
    have ih := pl_all h (fx := fx) m (by omega)
    have hT : ∀ i, i < 256 → -200000 ≤ (plR q.1 q.2.1 q.2.2.2 fx m i).toInt ∧ (plR q.1 q.2.1 q.2.2.2 fx m i).toInt ≤ 200000 := fun i hi => by
      have := (ih i hi).1
      omega
    obtain ⟨o1, o2, o3⟩ := po_spec (fx := fx) h (l := q.2.1 - (m + 1)) (by omega) hs hT (if awl fx q.1 0 (q.2.1 - (m + 1)) then plR q.1 q.2.1 q.2.2.2 fx m s else -9999) q.1 (Nat.le_refl _)
    have e : plOut q.2.2.2 (plR q.1 q.2.1 q.2.2.2 fx m) fx q.1 (q.2.1 - (m + 1)) s (if awl fx q.1 0 (q.2.1 - (m + 1)) then plR q.1 q.2.1 q.2.2.2 fx m s else -9999) q.1 = plR q.1 q.2.1 q.2.2.2 fx (m + 1) s := rfl
    rw [e] at o1 o2 o3
    have b0 : -100000 - 200 * (m : Int) ≤ (if awl fx q.1 0 (q.2.1 - (m + 1)) then plR q.1 q.2.1 q.2.2.2 fx m s else -9999).toInt ∧ (if awl fx q.1 0 (q.2.1 - (m + 1)) then plR q.1 q.2.1 q.2.2.2 fx m s else -9999).toInt ≤ 200 * (m : Int) := by
      by_cases c : awl fx q.1 0 (q.2.1 - (m + 1)) = true
      · rw [if_pos c]
        exact (ih s hs).1
      · rw [if_neg c]
        show _ ≤ (-9999 : Int) ∧ (-9999 : Int) ≤ _
        omega
    refine ⟨?_, fun χ hc => ?_, ?_⟩
    · rcases o3 with o3 | ⟨a, b, h1, h2, h3, h4, h5, o3⟩
      · rw [o3]
        omega
      · have := (ih (s ||| mk2 (a, b)) (or_lt8 hs (mk_lt (by omega) (by omega)))).1
        have := ci_bd h (a := a) (b := b) (l := q.2.1 - (m + 1)) h1 h3 (by omega)
        omega
    · cases hx : χ (q.2.1 - (m + 1)) with
      | none =>
        obtain ⟨z1, z2⟩ := (rK_n hx).mp hc
        rw [rV_n hx]
        rw [if_pos z1] at o1
        exact Int.le_trans ((ih s hs).2.1 χ z2) o1
      | some c =>
        obtain ⟨z1, z2, z3, z4, z5⟩ := (rK_s hx).mp hc
        rw [rV_s hx]
        have y1 := (ih (s ||| mk2 c) (or_lt8 hs (mk_lt (a := c.1) (b := c.2) (by omega) (by omega)))).2.1 χ z5
        have y2 := o2 c.1 c.2 (by omega) z1 z2 z3 z4
        have y3 : mk2 (c.1, c.2) = mk2 c := rfl
        rw [y3] at y2
        omega
    · rcases o3 with o3 | ⟨a, b, h1, h2, h3, h4, h5, o3⟩
      · by_cases c : awl fx q.1 0 (q.2.1 - (m + 1)) = true
        · rw [if_pos c] at o3
          rw [o3]
          rcases (ih s hs).2.2 with y | ⟨χ, y1, y2⟩
          · left
            omega
          · right
            refine ⟨fun i => if i = q.2.1 - (m + 1) then none else χ i, ?_, ?_⟩
            · rw [rK_n (if_pos rfl), rK_cong m s (χ := χ) (by omega) (fun i hi hi2 => if_neg (by omega))]
              exact ⟨c, y1⟩
            · rw [rV_n (if_pos rfl), rV_cong m s (χ := χ) (by omega) (fun i hi hi2 => if_neg (by omega)), y2]
        · rw [if_neg c] at o3
          left
          rw [o3]
          show (-9999 : Int) ≤ _
          omega
      · have hb := ci_bd h (a := a) (b := b) (l := q.2.1 - (m + 1)) h1 h3 (by omega)
        rcases (ih (s ||| mk2 (a, b)) (or_lt8 hs (mk_lt (by omega) (by omega)))).2.2 with y | ⟨χ, y1, y2⟩
        · left
          omega
        · right
          refine ⟨fun i => if i = q.2.1 - (m + 1) then some (a, b) else χ i, ?_, ?_⟩
          · rw [rK_s (c := (a, b)) (if_pos rfl), rK_cong m _ (χ := χ) (by omega) (fun i hi hi2 => if_neg (by omega))]
            exact ⟨h2, h3, h4, h5, y1⟩
          · rw [rV_s (c := (a, b)) (if_pos rfl), rV_cong m _ (χ := χ) (by omega) (fun i hi hi2 => if_neg (by omega)), y2, o3]
end PU
