/-! the best placing: the class's worths -/
/-- choices: whom each locker gets -/
abbrev Chi : Type := Nat → Option (Nat × Nat)
def cI (A : Nat → Nat → Int32) (l a b : Nat) : Int := (ciS A a b l).toInt
def hI (p l : Nat) : Int := ((l * 8 ^ (7 - p) : Nat) : Int)
def wwI (A : Nat → Nat → Int32) (l a b : Nat) : Int := cI A l a b * 16777216 - hI a l - (if a = b then 0 else hI b l)
theorem wo_tab : ∀ k, k < 201 → (woS (nI k - 100)).toInt = ((k : Int) - 100) * 16777216 := by decide +kernel
theorem wo_int {c : Int32} (h1 : -100 ≤ c.toInt) (h2 : c.toInt ≤ 100) : (woS c).toInt = c.toInt * 16777216 := by
  have e : c = nI (c.toInt + 100).toNat - 100 := by
    apply Int32.toInt_inj.mp
    show _ = (nI _ - nI 100).toInt
    rw [Int32.toInt_sub, nI_toInt (by omega), nI_toInt (by omega), Int.bmod_eq_of_le (by omega) (by omega)]
    omega
  have := wo_tab (c.toInt + 100).toNat (by omega)
  rw [← e] at this
  rw [this]
  omega
theorem lp_tab : ∀ l, l < 8 → ∀ p, p < 8 → (lpS (nI l) p).toInt = -hI p l ∧ 0 ≤ hI p l ∧ hI p l ≤ 14680064 := by decide +kernel
theorem ci_bd {q : SS} (h : schOK q) {a b l : Nat} (ha : a < q.1) (hb : b < q.1) (hl : l < q.2.1) : -100 ≤ cI q.2.2.2 l a b ∧ cI q.2.2.2 l a b ≤ 100 := by
  have hk : kfOK q.1 q.2.2.2 := fun p hp => ⟨(h.2.2.2.2.1 p hp).1, (h.2.2.2.2.1 p hp).2.1⟩
  have tr : ∀ p, p < q.1 → ∃ t, t < 50 ∧ trS q.2.2.2 p l = nI t := fun p hp => by
    obtain ⟨⟨k, hk, ek⟩, -, -⟩ := h.2.2.2.2.1 p hp
    obtain ⟨⟨fa, hf, ef⟩, ab, ha, ea⟩ := h.2.2.2.2.2.1 l hl
    unfold trS
    rw [ek, ef, ea]
    exact ⟨_, (tr_tab k hk fa hf ab ha).2, (tr_tab k hk fa hf ab ha).1⟩
  obtain ⟨t, ht, et⟩ := tr a ha
  obtain ⟨u, hu, eu⟩ := tr b hb
  unfold cI ciS
  by_cases c : a = b
  · rw [if_pos c, et]
    show -100 ≤ (nI 12 - nI t).toInt ∧ _
    rw [show (12 : Int32) - nI t = nI 12 - nI t from rfl, Int32.toInt_sub, nI_toInt (by omega), nI_toInt (by omega), Int.bmod_eq_of_le (by omega) (by omega)]
    omega
  · rw [if_neg c, et, eu]
    obtain ⟨e, hlk⟩ := kf_lk hk ha hb
    rw [e]
    have e1 : (nI (lkK q.2.2.2 a b) - nI t).toInt = (lkK q.2.2.2 a b : Int) - t := by
      rw [Int32.toInt_sub, nI_toInt (by omega), nI_toInt (by omega), Int.bmod_eq_of_le (by omega) (by omega)]
    rw [Int32.toInt_sub, e1, nI_toInt (by omega), Int.bmod_eq_of_le (by omega) (by omega)]
    omega
theorem ml_int (a b : Int64) : a.toInt ≤ (mlS a b).toInt ∧ b.toInt ≤ (mlS a b).toInt ∧ (mlS a b = a ∨ mlS a b = b) := by
  unfold mlS
  by_cases c : a < b
  · rw [if_pos c]
    have := (i64_lt _ _).mp c
    exact ⟨by omega, by omega, Or.inr rfl⟩
  · rw [if_neg c]
    have := mt (i64_lt _ _).mpr c
    exact ⟨by omega, by omega, Or.inl rfl⟩
theorem add_int {x y : Int64} (h1 : -1000000000000 ≤ x.toInt) (h2 : x.toInt ≤ 1000000000000) (h3 : -1000000000000 ≤ y.toInt) (h4 : y.toInt ≤ 1000000000000) : (x + y).toInt = x.toInt + y.toInt := by
  rw [Int64.toInt_add]
  exact Int.bmod_eq_of_le (by omega) (by omega)
section PA
variable {q : SS} {Wl : Nat → Int64} {s l : Nat}
theorem one_w (h : schOK q) {a : Nat} (ha : a < q.1) (hl : l < q.2.1) : (woS (12 - trS q.2.2.2 a l) + lpS (nI l) a).toInt = wwI q.2.2.2 l a a ∧ -2000000000 ≤ wwI q.2.2.2 l a a ∧ wwI q.2.2.2 l a a ≤ 2000000000 := by
  have hN := h.1
  have hM := h.2.1
  obtain ⟨b1, b2⟩ := ci_bd h ha ha hl
  have ec : ciS q.2.2.2 a a l = 12 - trS q.2.2.2 a l := if_pos rfl
  have e1 := wo_int (c := ciS q.2.2.2 a a l) b1 b2
  obtain ⟨e2, e3, e4⟩ := lp_tab l (by omega) a (by omega)
  rw [ec] at e1
  have eq : (12 - trS q.2.2.2 a l).toInt = cI q.2.2.2 l a a := by rw [← ec]; rfl
  rw [eq] at e1
  unfold wwI
  rw [if_pos rfl]
  refine ⟨?_, by omega, by omega⟩
  rw [add_int (by omega) (by omega) (by omega) (by omega)]
  omega
theorem two_w (h : schOK q) {a b : Nat} (ha : a < q.1) (hb : b < q.1) (hab : a ≠ b) (hl : l < q.2.1) : (woS (likS q.2.2.2 a b - trS q.2.2.2 a l - trS q.2.2.2 b l) + lpS (nI l) a + lpS (nI l) b).toInt = wwI q.2.2.2 l a b ∧ -2000000000 ≤ wwI q.2.2.2 l a b ∧ wwI q.2.2.2 l a b ≤ 2000000000 := by
  have hN := h.1
  have hM := h.2.1
  obtain ⟨b1, b2⟩ := ci_bd h ha hb hl
  have ec : ciS q.2.2.2 a b l = likS q.2.2.2 a b - trS q.2.2.2 a l - trS q.2.2.2 b l := if_neg hab
  have e1 := wo_int (c := ciS q.2.2.2 a b l) b1 b2
  obtain ⟨e2, e3, e4⟩ := lp_tab l (by omega) a (by omega)
  obtain ⟨f2, f3, f4⟩ := lp_tab l (by omega) b (by omega)
  rw [ec] at e1
  have eq : (likS q.2.2.2 a b - trS q.2.2.2 a l - trS q.2.2.2 b l).toInt = cI q.2.2.2 l a b := by rw [← ec]; rfl
  rw [eq] at e1
  unfold wwI
  rw [if_neg hab]
  have e5 : (woS (likS q.2.2.2 a b - trS q.2.2.2 a l - trS q.2.2.2 b l) + lpS (nI l) a).toInt = cI q.2.2.2 l a b * 16777216 - hI a l := by
    rw [add_int (by omega) (by omega) (by omega) (by omega)]
    omega
  refine ⟨?_, by omega, by omega⟩
  rw [add_int (by omega) (by omega) (by omega) (by omega)]
  omega
/-- the second one's loop -/
theorem wb_spec (h : schOK q) (hs : s < 256) {a : Nat} (ha : a < q.1) (hl : l < q.2.1) (hW : ∀ i, i < 256 → -100000000000 ≤ (Wl i).toInt ∧ (Wl i).toInt ≤ 100000000000) (x : Int64) : ∀ k, a + 1 + k ≤ q.1 → x.toInt ≤ (wbS q.2.2.2 (fun p => trS q.2.2.2 p l) Wl l s a k x).toInt ∧
    (∀ b, a < b → b < a + 1 + k → Nat.testBit (clrN s a) b = true → (Wl (clrN (clrN s a) b)).toInt + wwI q.2.2.2 l a b ≤ (wbS q.2.2.2 (fun p => trS q.2.2.2 p l) Wl l s a k x).toInt) ∧
    (wbS q.2.2.2 (fun p => trS q.2.2.2 p l) Wl l s a k x = x ∨ ∃ b, a < b ∧ b < a + 1 + k ∧ Nat.testBit (clrN s a) b = true ∧ (wbS q.2.2.2 (fun p => trS q.2.2.2 p l) Wl l s a k x).toInt = (Wl (clrN (clrN s a) b)).toInt + wwI q.2.2.2 l a b)
  | 0, _ => ⟨Int.le_refl _, fun b h1 h2 => by omega, Or.inl rfl⟩
  | k + 1, hk => by
    obtain ⟨i1, i2, i3⟩ := wb_spec h hs ha hl hW x k (by omega)
    unfold wbS
    by_cases c : Nat.testBit (clrN s a) (a + 1 + k) = true
    · rw [if_pos c]
      obtain ⟨t1, t2, t3⟩ := two_w h ha (b := a + 1 + k) (by omega) (by omega) hl
      obtain ⟨w1, w2⟩ := hW (clrN (clrN s a) (a + 1 + k)) (clr_lt (clr_lt hs))
      have es : (Wl (clrN (clrN s a) (a + 1 + k)) + (woS (likS q.2.2.2 a (a + 1 + k) - trS q.2.2.2 a l - trS q.2.2.2 (a + 1 + k) l) + lpS (nI l) a + lpS (nI l) (a + 1 + k))).toInt = (Wl (clrN (clrN s a) (a + 1 + k))).toInt + wwI q.2.2.2 l a (a + 1 + k) := by
        rw [add_int (by omega) (by omega) (by omega) (by omega), t1]
      obtain ⟨m1, m2, m3⟩ := ml_int (wbS q.2.2.2 (fun p => trS q.2.2.2 p l) Wl l s a k x) (Wl (clrN (clrN s a) (a + 1 + k)) + (woS (likS q.2.2.2 a (a + 1 + k) - trS q.2.2.2 a l - trS q.2.2.2 (a + 1 + k) l) + lpS (nI l) a + lpS (nI l) (a + 1 + k)))
      rw [es] at m2
      refine ⟨by omega, fun b h1 h2 h3 => ?_, ?_⟩
      · by_cases e : b = a + 1 + k
        · rw [e]; exact m2
        · exact Int.le_trans (i2 b h1 (by omega) h3) m1
      · rcases m3 with m3 | m3
        · rw [m3]
          exact i3.imp id fun ⟨b, h1, h2, h3⟩ => ⟨b, h1, by omega, h3⟩
        · exact Or.inr ⟨a + 1 + k, by omega, by omega, c, by rw [m3, es]⟩
    · rw [if_neg c]
      refine ⟨i1, fun b h1 h2 h3 => ?_, i3.imp id fun ⟨b, h1, h2, h3⟩ => ⟨b, h1, by omega, h3⟩⟩
      by_cases e : b = a + 1 + k
      · rw [e] at h3
        exact absurd h3 c
      · exact i2 b h1 (by omega) h3
/-- what the rest of a set is worth, and who goes in -/
def wcI (A : Nat → Nat → Int32) (Wl : Nat → Int64) (l s a b : Nat) : Int := (Wl (clrN (clrN s a) b)).toInt + wwI A l a b
theorem clr_2 {s a : Nat} (h : s < 256) (ha : a < 8) : clrN (clrN s a) a = clrN s a := by
  have := clr_t s h a ha a ha
  unfold clrN at this ⊢
  rw [if_neg (by rw [this]; simp)]
theorem wa_spec (h : schOK q) (hl : l < q.2.1) (hs : s < 256) (hW : ∀ i, i < 256 → -100000000000 ≤ (Wl i).toInt ∧ (Wl i).toInt ≤ 100000000000) : ∀ a, a ≤ q.1 → (Wl s).toInt ≤ (waS q.1 q.2.2.2 (fun p => trS q.2.2.2 p l) Wl l s a).toInt ∧
    (∀ a' b, a' < a → a' ≤ b → b < q.1 → Nat.testBit s a' = true → Nat.testBit s b = true → wcI q.2.2.2 Wl l s a' b ≤ (waS q.1 q.2.2.2 (fun p => trS q.2.2.2 p l) Wl l s a).toInt) ∧
    ((waS q.1 q.2.2.2 (fun p => trS q.2.2.2 p l) Wl l s a).toInt = (Wl s).toInt ∨ ∃ a' b, a' < a ∧ a' ≤ b ∧ b < q.1 ∧ Nat.testBit s a' = true ∧ Nat.testBit s b = true ∧ (waS q.1 q.2.2.2 (fun p => trS q.2.2.2 p l) Wl l s a).toInt = wcI q.2.2.2 Wl l s a' b)
  | 0, _ => ⟨Int.le_refl _, fun a' b h1 => by omega, Or.inl rfl⟩
  | a + 1, ha => by
    have hN := h.1
    obtain ⟨i1, i2, i3⟩ := wa_spec h hl hs hW a (by omega)
    unfold waS
    by_cases c : Nat.testBit s a = true
    · rw [if_pos c]
      obtain ⟨t1, t2, t3⟩ := one_w h (a := a) (by omega) hl
      obtain ⟨w1, w2⟩ := hW (clrN s a) (clr_lt hs)
      have es : (Wl (clrN s a) + (woS (12 - trS q.2.2.2 a l) + lpS (nI l) a)).toInt = wcI q.2.2.2 Wl l s a a := by
        unfold wcI
        rw [clr_2 hs (by omega), add_int (by omega) (by omega) (by omega) (by omega), t1]
      obtain ⟨m1, m2, m3⟩ := ml_int (waS q.1 q.2.2.2 (fun p => trS q.2.2.2 p l) Wl l s a) (Wl (clrN s a) + (woS (12 - trS q.2.2.2 a l) + lpS (nI l) a))
      rw [es] at m2
      obtain ⟨b1, b2, b3⟩ := wb_spec (s := s) h hs (a := a) (by omega) hl hW (mlS (waS q.1 q.2.2.2 (fun p => trS q.2.2.2 p l) Wl l s a) (Wl (clrN s a) + (woS (12 - trS q.2.2.2 a l) + lpS (nI l) a))) (q.1 - (a + 1)) (by omega)
      have hct : ∀ b, a < b → b < 8 → Nat.testBit (clrN s a) b = Nat.testBit s b := fun b h1 h2 => by
        rw [clr_t s hs a (by omega) b h2]
        have : (b == a) = false := by simp; omega
        rw [this]; rfl
      refine ⟨by omega, fun a' b h1 h2 h3 h4 h5 => ?_, ?_⟩
      · by_cases e : a' = a
        · subst e
          by_cases e2 : b = a'
          · subst e2
            exact Int.le_trans m2 b1
          · exact b2 b (by omega) (by omega) (by rw [hct b (by omega) (by omega)]; exact h5)
        · exact Int.le_trans (i2 a' b (by omega) h2 h3 h4 h5) (Int.le_trans m1 b1)
      · rcases b3 with b3 | ⟨b, h1, h2, h3, h4⟩
        · rw [b3]
          rcases m3 with m3 | m3
          · rw [m3]
            exact i3.imp id fun ⟨a', b, h1, h2⟩ => ⟨a', b, by omega, h2⟩
          · exact Or.inr ⟨a, a, by omega, Nat.le_refl _, by omega, c, c, by rw [m3, es]⟩
        · exact Or.inr ⟨a, b, by omega, by omega, by omega, c, by rw [← hct b h1 (by omega)]; exact h3, h4⟩
    · rw [if_neg c]
      refine ⟨i1, fun a' b h1 h2 h3 h4 h5 => ?_, i3.imp id fun ⟨a', b, h1, h2⟩ => ⟨a', b, by omega, h2⟩⟩
      by_cases e : a' = a
      · rw [e] at h4
        exact absurd h4 c
      · exact i2 a' b (by omega) h2 h3 h4 h5
end PA
