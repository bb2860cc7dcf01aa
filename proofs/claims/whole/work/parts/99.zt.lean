/-! choices, from the last locker on -/
def inn (χ : Chi) (l p : Nat) : Bool := match χ l with
  | none => false
  | some c => p == c.1 || p == c.2
def cOK (N : Nat) (χ : Chi) : Nat → Nat → Prop
  | 0, _ => True
  | l + 1, s => match χ l with
    | none => cOK N χ l s
    | some c => c.1 ≤ c.2 ∧ c.2 < N ∧ Nat.testBit s c.1 = true ∧ Nat.testBit s c.2 = true ∧ cOK N χ l (clrN (clrN s c.1) c.2)
def cV (A : Nat → Nat → Int32) (χ : Chi) : Nat → Nat → Int
  | 0, s => (wnS s 8).toInt
  | l + 1, s => match χ l with
    | none => cV A χ l s
    | some c => cV A χ l (clrN (clrN s c.1) c.2) + wwI A l c.1 c.2
theorem cOK_cong {N : Nat} {χ χ' : Chi} : ∀ l s, (∀ i, i < l → χ' i = χ i) → (cOK N χ' l s ↔ cOK N χ l s)
  | 0, _, _ => Iff.rfl
  | l + 1, s, h => by
    unfold cOK
    rw [h l (by omega)]
    cases χ l with
    | none => exact cOK_cong l s (fun i hi => h i (by omega))
    | some c =>
      show (_ ∧ _ ∧ _ ∧ _ ∧ cOK N χ' l _) ↔ (_ ∧ _ ∧ _ ∧ _ ∧ cOK N χ l _)
      rw [cOK_cong l _ (fun i hi => h i (by omega))]
theorem cV_cong {A : Nat → Nat → Int32} {χ χ' : Chi} : ∀ l s, (∀ i, i < l → χ' i = χ i) → cV A χ' l s = cV A χ l s
  | 0, _, _ => rfl
  | l + 1, s, h => by
    unfold cV
    rw [h l (by omega)]
    cases χ l with
    | none => exact cV_cong l s (fun i hi => h i (by omega))
    | some c =>
      show cV A χ' l _ + _ = cV A χ l _ + _
      rw [cV_cong l _ (fun i hi => h i (by omega))]
theorem cOK_n {N l s : Nat} {χ : Chi} (e : χ l = none) : cOK N χ (l + 1) s ↔ cOK N χ l s := by
  conv => lhs; unfold cOK
  rw [e]
theorem cOK_s {N l s : Nat} {χ : Chi} {a b : Nat} (e : χ l = some (a, b)) : cOK N χ (l + 1) s ↔ (a ≤ b ∧ b < N ∧ Nat.testBit s a = true ∧ Nat.testBit s b = true ∧ cOK N χ l (clrN (clrN s a) b)) := by
  conv => lhs; unfold cOK
  rw [e]
theorem cV_n {A : Nat → Nat → Int32} {l s : Nat} {χ : Chi} (e : χ l = none) : cV A χ (l + 1) s = cV A χ l s := by
  conv => lhs; unfold cV
  rw [e]
theorem cV_s {A : Nat → Nat → Int32} {l s : Nat} {χ : Chi} {a b : Nat} (e : χ l = some (a, b)) : cV A χ (l + 1) s = cV A χ l (clrN (clrN s a) b) + wwI A l a b := by
  conv => lhs; unfold cV
  rw [e]
def nvI (p : Nat) : Int := -335544320 - hI p 7
theorem wn_tab : ∀ p, p < 8 → (woS (-20) + lpS 7 p).toInt = nvI p ∧ -350224384 ≤ nvI p ∧ nvI p ≤ 0 := by decide +kernel
/-- a sum over a set -/
def suS (s : Nat) (f : Nat → Int) : Nat → Int
  | 0 => 0
  | k + 1 => suS s f k + (if Nat.testBit s k then f k else 0)
theorem wn_su {s : Nat} : ∀ k, k ≤ 8 → (wnS s k).toInt = suS s nvI k ∧ -350224384 * (k : Int) ≤ suS s nvI k ∧ suS s nvI k ≤ 0
  | 0, _ => ⟨rfl, by show (-350224384 : Int) * ((0 : Nat) : Int) ≤ 0; decide, Int.le_refl _⟩
  | k + 1, hk => by
    obtain ⟨e, h1, h2⟩ := wn_su (s := s) k (by omega)
    obtain ⟨t1, t2, t3⟩ := wn_tab k (by omega)
    unfold wnS suS
    by_cases c : Nat.testBit s k = true
    · rw [if_pos c, if_pos c]
      refine ⟨?_, by omega, by omega⟩
      rw [add_int (by omega) (by omega) (by omega) (by omega), e, t1]
    · rw [if_neg c, if_neg c]
      exact ⟨by omega, by omega, by omega⟩
theorem wl_all {q : SS} (h : schOK q) : ∀ l, l ≤ q.2.1 → ∀ s, s < 256 → (-3000000000 - 2000000000 * (l : Int) ≤ (wlT q.1 q.2.2.2 l s).toInt ∧ (wlT q.1 q.2.2.2 l s).toInt ≤ 3000000000 + 2000000000 * (l : Int)) ∧
    (∀ χ : Chi, cOK q.1 χ l s → cV q.2.2.2 χ l s ≤ (wlT q.1 q.2.2.2 l s).toInt) ∧ ∃ χ : Chi, cOK q.1 χ l s ∧ cV q.2.2.2 χ l s = (wlT q.1 q.2.2.2 l s).toInt
  | 0, _, s, hs => by
    obtain ⟨e, h1, h2⟩ := wn_su (s := s) 8 (Nat.le_refl _)
    refine ⟨?_, fun χ _ => Int.le_refl _, fun _ => none, trivial, rfl⟩
    show -3000000000 - 2000000000 * ((0 : Nat) : Int) ≤ (wnS s 8).toInt ∧ (wnS s 8).toInt ≤ _
    omega
  | l + 1, hl, s, hs => by
    have hM := h.2.1
    have hN := h.1
    have ih := wl_all h l (by omega)
    by_cases c0 : s = 0
    · subst c0
      have e : wlT q.1 q.2.2.2 (l + 1) 0 = wlT q.1 q.2.2.2 l 0 := by
        show (if (0 : Nat) = 0 then wlT q.1 q.2.2.2 l 0 else waS q.1 q.2.2.2 (fun p => trS q.2.2.2 p l) (wlT q.1 q.2.2.2 l) l 0 q.1) = _
        exact if_pos rfl
      obtain ⟨b1, b2, χ, b3, b4⟩ := ih 0 (by omega)
      rw [e]
      refine ⟨by omega, fun χ hc => ?_, fun i => if i = l then none else χ i, ?_, ?_⟩
      · cases hx : χ l with
        | none =>
          rw [cV_n hx]
          exact b2 χ ((cOK_n hx).mp hc)
        | some c =>
          have z := (cOK_s (a := c.1) (b := c.2) hx).mp hc
          rw [Nat.zero_testBit] at z
          exact absurd z.2.2.1 (by decide)
      · rw [cOK_n (if_pos rfl), cOK_cong l 0 (χ := χ) (fun i hi => if_neg (by omega))]
        exact b3
      · rw [cV_n (if_pos rfl), cV_cong l 0 (χ := χ) (fun i hi => if_neg (by omega))]
        exact b4
    · have e : wlT q.1 q.2.2.2 (l + 1) s = waS q.1 q.2.2.2 (fun p => trS q.2.2.2 p l) (wlT q.1 q.2.2.2 l) l s q.1 := if_neg c0
      have hW : ∀ i, i < 256 → -100000000000 ≤ (wlT q.1 q.2.2.2 l i).toInt ∧ (wlT q.1 q.2.2.2 l i).toInt ≤ 100000000000 := fun i hi => by
        have := (ih i hi).1
        omega
      obtain ⟨w1, w2, w3⟩ := wa_spec (s := s) h (l := l) (by omega) hs hW q.1 (Nat.le_refl _)
      rw [← e] at w1 w2 w3
      have bw : ∀ a b, a < q.1 → b < q.1 → -2000000000 ≤ wwI q.2.2.2 l a b ∧ wwI q.2.2.2 l a b ≤ 2000000000 := fun a b ha hb => by
        by_cases c : a = b
        · subst c
          exact (one_w h ha (by omega)).2
        · exact (two_w h ha hb c (by omega)).2
      refine ⟨?_, fun χ hc => ?_, ?_⟩
      · rcases w3 with w3 | ⟨a, b, h1, h2, h3, h4, h5, w3⟩
        · have := (ih s hs).1
          omega
        · have := (ih (clrN (clrN s a) b) (clr_lt (clr_lt hs))).1
          have := bw a b h1 h3
          unfold wcI at w3
          omega
      · cases hx : χ l with
        | none =>
          rw [cV_n hx]
          exact Int.le_trans ((ih s hs).2.1 χ ((cOK_n hx).mp hc)) w1
        | some c =>
          obtain ⟨z1, z2, z3, z4, z5⟩ := (cOK_s (a := c.1) (b := c.2) hx).mp hc
          rw [cV_s (a := c.1) (b := c.2) hx]
          have y1 := (ih (clrN (clrN s c.1) c.2) (clr_lt (clr_lt hs))).2.1 χ z5
          have y2 := w2 c.1 c.2 (by omega) z1 z2 z3 z4
          unfold wcI at y2
          omega
      · rcases w3 with w3 | ⟨a, b, h1, h2, h3, h4, h5, w3⟩
        · obtain ⟨χ, b3, b4⟩ := (ih s hs).2.2
          refine ⟨fun i => if i = l then none else χ i, ?_, ?_⟩
          · rw [cOK_n (if_pos rfl), cOK_cong l s (χ := χ) (fun i hi => if_neg (by omega))]
            exact b3
          · rw [cV_n (if_pos rfl), cV_cong l s (χ := χ) (fun i hi => if_neg (by omega)), b4, w3]
        · obtain ⟨χ, b3, b4⟩ := (ih (clrN (clrN s a) b) (clr_lt (clr_lt hs))).2.2
          refine ⟨fun i => if i = l then some (a, b) else χ i, ?_, ?_⟩
          · rw [cOK_s (a := a) (b := b) (if_pos rfl), cOK_cong l _ (χ := χ) (fun i hi => if_neg (by omega))]
            exact ⟨h2, h3, h4, h5, b3⟩
          · rw [cV_s (a := a) (b := b) (if_pos rfl), cV_cong l _ (χ := χ) (fun i hi => if_neg (by omega)), b4, w3]
            rfl
/-! places -/
def plc (χ : Chi) : Nat → Nat → Nat
  | 0, _ => 7
  | l + 1, p => if inn χ l p then l else plc χ l p
def hvI (p l : Nat) : Int := (if l = 7 then -335544320 else 0) - hI p l
def ccI (A : Nat → Nat → Int32) (χ : Chi) (l : Nat) : Int := match χ l with
  | none => 0
  | some c => cI A l c.1 c.2
def sI (f : Nat → Int) : Nat → Int
  | 0 => 0
  | n + 1 => sI f n + f n
theorem su_cong {s : Nat} {f g : Nat → Int} : ∀ k, (∀ p, p < k → Nat.testBit s p = true → f p = g p) → suS s f k = suS s g k
  | 0, _ => rfl
  | k + 1, h => by
    unfold suS
    rw [su_cong k (fun p hp => h p (by omega))]
    by_cases c : Nat.testBit s k = true
    · rw [if_pos c, if_pos c, h k (by omega) c]
    · rw [if_neg c, if_neg c]
theorem su_clr {s a : Nat} {f : Nat → Int} (hs : s < 256) (ha : Nat.testBit s a = true) (ha8 : a < 8) : ∀ k, k ≤ 8 → suS s f k = suS (clrN s a) f k + (if a < k then f a else 0)
  | 0, _ => by
    rw [if_neg (by omega)]
    rfl
  | k + 1, hk => by
    unfold suS
    rw [su_clr hs ha ha8 k (by omega), clr_t s hs a ha8 k (by omega)]
    by_cases c : k = a
    · subst c
      rw [if_pos ha, if_neg (Nat.lt_irrefl _), if_pos (Nat.lt_succ_self _), if_neg (by simp)]
      try omega
    · have e : (k == a) = false := by simp [c]
      rw [e]
      show suS (clrN s a) f k + (if a < k then f a else 0) + (if Nat.testBit s k = true then f k else 0) = suS (clrN s a) f k + (if (true && Nat.testBit s k) = true then f k else 0) + (if a < k + 1 then f a else 0)
      rw [Bool.true_and]
      by_cases c2 : a < k
      · rw [if_pos c2, if_pos (show a < k + 1 by omega)]
        omega
      · rw [if_neg c2, if_neg (show ¬ a < k + 1 by omega)]
        omega
theorem inn_n {χ : Chi} {l p : Nat} (e : χ l = none) : inn χ l p = false := by
  unfold inn
  rw [e]
theorem inn_s {χ : Chi} {l p a b : Nat} (e : χ l = some (a, b)) : inn χ l p = true ↔ p = a ∨ p = b := by
  unfold inn
  rw [e]
  simp
theorem hv_l {p l : Nat} (hl : l < 7) : hvI p l = -hI p l := by
  unfold hvI
  rw [if_neg (by omega)]
  omega
theorem cV_plc {A : Nat → Nat → Int32} {N : Nat} {χ : Chi} (hN : N ≤ 8) : ∀ l, l ≤ 5 → ∀ s, s < 256 → cOK N χ l s → cV A χ l s = 16777216 * sI (ccI A χ) l + suS s (fun p => hvI p (plc χ l p)) 8
  | 0, _, s, hs, _ => by
    show (wnS s 8).toInt = 16777216 * 0 + suS s (fun p => hvI p 7) 8
    rw [(wn_su 8 (Nat.le_refl _)).1, su_cong 8 (g := fun p => hvI p 7) (fun p hp _ => by unfold nvI hvI; rw [if_pos rfl])]
    omega
  | l + 1, hl, s, hs, hc => by
    show _ = 16777216 * (sI (ccI A χ) l + ccI A χ l) + _
    cases hx : χ l with
    | none =>
      rw [cV_n hx, cV_plc hN l (by omega) s hs ((cOK_n hx).mp hc)]
      have e : ccI A χ l = 0 := by
        unfold ccI
        rw [hx]
      rw [e, su_cong 8 (g := fun p => hvI p (plc χ (l + 1) p)) (fun p hp _ => by
        show hvI p (plc χ l p) = hvI p (if inn χ l p then l else plc χ l p)
        rw [inn_n hx]
        rfl)]
      omega
    | some c =>
      obtain ⟨z1, z2, z3, z4, z5⟩ := (cOK_s (a := c.1) (b := c.2) hx).mp hc
      have hs' := clr_lt (a := c.2) (clr_lt (a := c.1) hs)
      rw [cV_s (a := c.1) (b := c.2) hx, cV_plc hN l (by omega) _ hs' z5]
      have e : ccI A χ l = cI A l c.1 c.2 := by
        unfold ccI
        rw [hx]
      have es : suS (clrN (clrN s c.1) c.2) (fun p => hvI p (plc χ l p)) 8 = suS (clrN (clrN s c.1) c.2) (fun p => hvI p (plc χ (l + 1) p)) 8 := su_cong 8 (fun p hp ht => by
        have n1 : p ≠ c.1 ∧ p ≠ c.2 := by
          rw [clr_t _ (clr_lt hs) c.2 (by omega) p hp, clr_t s hs c.1 (by omega) p hp] at ht
          simp at ht
          exact ⟨ht.2.1, ht.1⟩
        show _ = hvI p (if inn χ l p then l else plc χ l p)
        rw [if_neg (fun z => by
          rcases (inn_s (a := c.1) (b := c.2) hx).mp z with z | z
          · exact n1.1 z
          · exact n1.2 z)])
      have f1 : hvI c.1 (plc χ (l + 1) c.1) = -hI c.1 l := by
        show hvI c.1 (if inn χ l c.1 then l else plc χ l c.1) = _
        rw [if_pos ((inn_s (a := c.1) (b := c.2) hx).mpr (Or.inl rfl)), hv_l (by omega)]
      have f2 : hvI c.2 (plc χ (l + 1) c.2) = -hI c.2 l := by
        show hvI c.2 (if inn χ l c.2 then l else plc χ l c.2) = _
        rw [if_pos ((inn_s (a := c.1) (b := c.2) hx).mpr (Or.inr rfl)), hv_l (by omega)]
      rw [es, e, su_clr (f := fun p => hvI p (plc χ (l + 1) p)) hs z3 (by omega) 8 (Nat.le_refl _), if_pos (by omega), f1]
      unfold wwI
      by_cases ce : c.1 = c.2
      · rw [if_pos ce, ← ce, clr_2 hs (by omega)]
        omega
      · have ht : Nat.testBit (clrN s c.1) c.2 = true := by
          rw [clr_t s hs c.1 (by omega) c.2 (by omega)]
          have : (c.2 == c.1) = false := by simp; omega
          rw [this]
          exact z4
        rw [if_neg ce, su_clr (f := fun p => hvI p (plc χ (l + 1) p)) (clr_lt hs) ht (by omega) 8 (Nat.le_refl _), if_pos (by omega), f2]
        omega
