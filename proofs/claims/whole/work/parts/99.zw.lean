/-! what a placement is worth -/
theorem plc_cases {χ : Chi} : ∀ l p, plc χ l p = 7 ∨ (plc χ l p < l ∧ inn χ (plc χ l p) p = true)
  | 0, _ => Or.inl rfl
  | l + 1, p => by
    show (if inn χ l p then l else plc χ l p) = 7 ∨ _
    by_cases c : inn χ l p = true
    · right
      have e : plc χ (l + 1) p = l := if_pos c
      rw [e]
      exact ⟨by omega, c⟩
    · have e : plc χ (l + 1) p = plc χ l p := if_neg c
      rw [if_neg c, e]
      exact (plc_cases l p).imp id fun z => ⟨by omega, z.2⟩
theorem plc_7 {χ : Chi} {l p : Nat} (hl : l ≤ 7) : plc χ l p = 7 ↔ ∀ l', l' < l → inn χ l' p = false := by
  induction l with
  | zero => exact ⟨fun _ l' h => by omega, fun _ => rfl⟩
  | succ l ih =>
    have ih := ih (by omega)
    by_cases c : inn χ l p = true
    · have e : plc χ (l + 1) p = l := if_pos c
      rw [e]
      exact ⟨fun z => by omega, fun z => by
        have := z l (by omega)
        rw [c] at this
        cases this⟩
    · have e : plc χ (l + 1) p = plc χ l p := if_neg c
      rw [e, ih]
      exact ⟨fun z l' h => by
        by_cases e : l' = l
        · rw [e]; exact bf.mpr c
        · exact z l' (by omega), fun z l' h => z l' (by omega)⟩
theorem plc_in {N M : Nat} {χ : Chi} (h : gOK N M χ) {l p : Nat} (hl : l < M) (hi : inn χ l p = true) (hM : M ≤ 5) : plc χ M p = l := by
  rcases plc_cases (χ := χ) M p with z | ⟨z1, z2⟩
  · have := (plc_7 (by omega)).mp z l hl
    rw [hi] at this
    cases this
  · by_cases e : plc χ M p = l
    · exact e
    · exfalso
      by_cases e2 : plc χ M p < l
      · exact h.2 _ l p e2 hl z2 hi
      · exact h.2 l _ p (by omega) z1 hi z2
def totI (A : Nat → Nat → Int32) (N M : Nat) (χ : Chi) : Int := sI (ccI A χ) M + sI (fun p => if plc χ M p = 7 then -20 else 0) N
def cdN (π : Nat → Nat) : Nat → Nat
  | 0 => 0
  | n + 1 => cdN π n + π n * 8 ^ (7 - n)
theorem su_full {N : Nat} {f : Nat → Int} : ∀ k, suS (2 ^ N - 1) f k = if k ≤ N then sI f k else sI f N
  | 0 => by rw [if_pos (Nat.zero_le _)]; rfl
  | k + 1 => by
    show suS (2 ^ N - 1) f k + (if Nat.testBit (2 ^ N - 1) k = true then f k else 0) = _
    rw [su_full k, full_tb]
    by_cases c : k < N
    · rw [if_pos (by omega), if_pos (decide_eq_true c), if_pos (by omega)]
      rfl
    · rw [if_neg (show ¬ decide (k < N) = true by simp; omega), if_neg (show ¬ k + 1 ≤ N by omega)]
      by_cases c2 : k ≤ N
      · have : k = N := by omega
        rw [if_pos c2, this]
        omega
      · rw [if_neg c2]
        omega
theorem hv_sum {π : Nat → Nat} : ∀ n, sI (fun p => hvI p (π p)) n = 16777216 * sI (fun p => if π p = 7 then -20 else 0) n - (cdN π n : Int)
  | 0 => rfl
  | n + 1 => by
    show sI (fun p => hvI p (π p)) n + hvI n (π n) = 16777216 * (sI (fun p => if π p = 7 then -20 else 0) n + (if π n = 7 then -20 else 0)) - ((cdN π n + π n * 8 ^ (7 - n) : Nat) : Int)
    rw [hv_sum n]
    unfold hvI hI
    by_cases c : π n = 7
    · rw [if_pos c, if_pos c]
      omega
    · rw [if_neg c, if_neg c]
      omega
theorem cV_tot {A : Nat → Nat → Int32} {N M : Nat} {χ : Chi} (hN : N ≤ 8) (hM : M ≤ 5) (h : gOK N M χ) : cV A χ M (2 ^ N - 1) = 16777216 * totI A N M χ - (cdN (plc χ M) N : Int) := by
  rw [cV_plc hN M hM _ (full_lt hN) ((cOK_g hN).mpr h), su_full, hv_sum, hv_sum]
  unfold totI
  by_cases c : 8 ≤ N
  · have : N = 8 := by omega
    subst this
    rw [if_pos c]
    omega
  · rw [if_neg c]
    omega
def pu (χ : Chi) (M : Nat) : Nat → Nat → Nat → Bool
  | 0, s, p => Nat.testBit s p
  | m + 1, s, p => inn χ (M - (m + 1)) p || pu χ M m s p
theorem pu_or {χ : Chi} {M s p : Nat} {c : Nat × Nat} : ∀ m, pu χ M m (s ||| mk2 c) p = ((p == c.1 || p == c.2) || pu χ M m s p)
  | 0 => by
    show Nat.testBit (s ||| mk2 c) p = ((p == c.1 || p == c.2) || Nat.testBit s p)
    rw [Bool.eq_iff_iff, mk_t]
    simp
    constructor
    · rintro (z | z)
      · exact Or.inr z
      · exact Or.inl z
    · rintro (z | z)
      · exact Or.inr z
      · exact Or.inl z
  | m + 1 => by
    show (inn χ (M - (m + 1)) p || pu χ M m (s ||| mk2 c) p) = ((p == c.1 || p == c.2) || (inn χ (M - (m + 1)) p || pu χ M m s p))
    rw [pu_or m]
    cases inn χ (M - (m + 1)) p <;> cases (p == c.1 || p == c.2) <;> rfl
def sR (f : Nat → Int) (M : Nat) : Nat → Int
  | 0 => 0
  | m + 1 => f (M - (m + 1)) + sR f M m
theorem sR_I {f : Nat → Int} {M : Nat} : ∀ m, m ≤ M → sI f M = sI f (M - m) + sR f M m
  | 0, _ => by
    show sI f M = sI f M + 0
    omega
  | m + 1, hm => by
    rw [sR_I m (by omega)]
    have e : M - m = (M - (m + 1)) + 1 := by omega
    rw [e]
    show sI f (M - (m + 1)) + f (M - (m + 1)) + sR f M m = sI f (M - (m + 1)) + (f (M - (m + 1)) + sR f M m)
    omega
theorem sI_cong {f g : Nat → Int} : ∀ n, (∀ i, i < n → f i = g i) → sI f n = sI g n
  | 0, _ => rfl
  | n + 1, h => by
    show sI f n + f n = sI g n + g n
    rw [sI_cong n (fun i hi => h i (by omega)), h n (by omega)]
theorem us_sI {s : Nat} : ∀ n, usI s n = sI (fun p => if Nat.testBit s p then 0 else -20) n
  | 0 => rfl
  | n + 1 => by
    show usI s n + _ = _ + _
    rw [us_sI n]
theorem rV_val {N M : Nat} {A : Nat → Nat → Int32} {χ : Chi} : ∀ m s, rV N M A χ m s = sR (ccI A χ) M m + sI (fun p => if pu χ M m s p then 0 else -20) N
  | 0, s => by
    show usI s N = 0 + sI (fun p => if Nat.testBit s p then 0 else -20) N
    rw [us_sI]
    omega
  | m + 1, s => by
    show _ = ccI A χ (M - (m + 1)) + sR (ccI A χ) M m + sI (fun p => if (inn χ (M - (m + 1)) p || pu χ M m s p) then 0 else -20) N
    cases hx : χ (M - (m + 1)) with
    | none =>
      have e : ccI A χ (M - (m + 1)) = 0 := by
        unfold ccI
        rw [hx]
      rw [rV_n hx, rV_val m s, e, sI_cong N (g := fun p => if (inn χ (M - (m + 1)) p || pu χ M m s p) then 0 else -20) (fun p _ => by
        show (if pu χ M m s p = true then (0 : Int) else -20) = if (inn χ (M - (m + 1)) p || pu χ M m s p) = true then 0 else -20
        rw [inn_n hx, Bool.false_or])]
      omega
    | some c =>
      have e : ccI A χ (M - (m + 1)) = cI A (M - (m + 1)) c.1 c.2 := by
        unfold ccI
        rw [hx]
      rw [rV_s hx, rV_val m (s ||| mk2 c), e, sI_cong N (g := fun p => if (inn χ (M - (m + 1)) p || pu χ M m s p) then 0 else -20) (fun p _ => by
        show (if pu χ M m (s ||| mk2 c) p = true then (0 : Int) else -20) = if (inn χ (M - (m + 1)) p || pu χ M m s p) = true then 0 else -20
        rw [pu_or m]
        unfold inn
        rw [hx])]
      omega
theorem pu_plc {χ : Chi} {M p : Nat} : ∀ m, m ≤ M → (pu χ M m 0 p = true ↔ ∃ l, M - m ≤ l ∧ l < M ∧ inn χ l p = true)
  | 0, _ => by
    show Nat.testBit 0 p = true ↔ _
    rw [Nat.zero_testBit]
    exact ⟨fun z => (nomatch z), fun ⟨l, h1, h2, _⟩ => by omega⟩
  | m + 1, hm => by
    show (inn χ (M - (m + 1)) p || pu χ M m 0 p) = true ↔ _
    rw [Bool.or_eq_true, pu_plc m (by omega)]
    constructor
    · rintro (z | ⟨l, h1, h2, h3⟩)
      · exact ⟨_, Nat.le_refl _, by omega, z⟩
      · exact ⟨l, by omega, h2, h3⟩
    · rintro ⟨l, h1, h2, h3⟩
      by_cases e : l = M - (m + 1)
      · left; rw [← e]; exact h3
      · exact Or.inr ⟨l, by omega, h2, h3⟩
theorem rV_tot {A : Nat → Nat → Int32} {N M : Nat} {χ : Chi} (hM : M ≤ 5) : rV N M A χ M 0 = totI A N M χ := by
  rw [rV_val]
  unfold totI
  rw [sR_I (f := ccI A χ) M (Nat.le_refl _), Nat.sub_self]
  rw [sI_cong N (g := fun p => if plc χ M p = 7 then -20 else 0) (fun p _ => by
    show (if pu χ M M 0 p = true then (0 : Int) else -20) = if plc χ M p = 7 then -20 else 0
    by_cases c : plc χ M p = 7
    · rw [if_pos c, if_neg]
      rw [pu_plc M (Nat.le_refl _)]
      rintro ⟨l, h1, h2, h3⟩
      have := (plc_7 (by omega)).mp c l h2
      rw [h3] at this
      cases this
    · rw [if_neg c, if_pos]
      rw [pu_plc M (Nat.le_refl _)]
      rcases plc_cases (χ := χ) M p with z | ⟨z1, z2⟩
      · exact absurd z c
      · exact ⟨_, by omega, z1, z2⟩)]
  show _ = 0 + _ + _
  omega
/-! what is fixed -/
def plv (k : Nat) : Int32 := if k = 7 then 9 else nI k
theorem bit_tab : ∀ m, m < 256 → ∀ p, p < 8 → bitS (nI m) (nI p) = Nat.testBit m p := by decide +kernel
theorem mkO_t {χ : Chi} {l p : Nat} : Nat.testBit (mkO (χ l)) p = inn χ l p := by
  cases hx : χ l with
  | none =>
    rw [inn_n hx]
    exact Nat.zero_testBit p
  | some c =>
    rw [Bool.eq_iff_iff, inn_c hx]
    show Nat.testBit (mk2 c) p = true ↔ _
    have := mk_t (s := 0) (p := p) (c := c)
    rw [Nat.zero_or, Nat.zero_testBit] at this
    rw [this]
    simp
theorem awl_iff {fx : Nat → Int32} {N m l : Nat} (hm : m < 256) (hN : N ≤ 8) : awl fx N (nI m) l = true ↔ ∀ p, p < N → if Nat.testBit m p = true then (fx p < 0 ∨ fx p = nI l) else ¬ fx p = nI l := by
  unfold awl
  rw [al_all]
  constructor
  · intro z p hp
    have := z p hp
    unfold awP at this
    rw [bit_tab m hm p (by omega)] at this
    by_cases c : Nat.testBit m p = true
    · rw [if_pos c] at this ⊢
      exact of_decide_eq_true this
    · rw [if_neg c] at this ⊢
      exact of_decide_eq_true this
  · intro z p hp
    have := z p hp
    unfold awP
    rw [bit_tab m hm p (by omega)]
    by_cases c : Nat.testBit m p = true
    · rw [if_pos c] at this ⊢
      exact decide_eq_true this
    · rw [if_neg c] at this ⊢
      exact decide_eq_true this
theorem fc_iff {N M : Nat} {χ : Chi} {fx : Nat → Int32} (hN : N ≤ 8) (hM : M ≤ 5) (h : gOK N M χ) : fcO N M χ fx ↔ ∀ p, p < N → fx p < 0 ∨ fx p = plv (plc χ M p) := by
  have hm : ∀ l, l < M → mkO (χ l) < 256 := fun l hl => by
    cases hx : χ l with
    | none => show 0 < 256; omega
    | some c =>
      have := h.1 l c hl hx
      exact mk_lt (a := c.1) (b := c.2) (by omega) (by omega)
  unfold fcO
  constructor
  · rintro ⟨h1, h2⟩ p hp
    rcases plc_cases (χ := χ) M p with z | ⟨z1, z2⟩
    · rw [z]
      exact of_decide_eq_true (h2 p hp ((plc_7 (by omega)).mp z))
    · have := (awl_iff (hm _ z1) hN).mp (h1 _ z1) p hp
      rw [mkO_t, if_pos z2] at this
      unfold plv
      rw [if_neg (by omega)]
      exact this
  · intro z
    refine ⟨fun l hl => (awl_iff (hm l hl) hN).mpr (fun p hp => ?_), fun k hk hu => ?_⟩
    · rw [mkO_t]
      by_cases c : inn χ l p = true
      · rw [if_pos c]
        have := z p hp
        rw [plc_in h hl c hM] at this
        unfold plv at this
        rw [if_neg (by omega)] at this
        exact this
      · rw [if_neg c]
        intro e
        rcases z p hp with w | w
        · rw [e] at w
          exact nI_pos (by omega) w
        · rw [e] at w
          unfold plv at w
          rcases plc_cases (χ := χ) M p with y | ⟨y1, y2⟩
          · rw [if_pos y, show (9 : Int32) = nI 9 from rfl, nI_eq (by omega) (by omega)] at w
            omega
          · rw [if_neg (by omega), nI_eq (by omega) (by omega)] at w
            rw [← w] at y2
            exact c y2
    · have := z k hk
      rw [(plc_7 (by omega)).mpr hu] at this
      exact decide_eq_true this
/-! the two -/
theorem best_c {q : SS} (h : schOK q) : ∃ χ, gOK q.1 q.2.1 χ ∧ (plcW q.1 q.2.1 q.2.2.2).toInt = 16777216 * totI q.2.2.2 q.1 q.2.1 χ - (cdN (plc χ q.2.1) q.1 : Int) ∧ ∀ χ', gOK q.1 q.2.1 χ' → 16777216 * totI q.2.2.2 q.1 q.2.1 χ' - (cdN (plc χ' q.2.1) q.1 : Int) ≤ (plcW q.1 q.2.1 q.2.2.2).toInt := by
  obtain ⟨-, h2, χ, h3, h4⟩ := wl_all h q.2.1 (Nat.le_refl _) (2 ^ q.1 - 1) (full_lt h.1)
  rw [cOK_g h.1] at h3
  refine ⟨χ, h3, ?_, fun χ' hc => ?_⟩
  · show (wlT q.1 q.2.2.2 q.2.1 (2 ^ q.1 - 1)).toInt = _
    rw [← h4, cV_tot h.1 h.2.1 h3]
  · rw [← cV_tot h.1 h.2.1 hc]
    exact h2 χ' ((cOK_g h.1).mpr hc)
theorem best_r {q : SS} (h : schOK q) (fx : Nat → Int32) : (∀ χ, gOK q.1 q.2.1 χ → (∀ p, p < q.1 → fx p < 0 ∨ fx p = plv (plc χ q.2.1 p)) → totI q.2.2.2 q.1 q.2.1 χ ≤ (plR q.1 q.2.1 q.2.2.2 fx q.2.1 0).toInt) ∧ ((plR q.1 q.2.1 q.2.2.2 fx q.2.1 0).toInt ≤ -8999 ∨ ∃ χ, gOK q.1 q.2.1 χ ∧ (∀ p, p < q.1 → fx p < 0 ∨ fx p = plv (plc χ q.2.1 p)) ∧ totI q.2.2.2 q.1 q.2.1 χ = (plR q.1 q.2.1 q.2.2.2 fx q.2.1 0).toInt) := by
  have hM := h.2.1
  obtain ⟨-, h2, h3⟩ := pl_all h (fx := fx) q.2.1 (Nat.le_refl _) 0 (by omega)
  refine ⟨fun χ hg hf => ?_, ?_⟩
  · rw [← rV_tot hM]
    exact h2 χ ((rK_g h.1).mpr ⟨hg, (fc_iff h.1 hM hg).mpr hf⟩)
  · rcases h3 with h3 | ⟨χ, h3, h4⟩
    · left
      omega
    · obtain ⟨hg, hf⟩ := (rK_g h.1).mp h3
      exact Or.inr ⟨χ, hg, (fc_iff h.1 hM hg).mp hf, by rw [← rV_tot hM]; exact h4⟩
