def kpF (F : Nat → Int32) (A : Nat → Nat → Int32) (F' : Nat → Int32) (A' : Nat → Nat → Int32) : Prop := F' 0 = F 0 ∧ F' 5 = F 5 ∧ F' 9 = F 9 ∧ F' 26 = F 26 ∧ ∀ r, r ≠ 17 → A' r = A r
theorem kpF_of {F F1 F2 F3 : Nat → Int32} {A A1 A2 A3 : Nat → Nat → Int32} (h1 : opR 17 (upd F 16 0) A F1 A1) (h2 : seR A1 A2) (h5 : clR 17 F2 A2 F3 A3) (h6 : F2 26 = F1 26) : kpF F A F3 A3 := by
  obtain ⟨k0, k5, k9, k, -⟩ := kp4 h1 h2 h5
  refine ⟨k0, k5, k9, ?_, k⟩
  rw [h5.1 26 (by decide) (by decide) (by decide) (by decide) (by decide), h6, h1.1 26 (by decide) (by decide)]
  rfl
theorem chC_z {N : Nat} {A : Nat → Nat → Int32} (h : nxS N A < 0) : ∀ f, chC N f A = 0
  | 0 => rfl
  | f + 1 => by unfold chC; rw [if_pos h]
theorem chE_z {N : Nat} {A : Nat → Nat → Int32} (h : nxS N A < 0) : ∀ f, chE N f A = A
  | 0 => rfl
  | f + 1 => by unfold chE; rw [if_pos h]
theorem chC_s {N f a b : Nat} {A : Nat → Nat → Int32} (h : ¬ nxS N A < 0) (ha : a < 10) (hb : b < 10) (e : nxS N A = nI (10 * a + b)) : chC N (f + 1) A = chC N f (swS A a b) + 1 := by
  conv => lhs; unfold chC
  rw [if_neg h, chg_i hb ha e]
theorem chE_s {N f a b : Nat} {A : Nat → Nat → Int32} (h : ¬ nxS N A < 0) (ha : a < 10) (hb : b < 10) (e : nxS N A = nI (10 * a + b)) : chE N (f + 1) A = chE N f (swS A a b) := by
  conv => lhs; unfold chE
  rw [if_neg h, chg_i hb ha e]
theorem chE_ok {N M : Nat} (hN : N ≤ 8) : ∀ (f : Nat) {A : Nat → Nat → Int32}, insOK N M (A 4) → insOK N M (chE N f A 4) ∧ seR A (chE N f A)
  | 0, _, h => ⟨h, seR_0⟩
  | f + 1, A, h => by
    by_cases e : nxS N A < 0
    · rw [chE_z e]
      exact ⟨h, seR_0⟩
    · obtain ⟨a, b, h1, h2, h3⟩ := nxS_nI e
      rw [chE_s e (by omega) (by omega) h3]
      have ih := chE_ok (M := M) hN f (insOK_sw h (show a < N by omega) h2)
      exact ⟨ih.1, (seR_sw (show a < 8 by omega) (show b < 8 by omega) seR_0).tr ih.2⟩
theorem jdS_ok {N M : Nat} (hN : N ≤ 8) {A : Nat → Nat → Int32} (h : insOK N M (A 4)) : ∀ k, insOK N M ((jdS N A k).2 4) ∧ seR A (jdS N A k).2
  | 0 => ⟨h, seR_0⟩
  | k + 1 => by
    obtain ⟨i1, i2⟩ := jdS_ok hN h k
    show insOK N M ((if (jdS N A (k + 1)).1 = true then chg (jdS N A k).2 (nxS N (jdS N A k).2) else (jdS N A k).2) 4) ∧ seR A (if (jdS N A (k + 1)).1 = true then chg (jdS N A k).2 (nxS N (jdS N A k).2) else (jdS N A k).2)
    by_cases c : (jdS N A (k + 1)).1 = true
    · have c2 : (((jdS N A k).1 && !decide (jdX N (jdS N A k).2 (k + 1) < 0))) = true := c
      have c3 : ¬ jdX N (jdS N A k).2 (k + 1) < 0 := by
        intro z
        rw [show decide (jdX N (jdS N A k).2 (k + 1) < 0) = true from decide_eq_true z] at c2
        simp at c2
      have c4 : ¬ nxS N (jdS N A k).2 < 0 := by
        intro z
        apply c3
        unfold jdX
        by_cases c5 : 60 < k + 1
        · rw [if_pos c5]; decide
        · rw [if_neg c5]; exact z
      obtain ⟨a, b, h1, h2, h3⟩ := nxS_nI c4
      rw [if_pos c, chg_i (by omega) (by omega) h3]
      exact ⟨insOK_sw i1 (by omega) h2, seR_sw (by omega) (by omega) i2⟩
    · rw [if_neg c]
      exact ⟨i1, i2⟩
/-- one step of the told changes -/
theorem jd_t {N k a b : Nat} {A : Nat → Nat → Int32} (h1 : (jdS N A k).1 = true) (h2 : ¬ 60 < k + 1) (h3 : ¬ nxS N (jdS N A k).2 < 0) (ha : a < 10) (hb : b < 10) (e : nxS N (jdS N A k).2 = nI (10 * a + b)) : (jdS N A (k + 1)).1 = true ∧ (jdS N A (k + 1)).2 = swS (jdS N A k).2 a b := by
  have x : jdX N (jdS N A k).2 (k + 1) = nxS N (jdS N A k).2 := by unfold jdX; rw [if_neg h2]
  have c : (jdS N A (k + 1)).1 = true := by
    show (_ && _) = true
    rw [h1, x, show decide (nxS N (jdS N A k).2 < 0) = false from decide_eq_false h3]
    rfl
  refine ⟨c, ?_⟩
  show (if (jdS N A (k + 1)).1 = true then chg (jdS N A k).2 (nxS N (jdS N A k).2) else (jdS N A k).2) = _
  rw [if_pos c, chg_i hb ha e]
theorem jd_f {N k : Nat} {A : Nat → Nat → Int32} (h : (jdS N A k).1 = false ∨ 60 < k + 1 ∨ nxS N (jdS N A k).2 < 0) : (jdS N A (k + 1)).1 = false ∧ (jdS N A (k + 1)).2 = (jdS N A k).2 := by
  have c : (jdS N A (k + 1)).1 = false := by
    show ((jdS N A k).1 && !decide (jdX N (jdS N A k).2 (k + 1) < 0)) = false
    rcases h with h | h | h
    · rw [h]; rfl
    · have x : jdX N (jdS N A k).2 (k + 1) = -4 := by unfold jdX; rw [if_pos h]
      rw [x]
      simp
    · have x : jdX N (jdS N A k).2 (k + 1) < 0 := by
        unfold jdX
        by_cases c5 : 60 < k + 1
        · rw [if_pos c5]; decide
        · rw [if_neg c5]; exact h
      rw [show decide (jdX N (jdS N A k).2 (k + 1) < 0) = true from decide_eq_true x]
      simp
  refine ⟨c, ?_⟩
  show (if (jdS N A (k + 1)).1 = true then chg (jdS N A k).2 (nxS N (jdS N A k).2) else (jdS N A k).2) = _
  rw [if_neg (by rw [c]; decide)]
theorem EqR.jud {A A' : Nat → Nat → Int32} (h : EqR A A') (h11 : A' 11 = A 11) (N d R : Nat) (L : Nat → Nat → Int64) : judV N A' L d R = judV N A L d R := by
  have e : jdP N A' L d = jdP N A L d := by
    funext k
    obtain ⟨i1, i2⟩ := h.jd N k
    unfold jdP
    rw [i1, i2.al N, h11]
  unfold judV
  rw [e]
theorem EqR.ter {A A' : Nat → Nat → Int32} (h : EqR A A') (N x : Nat) (z what : Int32) : terV N A' x z what = terV N A x z what := by
  unfold terV
  rw [show (fun t => alS N (teA N A' (teZ z (10 * t)) 10)) = fun t => alS N (teA N A (teZ z (10 * t)) 10) from funext (fun t => (h.te N _ 10).al N), show (fun t => teC N A' (teZ z (10 * t)) 10) = fun t => teC N A (teZ z (10 * t)) 10 from funext (fun t => h.tc N _ 10)]
theorem wide_nI {n : Nat} (h : n < 2 ^ 31) : (nI n).toInt64 = lN n := by
  apply Int64.toInt_inj.mp
  rw [Int32.toInt_toInt64, nI_toInt h, pk_lT (by omega)]
/-- reading a row's end without a sum -/
theorem le_subI {i R k : Nat} (hi : i < 2 ^ 31) (hR : R ≤ 100) (hk : k < 2 ^ 31) : nI R - nI k < nI i ↔ R < i + k := by
  have e : (nI R - nI k).toInt = (R : Int) - k := by
    rw [Int32.toInt_sub, nI_toInt (by omega), nI_toInt hk]
    exact Int.bmod_eq_of_le (by omega) (by omega)
  rw [i32_lt, e, nI_toInt hi]
  omega
def coB (A : Nat → Nat → Int32) (d i e j x : Int32) : Bool := decide (x < 0 ∨ i < 0 ∨ j < 0 ∨ A 12 d.toNatClampNeg - x < i ∨ A 12 e.toNatClampNeg - x < j)
def coK (A : Nat → Nat → Int32) (d e : Int32) : Bool := decide (A 8 d.toNatClampNeg = 2 ∧ A 8 e.toNatClampNeg = 2 ∧ A 11 d.toNatClampNeg = A 11 e.toNatClampNeg)
def coR (A : Nat → Nat → Int32) (d i e j x : Int32) : Int32 := if okr d 0 7 = true ∧ okr e 0 7 = true then
  (if A 8 d.toNatClampNeg = 0 ∨ A 8 e.toNatClampNeg = 0 then -11 else if coK A d e then (if coB A d i e j x then -13 else x) else -12) else -1
def coC (A : Nat → Nat → Int32) (d i e j x : Int32) : Bool := decide (okr d 0 7 = true ∧ okr e 0 7 = true ∧ ¬ (A 8 d.toNatClampNeg = 0 ∨ A 8 e.toNatClampNeg = 0) ∧ coK A d e = true ∧ coB A d i e j x = false)
def coL (A : Nat → Nat → Int32) (L : Nat → Nat → Int64) (d i e j x : Int32) : Nat → Nat → Int64 := if coC A d i e j x then cpL L d.toNatClampNeg i.toNatClampNeg e.toNatClampNeg j.toNatClampNeg x.toNatClampNeg x.toNatClampNeg else L
/-! odds -/
theorem go_gcd : ∀ t, t < 21 → ∀ k, k < 5 → ∀ l, l < 3 → 2 ≤ t → Nat.gcd ((t ^ k - (t - 1) ^ k) ^ l) ((t ^ k) ^ l) = 1 := by decide +kernel
theorem go_bd : ∀ t, t < 21 → ∀ k, k < 5 → t ^ k < 2 ^ 31 ∧ (t - 1) ^ k ≤ t ^ k := by decide +kernel
theorem go_bl : ∀ t, t < 21 → ∀ k, k < 5 → ∀ l, l < 3 → (t ^ k) ^ l < 2 ^ 62 ∧ (t ^ k - (t - 1) ^ k) ^ l < 2 ^ 62 := by decide +kernel
def gonS (M : Nat) (A : Nat → Nat → Int32) (l t k part : Int32) : Int64 := if okp M l = true ∧ okr t 2 20 = true ∧ okr k 1 4 = true ∧ okr part 0 1 = true then
  lN (if part = 0 then (t.toNatClampNeg ^ k.toNatClampNeg - (t.toNatClampNeg - 1) ^ k.toNatClampNeg) ^ (A 7 l.toNatClampNeg).toNatClampNeg else (t.toNatClampNeg ^ k.toNatClampNeg) ^ (A 7 l.toNatClampNeg).toNatClampNeg) else 1000000001
/-- keys -/
def kyOK (M : Nat) (ky : Nat → Int32) : Prop := ∀ l, l < M → ∃ k, k < 3 ∧ ky l = nI k
theorem okr_nI2 {d lo hi : Int32} {k k0 : Nat} (hl : lo = nI k0) (hk : hi = nI k) (hk2 : k < 2 ^ 31) (hk0 : k0 < 2 ^ 31) (h : okr d lo hi) : ∃ j : Nat, k0 ≤ j ∧ j ≤ k ∧ d = nI j := by
  subst hk
  subst hl
  have h := okr_i.mp h
  have h0 : ¬ d < 0 := by
    intro z
    apply h.1
    have z1 := (i32_lt _ _).mp z
    rw [i32_lt, nI_toInt hk0]
    have z2 : ((0 : Int32).toInt) = 0 := rfl
    omega
  obtain ⟨j, hj, rfl⟩ := nI_of h0
  have h1 := mt (nI_ltI hk2 hj).mpr h.2
  have h2 := mt (nI_ltI hj hk0).mpr h.1
  exact ⟨j, by omega, by omega, rfl⟩
