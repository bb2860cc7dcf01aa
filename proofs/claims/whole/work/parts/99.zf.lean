/-! rows of numbers on both sides -/
/-- the class's row g and the reference's L say the same -/
def rowE (L : Nat → Nat → Int64) (d R : Nat) (g : Nat → Int32) : Prop := ∀ k, k < R → L 13 (100 * d + k) = (g k).toInt64
theorem wide_inj {a b : Int32} : a.toInt64 = b.toInt64 ↔ a = b := by
  rw [i64_eq, Int32.toInt_toInt64, Int32.toInt_toInt64, Int32.toInt_inj]
theorem fsB_neg {P : Nat → Bool} {R : Nat} (hR : R < 2 ^ 31) : fsB P 0 R < 0 ↔ fsB P 0 R = -4 := by
  rcases fsB_fst (P := P) R 0 (by omega) with ⟨z, -⟩ | ⟨i, h1, h2, h3, h4, -⟩
  · rw [z]
    decide
  · rw [h4]
    exact ⟨fun z => absurd z (nI_pos (by omega)), fun z => by rw [z]; decide⟩
theorem ff_fg {N M R d : Nat} {L : Nat → Nat → Int64} {g : Nat → Int32} (h : rowE L d R g) (hM : M ≤ 5) (hR : R ≤ 100) {i : Nat} (hi : i < R) : ffP N M g i = fgP N M L d i := by
  have e9 : L 13 (100 * d + i) = 9 ↔ g i = 9 := by
    rw [h i hi]
    exact wide_inj (b := 9)
  have el : liS (L 13 (100 * d + i)) 0 (nI M - 1).toInt64 = true ↔ okp M (g i) = true := by
    rw [h i hi]
    exact li_okp (by omega)
  have ec : cnS (fun j => decide (L 13 (100 * d + j) = L 13 (100 * d + i))) i = cnS (fun j => decide (g j = g i)) i := cnS_cong i (fun j hj => by
    rw [h i hi, h j (by omega)]
    exact decide_eq_decide.mpr wide_inj)
  unfold ffP fgP plcS
  rw [ec]
  refine decide_eq_decide.mpr ?_
  rw [e9, el]
  obtain ⟨c, hc, ecc⟩ := cnS_nI (P := fun j => decide (g j = g i)) i
  have e2 : (¬ cnS (fun j => decide (g j = g i)) i < 2) ↔ 1 < cnS (fun j => decide (g j = g i)) i := by
    rw [ecc, show (2 : Int32) = nI 2 from rfl, show (1 : Int32) = nI 1 from rfl, nI_ltl (by omega) (by omega), nI_ltl (by omega) (by omega)]
    omega
  rw [e2, decide_eq_true_iff]
  by_cases c1 : g i = 9
  · simp [c1]
  · simp [c1]
theorem fo_for {N M R d : Nat} {L : Nat → Nat → Int64} {g : Nat → Int32} (h : rowE L d R g) (hM : M ≤ 5) (hR : R ≤ 100) : fsB (ffP N M g) 0 R = fgS N M L d R := fsB_congr R 0 (fun i _ hi => ff_fg h hM hR (by omega))
theorem ln_sk {so : Int32} : skS so = (lnS so).toInt64 := by
  unfold skS lnS
  by_cases c : so = 0
  · rw [if_pos c, if_pos c]; rfl
  · rw [if_neg c, if_neg c]
    by_cases c1 : so = 1
    · rw [if_pos c1, if_pos c1]; rfl
    · rw [if_neg c1, if_neg c1]; rfl
theorem cj_jd {N R d : Nat} {A : Nat → Nat → Int32} {L : Nat → Nat → Int64} {g : Nat → Int32} (h : rowE L d R g) {i : Nat} (hi : i < R) : cjP N A (A 11 d) g i = jdP N A L d i := by
  unfold cjP jdP
  rw [ln_sk, h i hi]
  refine decide_eq_decide.mpr ?_
  rw [wide_inj, wide_inj, not_or]
theorem jg_jud {N R d : Nat} {A : Nat → Nat → Int32} {L : Nat → Nat → Int64} {g : Nat → Int32} (h : rowE L d R g) : fsB (cjP N A (A 11 d) g) 0 R = judV N A L d R := fsB_congr R 0 (fun i _ hi => cj_jd h (by omega))
/-! a row in June -/
theorem one_tab : ∀ k, k < 8 → (1 : Int32) <<< (nI k &&& 31) = nI (2 ^ k) := by decide +kernel
theorem bt_nat {P : Nat → Bool} : ∀ k, k ≤ 8 → ∃ m, m < 2 ^ k ∧ btB P k = nI m ∧ ∀ i, Nat.testBit m i = (decide (i < k) && P i)
  | 0, _ => ⟨0, by decide, rfl, fun i => by simp⟩
  | k + 1, hk => by
    obtain ⟨m, hm, e, ht⟩ := bt_nat (P := P) k (by omega)
    show ∃ m, m < 2 ^ (k + 1) ∧ btB P k ||| (if P k then 1 <<< (nI k &&& 31) else 0) = nI m ∧ ∀ i, Nat.testBit m i = (decide (i < k + 1) && P i)
    rw [e]
    cases hp : P k with
    | true =>
      refine ⟨m ||| 2 ^ k, Nat.or_lt_two_pow (by omega) (by omega), ?_, fun i => ?_⟩
      · rw [if_pos rfl, one_tab k (by omega), nI_or]
      · rw [Nat.testBit_or, ht, Nat.testBit_two_pow]
        by_cases c : k = i
        · subst c
          rw [hp]
          simp
        · have : decide (i < k) = decide (i < k + 1) := decide_eq_decide.mpr (by omega)
          rw [this, decide_eq_false c, Bool.or_false]
    | false =>
      refine ⟨m, by omega, ?_, fun i => ?_⟩
      · show nI m ||| 0 = nI m
        rw [show (0 : Int32) = nI 0 from rfl, nI_or, Nat.or_zero]
      · rw [ht]
        by_cases c : i = k
        · subst c
          rw [hp]
          simp
        · have : decide (i < k) = decide (i < k + 1) := decide_eq_decide.mpr (by omega)
          rw [this]
theorem bt_pair {P : Nat → Bool} {N a b : Nat} (hN : N ≤ 8) (ha : a < N) (hb : b < N) : btB P N = ((1 : Int32) <<< (nI a &&& 31)) ||| ((1 : Int32) <<< (nI b &&& 31)) ↔ ∀ p, p < N → (P p = true ↔ p = a ∨ p = b) := by
  obtain ⟨m, hm, e, ht⟩ := bt_nat (P := P) N hN
  have h8 : 2 ^ N ≤ 2 ^ 8 := Nat.pow_le_pow_right (by decide) hN
  have ha8 : 2 ^ a < 2 ^ 8 := Nat.pow_lt_pow_right (by decide) (by omega)
  have hb8 : 2 ^ b < 2 ^ 8 := Nat.pow_lt_pow_right (by decide) (by omega)
  rw [e, one_tab a (by omega), one_tab b (by omega), nI_or, nI_eq (by omega) (Nat.lt_trans (Nat.or_lt_two_pow ha8 hb8) (by decide))]
  constructor
  · intro z p hp
    have h := ht p
    rw [z, Nat.testBit_or, Nat.testBit_two_pow, Nat.testBit_two_pow, decide_eq_true hp, Bool.true_and] at h
    rw [← h, Bool.or_eq_true, decide_eq_true_iff, decide_eq_true_iff]
    exact ⟨fun z => z.imp Eq.symm Eq.symm, fun z => z.imp Eq.symm Eq.symm⟩
  · intro z
    refine Nat.eq_of_testBit_eq (fun p => ?_)
    rw [ht, Nat.testBit_or, Nat.testBit_two_pow, Nat.testBit_two_pow]
    by_cases c : p < N
    · rw [decide_eq_true c, Bool.true_and, Bool.eq_iff_iff, z p c, Bool.or_eq_true, decide_eq_true_iff, decide_eq_true_iff]
      exact ⟨fun z => z.imp Eq.symm Eq.symm, fun z => z.imp Eq.symm Eq.symm⟩
    · rw [decide_eq_false c, decide_eq_false (show ¬ a = p by omega), decide_eq_false (show ¬ b = p by omega)]
      rfl
theorem al_all {P : Nat → Bool} : ∀ N, alB P N = true ↔ ∀ p, p < N → P p = true
  | 0 => ⟨fun _ p h => by omega, fun _ => rfl⟩
  | N + 1 => by
    show (alB P N && P N) = true ↔ _
    rw [Bool.and_eq_true, al_all N]
    exact ⟨fun z p hp => by
      by_cases c : p = N
      · rw [c]; exact z.2
      · exact z.1 p (by omega), fun z => ⟨fun p hp => z p (by omega), z N (by omega)⟩⟩
theorem ct_ju {N d : Nat} {A : Nat → Nat → Int32} {L : Nat → Nat → Int64} {g : Nat → Int32} (h : rowE L d N g) (hN : N ≤ 8) {a b : Nat} (hab : a < b) (hb : b < N) : ctP A g (btB (fun p => decide (¬ A 4 p = g p)) N) a b = juP N A L d a b := by
  unfold ctP juP
  refine decide_eq_decide.mpr ?_
  rw [bt_pair hN (by omega) hb, al_all]
  have e1 : swS A a b 4 a = A 4 b := by rw [swS_4, if_neg (by omega), if_pos rfl]
  have e2 : swS A a b 4 b = A 4 a := by rw [swS_4, if_pos rfl]
  rw [e1, e2]
  have e3 : ∀ p, p < N → (astP (swS A a b) L d p = true ↔ swS A a b 4 p = g p) := fun p hp => by
    unfold astP
    rw [decide_eq_true_iff, h p hp]
    exact wide_inj
  constructor
  · rintro ⟨z1, z2, z3⟩
    have za := (z1 a (by omega)).mpr (Or.inl rfl)
    refine ⟨fun q => (of_decide_eq_true za) (by rw [z2]; exact q.symm), fun p hp => (e3 p hp).mpr ?_⟩
    rw [swS_4]
    by_cases c : p = b
    · rw [if_pos c, c, z3]
    · rw [if_neg c]
      by_cases c2 : p = a
      · rw [if_pos c2, c2, z2]
      · rw [if_neg c2]
        cases hd : decide (¬ A 4 p = g p) with
        | true =>
          have := (z1 p hp).mp hd
          omega
        | false => exact Classical.not_not.mp (of_decide_eq_false hd)
  · rintro ⟨z1, z2⟩
    have ga : g a = A 4 b := by rw [← (e3 a (by omega)).mp (z2 a (by omega)), e1]
    have gb : g b = A 4 a := by rw [← (e3 b hb).mp (z2 b hb), e2]
    refine ⟨fun p hp => ?_, ga, gb⟩
    have zp := (e3 p hp).mp (z2 p hp)
    rw [swS_4] at zp
    rw [decide_eq_true_iff]
    constructor
    · intro q
      by_cases c : p = b
      · exact Or.inr c
      · by_cases c2 : p = a
        · exact Or.inl c2
        · rw [if_neg c, if_neg c2] at zp
          exact absurd zp q
    · rintro (rfl | rfl)
      · rw [ga]
        exact fun q => z1 q.symm
      · rw [gb]
        exact z1
theorem f2B_none {P : Nat → Nat → Bool} {N : Nat} (hN : N ≤ 8) : ∀ k j, j + k = N → f2B P N j k = -4 → ∀ a b, j ≤ a → a < b → b < N → P a b = false
  | 0, j, e, _, a, b, h1, h2, h3 => by omega
  | k + 1, j, e, h, a, b, h1, h2, h3 => by
    have h : f1B (P j) j (f2B P N (j + 1) k) (j + 1) (N - (j + 1)) = -4 := h
    have key : ∀ k j', f1B (P j) j (f2B P N (j + 1) k) j' (N - j') = -4 → True := fun _ _ _ => trivial
    have f1 : ∀ (z : Int32) k j', j' + k = N → f1B (P j) j z j' k = -4 → (∀ i, j' ≤ i → i < N → P j i = false) ∧ z = -4 := by
      intro z k
      induction k with
      | zero => intro j' e' h'; exact ⟨fun i _ _ => by omega, h'⟩
      | succ k ih =>
        intro j' e' h'
        have h' : (if P j j' then nI (10 * j + j') else f1B (P j) j z (j' + 1) k) = -4 := h'
        cases hp : P j j' with
        | true =>
          rw [hp, if_pos rfl] at h'
          exact absurd h' (fun q => nI_pos (n := 10 * j + j') (by omega) (by rw [q]; decide))
        | false =>
          rw [hp, if_neg (by decide)] at h'
          obtain ⟨z1, z2⟩ := ih (j' + 1) (by omega) h'
          exact ⟨fun i h4 h5 => by
            by_cases c : i = j'
            · rw [c]; exact hp
            · exact z1 i (by omega) h5, z2⟩
    obtain ⟨z1, z2⟩ := f1 _ (N - (j + 1)) (j + 1) (by omega) h
    by_cases c : a = j
    · subst c
      exact z1 b (by omega) h3
    · exact f2B_none hN k (j + 1) (by omega) z2 a b (by omega) h2 h3
theorem cnS_is {i : Nat} : ∀ N, cnS (fun p => decide (p = i)) N = if i < N then 1 else 0
  | 0 => rfl
  | N + 1 => by
    show cnS _ N + (if decide (N = i) = true then 1 else 0) = _
    rw [cnS_is N]
    by_cases c : N = i
    · subst c
      rw [if_neg (by omega), decide_eq_true rfl, if_pos rfl, if_pos (by omega)]
      rfl
    · rw [decide_eq_false c, if_neg (show ¬ false = true by decide)]
      by_cases c2 : i < N
      · rw [if_pos c2, if_pos (by omega)]; rfl
      · rw [if_neg c2, if_neg (by omega)]; rfl
theorem c2_f2 {P : Nat → Nat → Bool} {N : Nat} (hN : N ≤ 8) (hu : ∀ a b a' b', a < b → b < N → a' < b' → b' < N → P a b = true → P a' b' = true → a = a' ∧ b = b') : c2B P N 0 N = if f2B P N 0 N = -4 then 0 else 1 := by
  by_cases ex : ∃ a b, a < b ∧ b < N ∧ P a b = true
  · obtain ⟨a, b, h1, h2, h3⟩ := ex
    rw [if_neg (fun z => by
      have := f2B_none hN N 0 (by omega) z a b (by omega) h1 h2
      rw [h3] at this
      cases this)]
    have z := c2B_cn (P := P) (Q := fun p => decide (p = a)) (N := N) N 0 (by omega) (fun a' _ ha' => ?_)
    · rw [cnS_is N, if_pos (by omega)] at z
      rw [← z]
      exact (Int32.add_zero _).symm
    · by_cases c : a' = a
      · subst c
        rw [decide_eq_true rfl, cfB_one h3 _ _ (by omega) (by omega) (fun i z1 z2 z3 => (hu a' i a' b (by omega) (by omega) h1 h2 z3 h3).2)]
        rfl
      · rw [decide_eq_false c, cfB_none _ _ (fun i z1 z2 => by
          cases hp : P a' i with
          | false => rfl
          | true => exact absurd (hu a' i a b (by omega) (by omega) h1 h2 hp h3).1 c)]
        rfl
  · have hn : ∀ a b, a < b → b < N → P a b = false := fun a b h1 h2 => by
      cases hp : P a b with
      | false => rfl
      | true => exact absurd ⟨a, b, h1, h2, hp⟩ ex
    rw [if_pos (by
      rcases f2B_nI (P := P) (N := N) N 0 (by omega) with z | ⟨a, b, -, h1, h2, h3, -⟩
      · exact z
      · exact absurd ⟨a, b, h1, h2, h3⟩ ex)]
    have z := c2B_cn (P := P) (Q := fun _ => false) (N := N) N 0 (by omega) (fun a' _ ha' => by rw [cfB_none _ _ (fun i z1 z2 => hn a' i (by omega) (by omega))]; rfl)
    have z0 : ∀ k, cnS (fun _ => false) k = 0 := fun k => by
      induction k with
      | zero => rfl
      | succ k ih => show cnS (fun _ => false) k + 0 = 0; rw [ih]; rfl
    rw [z0 0, z0 N] at z
    exact (Int32.add_zero _).symm.trans z
theorem bd_bt {P Q : Nat → Bool} : ∀ k j, (∀ i, j ≤ i → i < j + k → Q i = !P i) → bdB P j k ||| btB Q j = btB Q (j + k)
  | 0, j, _ => Int32.zero_or
  | k + 1, j, h => by
    show (bdB P (j + 1) k ||| (if P j then 0 else (1 : Int32) <<< (nI j &&& 31))) ||| btB Q j = _
    have e : (if P j then 0 else (1 : Int32) <<< (nI j &&& 31)) ||| btB Q j = btB Q (j + 1) := by
      show _ = btB Q j ||| (if Q j then 1 <<< (nI j &&& 31) else 0)
      rw [Int32.or_comm, h j (by omega) (by omega)]
      cases P j <;> rfl
    rw [Int32.or_assoc, e, bd_bt k (j + 1) (fun i z1 z2 => h i (by omega) (by omega)), show j + 1 + k = j + (k + 1) by omega]
/-- the class's answer to June -/
theorem cju_jun {N M R d : Nat} {A : Nat → Nat → Int32} {L : Nat → Nat → Int64} {g : Nat → Int32} {what : Int32} (h : rowE L d R g) (hN : N ≤ 8) (hM : M ≤ 5) (hR : R ≤ 100) (hw : okr what 0 2 = true) (hk : A 12 d = nI R) : cjuV N M A g R what = (if ¬ fgS N M L d R < 0 ∨ ¬ A 12 d = nI N then -13 else (if what = 0 then bdB (astP A L d) 0 N else if what = 1 then c2B (juP N A L d) N 0 N else f2B (juP N A L d) N 0 N)) := by
  unfold cjuV
  rw [fo_for h hM hR, hk]
  have e1 : fgS N M L d R < 0 ↔ fgS N M L d R = -4 := fsB_neg (by omega)
  have e2 : nI R = nI N ↔ R = N := nI_eq (by omega) (by omega)
  by_cases c : ¬ R = N ∨ ¬ fgS N M L d R = -4
  · rw [if_pos c, if_pos (by rw [e1, e2]; exact c.symm)]
  · rw [if_neg c, if_neg (show ¬ (¬ fgS N M L d R < 0 ∨ ¬ nI R = nI N) by rw [e1, e2]; exact fun z => c z.symm)]
    have hRN : R = N := Classical.not_not.mp (fun z => c (Or.inl z))
    subst hRN
    have ef : f2B (ctP A g (btB (fun p => decide (¬ A 4 p = g p)) R)) R 0 R = f2B (juP R A L d) R 0 R := f2B_cong R 0 (by omega) (fun a b _ h2 h3 => ct_ju h hN h2 h3)
    rw [ef]
    obtain ⟨w, hw2, rfl⟩ := okr_nI (k := 2) rfl (by omega) hw
    have : w = 0 ∨ w = 1 ∨ w = 2 := by omega
    rcases this with rfl | rfl | rfl
    · rw [if_pos (show nI 0 = 0 from rfl), if_pos (show nI 0 = 0 from rfl)]
      have z := bd_bt (P := astP A L d) (Q := fun p => decide (¬ A 4 p = g p)) R 0 (fun i _ hi => by
        unfold astP
        rw [h i (by omega), ← decide_not]
        exact decide_eq_decide.mpr (not_congr wide_inj.symm))
      rw [Nat.zero_add] at z
      rw [← z]
      exact Int32.or_zero
    · rw [if_neg (show ¬ nI 1 = 0 by decide), if_neg (show ¬ nI 1 = 2 by decide), if_neg (show ¬ nI 1 = 0 by decide), if_pos (show nI 1 = 1 from rfl)]
      refine (c2_f2 hN (fun a b a' b' h1 h2 h3 h4 p1 p2 => ?_)).symm
      rw [← ct_ju h hN h1 h2] at p1
      rw [← ct_ju h hN h3 h4] at p2
      have q1 := (bt_pair hN (by omega) h2).mp (of_decide_eq_true p1).1
      have q2 := (bt_pair hN (by omega) h4).mp (of_decide_eq_true p2).1
      have r1 := (q2 a (by omega)).mp ((q1 a (by omega)).mpr (Or.inl rfl))
      have r2 := (q2 b h2).mp ((q1 b h2).mpr (Or.inr rfl))
      omega
    · rw [if_neg (show ¬ nI 2 = 0 by decide), if_pos (show nI 2 = 2 from rfl), if_neg (show ¬ nI 2 = 0 by decide), if_neg (show ¬ nI 2 = 1 by decide)]
