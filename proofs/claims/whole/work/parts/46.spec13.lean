theorem pk4 {F : Nat → Int32} {A : Nat → Nat → Int32} {p c : Nat} (hp : p < 8) (hc : c < 4) : pkS F A (3 + 4 * p + c) = A (1 + c) p := by
  unfold pkS
  rw [if_neg (by omega), if_neg (by omega), if_neg (by omega), if_pos (by omega), show (3 + 4 * p + c - 3) % 4 = c by omega, show (3 + 4 * p + c - 3) / 4 = p by omega]
theorem pk3 {F : Nat → Int32} {A : Nat → Nat → Int32} {l c : Nat} (hc : c < 3) : pkS F A (35 + 3 * l + c) = A (5 + c) l := by
  unfold pkS
  rw [if_neg (by omega), if_neg (by omega), if_neg (by omega), if_neg (by omega), show (35 + 3 * l + c - 35) % 3 = c by omega, show (35 + 3 * l + c - 35) / 3 = l by omega]
theorem tk4 {j p : Nat} {F : Nat → Int32} {A A1 : Nat → Nat → Int32} (hj : 8 ≤ j) (hp : p < 8) (hA : ∀ r, r ≠ j → A1 r = A r) (hJ : ∀ i, i < 3 + 4 * p → A1 j i = pkS F A i) :
    (∀ r, r ≠ j → tkA j 4 p (3 + 4 * p + 1 + 1 + 1) (tkA j 3 p (3 + 4 * p + 1 + 1) (tkA j 2 p (3 + 4 * p + 1) (tkA j 1 p (3 + 4 * p) A1))) r = A r) ∧
    ∀ i, i < 3 + 4 * (p + 1) → tkA j 4 p (3 + 4 * p + 1 + 1 + 1) (tkA j 3 p (3 + 4 * p + 1 + 1) (tkA j 2 p (3 + 4 * p + 1) (tkA j 1 p (3 + 4 * p) A1))) j i = pkS F A i := by
  refine ⟨fun r hr => by rw [tkA_r hr, tkA_r hr, tkA_r hr, tkA_r hr, hA r hr], fun i hi => ?_⟩
  have e := fun c hc => pk4 (F := F) (A := A) (p := p) (c := c) hp hc
  rw [tkA_j (by omega), tkA_j (by omega), tkA_j (by omega), tkA_j (by omega), tkA_r (by omega), tkA_r (by omega), tkA_r (by omega), tkA_r (by omega), tkA_r (by omega), tkA_r (by omega), hA 4 (by omega), hA 3 (by omega), hA 2 (by omega), hA 1 (by omega)]
  by_cases h3 : i = 3 + 4 * p + 1 + 1 + 1
  · rw [if_pos h3, h3]; exact (e 3 (by omega)).symm
  · rw [if_neg h3]
    by_cases h2 : i = 3 + 4 * p + 1 + 1
    · rw [if_pos h2, h2]; exact (e 2 (by omega)).symm
    · rw [if_neg h2]
      by_cases h1 : i = 3 + 4 * p + 1
      · rw [if_pos h1, h1]; exact (e 1 (by omega)).symm
      · rw [if_neg h1]
        by_cases h0 : i = 3 + 4 * p
        · rw [if_pos h0, h0]; exact (e 0 (by omega)).symm
        · rw [if_neg h0]; exact hJ i (by omega)
theorem tk3 {j l : Nat} {F : Nat → Int32} {A A1 : Nat → Nat → Int32} (hj : 8 ≤ j) (hA : ∀ r, r ≠ j → A1 r = A r) (hJ : ∀ i, i < 35 + 3 * l → A1 j i = pkS F A i) :
    (∀ r, r ≠ j → tkA j 7 l (35 + 3 * l + 1 + 1) (tkA j 6 l (35 + 3 * l + 1) (tkA j 5 l (35 + 3 * l) A1)) r = A r) ∧
    ∀ i, i < 35 + 3 * (l + 1) → tkA j 7 l (35 + 3 * l + 1 + 1) (tkA j 6 l (35 + 3 * l + 1) (tkA j 5 l (35 + 3 * l) A1)) j i = pkS F A i := by
  refine ⟨fun r hr => by rw [tkA_r hr, tkA_r hr, tkA_r hr, hA r hr], fun i hi => ?_⟩
  have e := fun c hc => pk3 (F := F) (A := A) (l := l) (c := c) hc
  rw [tkA_j (by omega), tkA_j (by omega), tkA_j (by omega), tkA_r (by omega), tkA_r (by omega), tkA_r (by omega), hA 7 (by omega), hA 6 (by omega), hA 5 (by omega)]
  by_cases h2 : i = 35 + 3 * l + 1 + 1
  · rw [if_pos h2, h2]; exact (e 2 (by omega)).symm
  · rw [if_neg h2]
    by_cases h1 : i = 35 + 3 * l + 1
    · rw [if_pos h1, h1]; exact (e 1 (by omega)).symm
    · rw [if_neg h1]
      by_cases h0 : i = 35 + 3 * l
      · rw [if_pos h0, h0]; exact (e 0 (by omega)).symm
      · rw [if_neg h0]; exact hJ i (by omega)
theorem upA_at {A : Nat → Nat → Int32} {r i r' i' : Nat} {v : Int32} : upA A r i v r' i' = if r' = r ∧ i' = i then v else A r' i' := by
  by_cases h : r' = r
  · subst h
    rw [upA_s]
    by_cases h2 : i' = i
    · simp [h2]
    · simp [h2]
  · rw [upA_n _ h]
    simp [h]
/-- the restoring loops' steps -/
def cgA (j p : Nat) (A A1 : Nat → Nat → Int32) : Prop := (∀ r, r = 0 ∨ 5 ≤ r → A1 r = A r) ∧ ∀ c x, c < 4 → A1 (1 + c) x = if x < p then A j (3 + 4 * x + c) else A (1 + c) x
def cgB (j l : Nat) (A A1 : Nat → Nat → Int32) : Prop := (∀ r, r = 0 ∨ 8 ≤ r → A1 r = A r) ∧ (∀ c x, c < 4 → A1 (1 + c) x = if x < 8 then A j (3 + 4 * x + c) else A (1 + c) x) ∧ ∀ c x, c < 3 → A1 (5 + c) x = if x < l then A j (35 + 3 * x + c) else A (5 + c) x
theorem cgA_0 {j : Nat} {A : Nat → Nat → Int32} : cgA j 0 A A := ⟨fun _ _ => rfl, fun c x _ => by rw [if_neg (by omega)]⟩
theorem cgA_s {j p : Nat} {A A1 : Nat → Nat → Int32} (hj : 8 ≤ j) (h : cgA j p A A1) : cgA j (p + 1) A (upA (upA (upA (upA A1 1 p (A1 j (3 + 4 * p))) 2 p (A1 j (3 + 4 * p + 1))) 3 p (A1 j (3 + 4 * p + 1 + 1))) 4 p (A1 j (3 + 4 * p + 1 + 1 + 1))) := by
  refine ⟨fun r hr => ?_, fun c x hc => ?_⟩
  · rw [upA_n _ (by omega), upA_n _ (by omega), upA_n _ (by omega), upA_n _ (by omega), h.1 r hr]
  · rw [h.1 j (by omega)]
    simp only [upA_at]
    by_cases hx : x = p
    · subst hx
      rw [if_pos (show x < x + 1 by omega)]
      match c, hc with
      | 0, _ => simp
      | 1, _ => simp
      | 2, _ => simp
      | 3, _ => simp
    · simp only [hx, and_false, if_false]
      rw [h.2 c x hc]
      have : x < p ↔ x < p + 1 := by omega
      simp only [this]
theorem cgB_0 {j : Nat} {A A1 : Nat → Nat → Int32} (h : cgA j 8 A A1) : cgB j 0 A A1 := ⟨fun r hr => h.1 r (by omega), h.2, fun c x hc => by rw [h.1 (5 + c) (by omega), if_neg (by omega)]⟩
theorem cgB_s {j l : Nat} {A A1 : Nat → Nat → Int32} (hj : 8 ≤ j) (h : cgB j l A A1) : cgB j (l + 1) A (upA (upA (upA A1 5 l (A1 j (35 + 3 * l))) 6 l (A1 j (35 + 3 * l + 1))) 7 l (A1 j (35 + 3 * l + 1 + 1))) := by
  refine ⟨fun r hr => ?_, fun c x hc => ?_, fun c x hc => ?_⟩
  · rw [upA_n _ (by omega), upA_n _ (by omega), upA_n _ (by omega), h.1 r hr]
  · rw [upA_n _ (by omega), upA_n _ (by omega), upA_n _ (by omega), h.2.1 c x hc]
  · rw [h.1 j (by omega)]
    simp only [upA_at]
    by_cases hx : x = l
    · subst hx
      rw [if_pos (show x < x + 1 by omega)]
      match c, hc with
      | 0, _ => simp
      | 1, _ => simp
      | 2, _ => simp
    · simp only [hx, and_false, if_false]
      rw [h.2.2 c x hc]
      have : x < l ↔ x < l + 1 := by omega
      simp only [this]
/-- opened, thought in the rows, closed: all is as before -/
theorem kp3 {F F1 F2 F3 : Nat → Int32} {A A1 A2 A3 : Nat → Nat → Int32} (h1 : opR 17 F A F1 A1) (h2 : ∀ r, r = 0 ∨ 8 ≤ r → A2 r = A1 r) (h3 : ∀ c p, c < 4 → 8 ≤ p → A2 (1 + c) p = A1 (1 + c) p) (h4 : ∀ c l, c < 3 → 5 ≤ l → A2 (5 + c) l = A1 (5 + c) l) (h5 : clR 17 F2 A2 F3 A3) :
    F3 0 = F 0 ∧ F3 5 = F 5 ∧ F3 9 = F 9 ∧ (∀ r, r ≠ 17 → A3 r = A r) ∧ A3 17 = A1 17 := by
  obtain ⟨-, a2, a3⟩ := h1
  obtain ⟨-, b0, b5, b9, b1, b2, b3⟩ := h5
  have k := h2 17 (by omega)
  refine ⟨by rw [b0, k, a3 0 (by omega)]; rfl, by rw [b5, k, a3 1 (by omega)]; rfl, by rw [b9, k, a3 2 (by omega)]; rfl, fun r hr => ?_, by rw [b1 17 (by omega), k]⟩
  by_cases h : r = 0 ∨ 8 ≤ r
  · rw [b1 r h, h2 r h, a2 r hr]
  · by_cases h6 : r < 5
    · obtain ⟨c, hc, rfl⟩ : ∃ c, c < 4 ∧ r = 1 + c := ⟨r - 1, by omega, by omega⟩
      funext p
      rw [b2 c p hc]
      by_cases hp : p < 8
      · rw [if_pos hp, k, a3 _ (by omega), pk4 hp hc]
      · rw [if_neg hp, h3 c p hc (by omega), a2 _ hr]
    · obtain ⟨c, hc, rfl⟩ : ∃ c, c < 3 ∧ r = 5 + c := ⟨r - 5, by omega, by omega⟩
      funext p
      rw [b3 c p hc]
      by_cases hp : p < 5
      · rw [if_pos hp, k, a3 _ (by omega), pk3 hc]
      · rw [if_neg hp, h4 c p hc (by omega), a2 _ hr]
/-- only who sits where has changed, of at most eight -/
def seR (A A2 : Nat → Nat → Int32) : Prop := (∀ r, r ≠ 4 → A2 r = A r) ∧ ∀ p, 8 ≤ p → A2 4 p = A 4 p
theorem seR_0 {A : Nat → Nat → Int32} : seR A A := ⟨fun _ _ => rfl, fun _ _ => rfl⟩
theorem seR_sw {A A2 : Nat → Nat → Int32} {a b : Nat} (ha : a < 8) (hb : b < 8) (h : seR A A2) : seR A (swS A2 a b) :=
  ⟨fun r hr => by rw [swS_row hr, h.1 r hr], fun p hp => by rw [swS_4, if_neg (by omega), if_neg (by omega), h.2 p hp]⟩
theorem seR_up {A A2 : Nat → Nat → Int32} {a : Nat} {v : Int32} (ha : a < 8) (h : seR A A2) : seR A (upA A2 4 a v) :=
  ⟨fun r hr => by rw [upA_n _ hr, h.1 r hr], fun p hp => by rw [upA_s]; simp only []; rw [if_neg (by omega), h.2 p hp]⟩
theorem kp4 {F F1 F2 F3 : Nat → Int32} {A A1 A2 A3 : Nat → Nat → Int32} (h1 : opR 17 F A F1 A1) (h2 : seR A1 A2) (h5 : clR 17 F2 A2 F3 A3) :
    F3 0 = F 0 ∧ F3 5 = F 5 ∧ F3 9 = F 9 ∧ (∀ r, r ≠ 17 → A3 r = A r) ∧ A3 17 = A1 17 := by
  refine kp3 h1 (fun r hr => h2.1 r (by omega)) (fun c p hc hp => ?_) (fun c l hc hl => by rw [h2.1 _ (by omega)]) h5
  by_cases e : 1 + c = 4
  · rw [e]; exact h2.2 p hp
  · rw [h2.1 _ e]
/-- the same school: of the answers -/
def EqR (A A' : Nat → Nat → Int32) : Prop := ∀ r, r < 8 → A' r = A r
theorem EqR.ct {A A' : Nat → Nat → Int32} (h : EqR A A') (N p : Nat) : ctS N A' p = ctS N A p := by
  unfold ctS cpS brS trS
  rw [h 1 (by decide), h 2 (by decide), h 4 (by decide), h 5 (by decide), h 6 (by decide)]
theorem EqR.al {A A' : Nat → Nat → Int32} (h : EqR A A') (N : Nat) : alS N A' = alS N A := by
  unfold alS
  rw [show ctS N A' = ctS N A from funext (h.ct N)]
theorem EqR.sw {A A' : Nat → Nat → Int32} (h : EqR A A') (a b : Nat) : EqR (swS A a b) (swS A' a b) := by
  intro r hr
  by_cases e : r = 4
  · subst e
    funext i
    rw [swS_4, swS_4, h 4 hr]
  · rw [swS_row e, swS_row e, h r hr]
theorem EqR.nx {A A' : Nat → Nat → Int32} (h : EqR A A') (N : Nat) : nxS N A' = nxS N A := by
  have e : ncP N A' = ncP N A := by
    funext a b
    unfold ncP
    rw [h.ct, h.ct, (h.sw a b).ct, (h.sw a b).ct, h 4 (by decide)]
  unfold nxS
  rw [e]
theorem EqR.cl {A A' : Nat → Nat → Int32} (h : EqR A A') : clP A' = clP A := by
  funext a b
  unfold clP
  rw [h 4 (by decide), h 3 (by decide)]
theorem f1B_nI {P : Nat → Bool} {a : Nat} {z : Int32} : ∀ (k j : Nat), f1B P a z j k = z ∨ ∃ b, j ≤ b ∧ b < j + k ∧ P b = true ∧ f1B P a z j k = nI (10 * a + b)
  | 0, _ => Or.inl rfl
  | k + 1, j => by
    unfold f1B
    by_cases h : P j = true
    · rw [if_pos h]
      exact Or.inr ⟨j, Nat.le_refl _, by omega, h, rfl⟩
    · rw [if_neg h]
      rcases f1B_nI (P := P) (a := a) (z := z) k (j + 1) with e | ⟨b, h1, h2, h3, h4⟩
      · exact Or.inl e
      · exact Or.inr ⟨b, by omega, by omega, h3, h4⟩
theorem f2B_nI {P : Nat → Nat → Bool} {N : Nat} : ∀ (k j : Nat), j + k = N → f2B P N j k = -4 ∨ ∃ a b, j ≤ a ∧ a < b ∧ b < N ∧ P a b = true ∧ f2B P N j k = nI (10 * a + b)
  | 0, _, _ => Or.inl rfl
  | k + 1, j, hk => by
    unfold f2B
    rcases f1B_nI (P := P j) (a := j) (z := f2B P N (j + 1) k) (N - (j + 1)) (j + 1) with e | ⟨b, h1, h2, h3, h4⟩
    · rw [e]
      rcases f2B_nI (P := P) (N := N) k (j + 1) (by omega) with e2 | ⟨a, b, h1, h2, h3, h4, h5⟩
      · exact Or.inl e2
      · exact Or.inr ⟨a, b, by omega, h2, h3, h4, h5⟩
    · exact Or.inr ⟨j, b, Nat.le_refl _, by omega, by omega, h3, h4⟩
/-- the first of all changes, if there is one -/
theorem nxS_nI {N : Nat} {A : Nat → Nat → Int32} (h : ¬ nxS N A < 0) : ∃ a b, a < b ∧ b < N ∧ nxS N A = nI (10 * a + b) := by
  rcases f2B_nI (P := ncP N A) (N := N) N 0 (by omega) with e | ⟨a, b, -, h2, h3, -, h5⟩
  · exact absurd (show nxS N A < 0 by unfold nxS; rw [e]; decide) h
  · exact ⟨a, b, h2, h3, h5⟩
def chg (A : Nat → Nat → Int32) (x : Int32) : Nat → Nat → Int32 := swS A (x.toNatClampNeg / 10) (x.toNatClampNeg % 10)
theorem chg_i {A : Nat → Nat → Int32} {x : Int32} {a b : Nat} (hb : b < 10) (ha : a < 10) (h : x = nI (10 * a + b)) : chg A x = swS A a b := by
  unfold chg
  rw [h, nI_clamp (by omega), show (10 * a + b) / 10 = a by omega, show (10 * a + b) % 10 = b by omega]
theorem EqR.cg {A A' : Nat → Nat → Int32} (h : EqR A A') (x : Int32) : EqR (chg A x) (chg A' x) := h.sw _ _
def chC (N : Nat) : Nat → (Nat → Nat → Int32) → Nat
  | 0, _ => 0
  | f + 1, A => if nxS N A < 0 then 0 else chC N f (chg A (nxS N A)) + 1
def chE (N : Nat) : Nat → (Nat → Nat → Int32) → Nat → Nat → Int32
  | 0, A => A
  | f + 1, A => if nxS N A < 0 then A else chE N f (chg A (nxS N A))
theorem EqR.ch {N : Nat} : ∀ (f : Nat) {A A' : Nat → Nat → Int32}, EqR A A' → chC N f A' = chC N f A ∧ EqR (chE N f A) (chE N f A')
  | 0, A, A', h => ⟨rfl, h⟩
  | f + 1, A, A', h => by
    unfold chC chE
    rw [h.nx N]
    by_cases e : nxS N A < 0
    · rw [if_pos e, if_pos e, if_pos e, if_pos e]
      exact ⟨rfl, h⟩
    · rw [if_neg e, if_neg e, if_neg e, if_neg e]
      have ih := EqR.ch (N := N) f (h.cg (nxS N A))
      exact ⟨by rw [ih.1], ih.2⟩
def agrS (N : Nat) (A : Nat → Nat → Int32) : Int32 := if nxS N (chE N 60 A) < 0 then nI (chC N 60 A) else -4
theorem EqR.agr {N : Nat} {A A' : Nat → Nat → Int32} (h : EqR A A') : agrS N A' = agrS N A := by
  have := EqR.ch (N := N) 60 h
  unfold agrS
  rw [this.1, this.2.nx N]
theorem opR.eq {F F1 : Nat → Int32} {A A1 : Nat → Nat → Int32} {j : Nat} (hj : 8 ≤ j) (h : opR j F A F1 A1) : EqR A A1 := fun r hr => h.2.1 r (by omega)
theorem seR.tr {A A1 A2 : Nat → Nat → Int32} (h1 : seR A A1) (h2 : seR A1 A2) : seR A A2 := ⟨fun r hr => by rw [h2.1 r hr, h1.1 r hr], fun p hp => by rw [h2.2 p hp, h1.2 p hp]⟩
/-! the list -/
def liV (M p : Nat) : Int32 := if p / 2 < M then nI (p / 2) else 9
def liA (N M : Nat) (A : Nat → Nat → Int32) : Nat → Nat → Int32 := fun r => if r = 4 then (fun i => if i < N then liV M i else A 4 i) else A r
theorem liA_0 {M : Nat} {A : Nat → Nat → Int32} : liA 0 M A = A := by
  funext r i
  unfold liA
  by_cases h : r = 4
  · subst h; simp
  · simp [h]
theorem liA_s {k M : Nat} {A : Nat → Nat → Int32} : upA (liA k M A) 4 k (liV M k) = liA (k + 1) M A := by
  funext r i
  unfold upA liA
  by_cases h : r = 4
  · subst h
    by_cases h2 : i = k
    · subst h2; simp
    · have : i < k ↔ i < k + 1 := by omega
      simp [h2, this]
  · simp [h]
theorem liA_rw {N M : Nat} {A : Nat → Nat → Int32} (hN : N ≤ 8) : seR A (liA N M A) := ⟨fun r hr => by simp [liA, hr], fun p hp => by simp [liA, show ¬ p < N by omega]⟩
theorem liA_in {N M : Nat} {A : Nat → Nat → Int32} : insOK N M (liA N M A 4) := by
  intro p hp
  have e : liA N M A 4 p = liV M p := by simp [liA, hp]
  rw [e]
  unfold liV
  by_cases h : p / 2 < M
  · rw [if_pos h]; exact Or.inr ⟨_, h, rfl⟩
  · rw [if_neg h]; exact Or.inl rfl
theorem EqR.li {A A' : Nat → Nat → Int32} (h : EqR A A') (N M : Nat) : EqR (liA N M A) (liA N M A') := by
  intro r hr
  unfold liA
  by_cases e : r = 4
  · subst e; simp [h 4 hr]
  · simp [e, h r hr]
def lisS (N M : Nat) (A : Nat → Nat → Int32) (what : Int32) : Int32 := if okr what 0 1 then (if what = 0 then alS N (liA N M A) else cnS (fun p => decide (¬ A 4 p = liV M p)) N) else 1000000001
/-! told changes -/
def jdX (N : Nat) (A : Nat → Nat → Int32) (k : Nat) : Int32 := if 60 < k then -4 else nxS N A
def jdS (N : Nat) (A : Nat → Nat → Int32) : Nat → Bool × (Nat → Nat → Int32)
  | 0 => (true, A)
  | k + 1 => (((jdS N A k).1 && !decide (jdX N (jdS N A k).2 (k + 1) < 0)), if ((jdS N A k).1 && !decide (jdX N (jdS N A k).2 (k + 1) < 0)) then chg (jdS N A k).2 (nxS N (jdS N A k).2) else (jdS N A k).2)
theorem EqR.jd {A A' : Nat → Nat → Int32} (h : EqR A A') (N : Nat) : ∀ k, (jdS N A' k).1 = (jdS N A k).1 ∧ EqR (jdS N A k).2 (jdS N A' k).2
  | 0 => ⟨rfl, h⟩
  | k + 1 => by
    obtain ⟨i1, i2⟩ := EqR.jd h N k
    have e : jdX N (jdS N A' k).2 (k + 1) = jdX N (jdS N A k).2 (k + 1) := by unfold jdX; rw [i2.nx N]
    have e1 : (jdS N A' (k + 1)).1 = (jdS N A (k + 1)).1 := by
      show (_ && _) = (_ && _)
      rw [i1, e]
    refine ⟨e1, ?_⟩
    show EqR (if (jdS N A (k + 1)).1 = true then chg (jdS N A k).2 (nxS N (jdS N A k).2) else (jdS N A k).2) (if (jdS N A' (k + 1)).1 = true then chg (jdS N A' k).2 (nxS N (jdS N A' k).2) else (jdS N A' k).2)
    rw [e1]
    by_cases c : (jdS N A (k + 1)).1 = true
    · rw [if_pos c, if_pos c, i2.nx N]
      exact i2.cg _
    · rw [if_neg c, if_neg c]
      exact i2
def jdP (N : Nat) (A : Nat → Nat → Int32) (L : Nat → Nat → Int64) (d k : Nat) : Bool := decide (¬ (L 13 (100 * d + k) = skS (A 11 d) ∨ ((jdS N A k).1 = true ∧ L 13 (100 * d + k) = (alS N (jdS N A k).2).toInt64)))
def judV (N : Nat) (A : Nat → Nat → Int32) (L : Nat → Nat → Int64) (d R : Nat) : Int32 := fsB (jdP N A L d) 0 R
def judS (N : Nat) (A : Nat → Nat → Int32) (L : Nat → Nat → Int64) (d : Int32) : Int32 := if wkS (A 8) 2 d < 0 then wkS (A 8) 2 d else judV N A L d.toNatClampNeg (A 12 d.toNatClampNeg).toNatClampNeg
/-! terms -/
def teZ (z : Int32) : Nat → Int32
  | 0 => z
  | k + 1 => sdS (sdS (teZ z k))
def teA (N : Nat) (A : Nat → Nat → Int32) (z : Int32) : Nat → Nat → Nat → Int32
  | 0 => A
  | k + 1 => swS (teA N A z k) (drS (sdS (teZ z k)) (nI N)).toNatClampNeg (drS (sdS (sdS (teZ z k))) (nI N)).toNatClampNeg
def teC (N : Nat) (A : Nat → Nat → Int32) (z : Int32) : Nat → Int32
  | 0 => 0
  | k + 1 => teC N A z k + c2B (clP (teA N A z (k + 1))) N 0 N
theorem EqR.te {A A' : Nat → Nat → Int32} (h : EqR A A') (N : Nat) (z : Int32) : ∀ k, EqR (teA N A z k) (teA N A' z k)
  | 0 => h
  | k + 1 => (EqR.te h N z k).sw _ _
theorem EqR.tc {A A' : Nat → Nat → Int32} (h : EqR A A') (N : Nat) (z : Int32) : ∀ k, teC N A' z k = teC N A z k
  | 0 => rfl
  | k + 1 => by
    unfold teC
    rw [EqR.tc h N z k, (h.te N z (k + 1)).cl]
def terV (N : Nat) (A : Nat → Nat → Int32) (x : Nat) (z what : Int32) : Int32 := if what = 0 then smS (fun t => alS N (teA N A (teZ z (10 * t)) 10)) x else smS (fun t => teC N A (teZ z (10 * t)) 10) x
def terS (N : Nat) (A : Nat → Nat → Int32) (x z what : Int32) : Int32 := if okr x 1 20 ∧ okr what 0 1 then (if nI N < 2 then 1000000003 else terV N A x.toNatClampNeg z what) else 1000000001
theorem drS_nI (z : Int32) {N : Nat} (h0 : 0 < N) (hN : N < 2 ^ 15) : ∃ j, j < N ∧ drS z (nI N) = nI j := by
  have h1 : ¬ (z &&& 2147483647) < 0 := by
    intro h
    have e : (z &&& 2147483647).toBitVec = z.toBitVec &&& 2147483647#32 := rfl
    have h2 := (i32_lt _ _).mp h
    have h3 : (z &&& 2147483647).toInt = ((z &&& 2147483647).toBitVec).toInt := rfl
    rw [h3, e] at h2
    have h4 : (z.toBitVec &&& 2147483647#32).toNat ≤ 2147483647 := by
      rw [BitVec.toNat_and]
      exact Nat.and_le_right
    rw [BitVec.toInt_eq_toNat_of_lt (by omega)] at h2
    have h5 : ((0 : Int32).toInt) = 0 := rfl
    omega
  obtain ⟨j, hj, e⟩ := nI_of h1
  refine ⟨j / 65536 % N, Nat.mod_lt _ h0, ?_⟩
  unfold drS
  rw [e, show (65536 : Int32) = nI 65536 from rfl, pk_div hj (by omega) (by omega), pk_rem (by omega) h0 (by omega)]
theorem teZ_add (z : Int32) (a : Nat) : ∀ b, teZ (teZ z a) b = teZ z (a + b)
  | 0 => rfl
  | b + 1 => by
    show sdS (sdS (teZ (teZ z a) b)) = sdS (sdS (teZ z (a + b)))
    rw [teZ_add z a b]
theorem teA_rw {N : Nat} {A : Nat → Nat → Int32} {z : Int32} (h0 : 0 < N) (hN : N ≤ 8) : ∀ k, seR A (teA N A z k)
  | 0 => seR_0
  | k + 1 => by
    obtain ⟨a, ha, ea⟩ := drS_nI (sdS (teZ z k)) h0 (by omega)
    obtain ⟨b, hb, eb⟩ := drS_nI (sdS (sdS (teZ z k))) h0 (by omega)
    unfold teA
    rw [ea, eb, nI_clamp (by omega), nI_clamp (by omega)]
    exact seR_sw (by omega) (by omega) (teA_rw h0 hN k)
theorem teA_in {N M : Nat} {A : Nat → Nat → Int32} {z : Int32} (h0 : 0 < N) (hN : N ≤ 8) (h : insOK N M (A 4)) : ∀ k, insOK N M (teA N A z k 4)
  | 0 => h
  | k + 1 => by
    obtain ⟨a, ha, ea⟩ := drS_nI (sdS (teZ z k)) h0 (by omega)
    obtain ⟨b, hb, eb⟩ := drS_nI (sdS (sdS (teZ z k))) h0 (by omega)
    unfold teA
    rw [ea, eb, nI_clamp (by omega), nI_clamp (by omega)]
    exact insOK_sw (teA_in h0 hN h k) ha hb
/-! odds -/
def goN (l t n part : Nat) : Nat := if part = 0 then (t ^ n - (t - 1) ^ n) ^ l else (t ^ n) ^ l
