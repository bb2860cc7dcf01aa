/-! what both agree to, told as the reference tells it -/
theorem cpS_sw {A : Nat → Nat → Int32} {a b p : Nat} {l m : Int32} : cpS (swS A a b) p l m = cpS A p l m := by
  have h1 : swS A a b 1 = A 1 := swS_row (by decide)
  have h2 : swS A a b 2 = A 2 := swS_row (by decide)
  have h5 : swS A a b 5 = A 5 := swS_row (by decide)
  have h6 : swS A a b 6 = A 6 := swS_row (by decide)
  unfold cpS brS trS
  rw [h1, h2, h5, h6]
theorem mateS_swa {N a b : Nat} {A : Nat → Nat → Int32} (h : ¬ A 4 a = A 4 b) : mateS N (swS A a b 4) a = mateS N (A 4) b := by
  have hab : ¬ a = b := fun z => h (by rw [z])
  unfold mateS
  refine fsB_congr _ _ (fun o _ _ => ?_)
  unfold mateP
  apply decide_eq_decide.mpr
  rw [swS_4, swS_4, if_neg hab, if_pos rfl]
  by_cases e : o = b
  · subst e
    rw [if_pos rfl]
    exact ⟨fun z => absurd z.2.2 h, fun z => absurd rfl z.1⟩
  · rw [if_neg e]
    by_cases e2 : o = a
    · subst e2
      rw [if_pos rfl]
      exact ⟨fun z => absurd rfl z.1, fun z => absurd z.2.2 h⟩
    · rw [if_neg e2]
      exact ⟨fun z => ⟨e, z.2⟩, fun z => ⟨e2, z.2⟩⟩
theorem mateS_swb {N a b : Nat} {A : Nat → Nat → Int32} (h : ¬ A 4 a = A 4 b) : mateS N (swS A a b 4) b = mateS N (A 4) a := by
  have hab : ¬ a = b := fun z => h (by rw [z])
  unfold mateS
  refine fsB_congr _ _ (fun o _ _ => ?_)
  unfold mateP
  apply decide_eq_decide.mpr
  rw [swS_4, swS_4, if_pos rfl]
  by_cases e : o = b
  · subst e
    exact ⟨fun z => absurd rfl z.1, fun z => absurd z.2.2.symm h⟩
  · rw [if_neg e]
    by_cases e2 : o = a
    · subst e2
      rw [if_pos rfl]
      exact ⟨fun z => absurd z.2.2.symm h, fun z => absurd rfl z.1⟩
    · rw [if_neg e2]
      exact ⟨fun z => ⟨e2, z.2⟩, fun z => ⟨e, z.2⟩⟩
theorem ctS_swa {N a b : Nat} {A : Nat → Nat → Int32} (h : ¬ A 4 a = A 4 b) : ctS N (swS A a b) a = cpS A a (A 4 b) (mateS N (A 4) b) := by
  have hab : ¬ a = b := fun z => h (by rw [z])
  unfold ctS
  rw [cpS_sw, mateS_swa h, swS_4, if_neg hab, if_pos rfl]
theorem ctS_swb {N a b : Nat} {A : Nat → Nat → Int32} (h : ¬ A 4 a = A 4 b) : ctS N (swS A a b) b = cpS A b (A 4 a) (mateS N (A 4) a) := by
  unfold ctS
  rw [cpS_sw, mateS_swb h, swS_4, if_pos rfl]
theorem agP_nc {N a b : Nat} {A : Nat → Nat → Int32} : agP N A a b = ncP N A a b := by
  unfold agP ncP
  apply decide_eq_decide.mpr
  by_cases h : A 4 a = A 4 b
  · exact ⟨fun z => absurd h z.1, fun z => absurd h z.1⟩
  · rw [ctS_swa h, ctS_swb h]
    unfold enS
    exact ⟨fun z => ⟨z.1, of_decide_eq_true z.2.1, of_decide_eq_true z.2.2⟩, fun z => ⟨z.1, decide_eq_true z.2.1, decide_eq_true z.2.2⟩⟩
theorem axS_nx {N : Nat} {A : Nat → Nat → Int32} : f2B (agP N A) N 0 N = nxS N A := by
  unfold nxS
  rw [show agP N A = ncP N A from funext fun a => funext fun b => agP_nc]
theorem nxS_4 {N : Nat} {A : Nat → Nat → Int32} (hN : N ≤ 8) : nxS N A = -4 ↔ nxS N A < 0 := by
  constructor
  · intro h
    rw [h]
    decide
  · intro h
    rcases f2B_nI (P := ncP N A) (N := N) N 0 (by omega) with e | ⟨a, b, h1, h2, h3, h4, e⟩
    · exact e
    · have h : f2B (ncP N A) N 0 N < 0 := h
      rw [e] at h
      exact absurd h (nI_pos (by omega))
/-- the state of the one who is only tried keeps all but the places -/
def tsH (G : GX) (m0 : Mem) (s n N M : Nat) (F : Nat → Int32) (W : Nat → Option Nat) (A : Nat → Nat → Int32) (B : Nat → Int32) : Prop := (F 0 = nI N) ∧ (N ≤ 8) ∧ (F 1 = nI M) ∧ (M ≤ 5) ∧ (∀ a b, a < N → b < N → B (a * 8 + b) = brS A a b) ∧ (whoOK G m0 s n W A) ∧ (∀ l, l < M → A 6 l = 0 ∨ A 6 l = 1) ∧ (insOK N M (A 4))
theorem tsH.hN {G : GX} {m0 : Mem} {s n N M : Nat} {F : Nat → Int32} {W : Nat → Option Nat} {A : Nat → Nat → Int32} {B : Nat → Int32} (h : tsH G m0 s n N M F W A B) : F 0 = nI N := h.1
theorem tsH.hN8 {G : GX} {m0 : Mem} {s n N M : Nat} {F : Nat → Int32} {W : Nat → Option Nat} {A : Nat → Nat → Int32} {B : Nat → Int32} (h : tsH G m0 s n N M F W A B) : N ≤ 8 := h.2.1
theorem tsH.hM {G : GX} {m0 : Mem} {s n N M : Nat} {F : Nat → Int32} {W : Nat → Option Nat} {A : Nat → Nat → Int32} {B : Nat → Int32} (h : tsH G m0 s n N M F W A B) : F 1 = nI M := h.2.2.1
theorem tsH.hM5 {G : GX} {m0 : Mem} {s n N M : Nat} {F : Nat → Int32} {W : Nat → Option Nat} {A : Nat → Nat → Int32} {B : Nat → Int32} (h : tsH G m0 s n N M F W A B) : M ≤ 5 := h.2.2.2.1
theorem tsH.hbe {G : GX} {m0 : Mem} {s n N M : Nat} {F : Nat → Int32} {W : Nat → Option Nat} {A : Nat → Nat → Int32} {B : Nat → Int32} (h : tsH G m0 s n N M F W A B) : ∀ a b, a < N → b < N → B (a * 8 + b) = brS A a b := h.2.2.2.2.1
theorem tsH.hw {G : GX} {m0 : Mem} {s n N M : Nat} {F : Nat → Int32} {W : Nat → Option Nat} {A : Nat → Nat → Int32} {B : Nat → Int32} (h : tsH G m0 s n N M F W A B) : whoOK G m0 s n W A := h.2.2.2.2.2.1
theorem tsH.hab {G : GX} {m0 : Mem} {s n N M : Nat} {F : Nat → Int32} {W : Nat → Option Nat} {A : Nat → Nat → Int32} {B : Nat → Int32} (h : tsH G m0 s n N M F W A B) : ∀ l, l < M → A 6 l = 0 ∨ A 6 l = 1 := h.2.2.2.2.2.2.1
theorem tsH.hI {G : GX} {m0 : Mem} {s n N M : Nat} {F : Nat → Int32} {W : Nat → Option Nat} {A : Nat → Nat → Int32} {B : Nat → Int32} (h : tsH G m0 s n N M F W A B) : insOK N M (A 4) := h.2.2.2.2.2.2.2
theorem tsH.seR {G : GX} {m0 : Mem} {s n N M : Nat} {F : Nat → Int32} {W : Nat → Option Nat} {A A1 : Nat → Nat → Int32} {B : Nat → Int32} (h : tsH G m0 s n N M F W A B) (hs : ∀ r, r ≠ 4 → A1 r = A r) (hI : insOK N M (A1 4)) : tsH G m0 s n N M F W A1 B :=
  ⟨h.hN, h.hN8, h.hM, h.hM5, fun a b ha hb => (h.hbe a b ha hb).trans (by unfold brS; rw [hs 1 (by decide), hs 2 (by decide)]), fun p hp => by
    rw [hs 1 (by decide), hs 2 (by decide)]
    exact h.hw p hp, fun l hl => by
    rw [hs 6 (by decide)]
    exact h.hab l hl, hI⟩
theorem e_X5_changeFirstAgreed2 {G : GX} {m0 : Mem} {s n N M : Nat} {F : Nat → Int32} {W : Nat → Option Nat} {A : Nat → Nat → Int32} {B : Nat → Int32} (hq : G.2.1 ≤ s) (hn : s + 8 ≤ n) (h : tsH G m0 s n N M F W A B) : Ev G mX5_changeFirstAgreed 6 0 0 [.ref s] (sc G m0 s F W A B) n (fun r f1 n1 => r = some (.int (if nxS N A < 0 then 0 else 1)) ∧ f1 = sc G m0 s F W (if nxS N A < 0 then A else chg A (nxS N A)) B ∧ n1 = n) := by
  refine (e_X5_changeFirstAgreed hq hn h.hN h.hN8 h.hM h.hM5 h.hbe h.hw h.hab h.hI).mono (fun r f1 n1 z => ?_)
  rw [axS_nx] at z
  by_cases c : nxS N A < 0
  · rw [if_pos ((nxS_4 h.hN8).mpr c), if_pos ((nxS_4 h.hN8).mpr c)] at z
    rw [if_pos c, if_pos c]
    exact z
  · rw [if_neg (mt (nxS_4 h.hN8).mp c), if_neg (mt (nxS_4 h.hN8).mp c)] at z
    rw [if_neg c, if_neg c]
    exact z
theorem e_X5_firstAgreed2 {G : GX} {m0 : Mem} {s n N M : Nat} {F : Nat → Int32} {W : Nat → Option Nat} {A : Nat → Nat → Int32} {B : Nat → Int32} (hq : G.2.1 ≤ s) (hn : s + 8 ≤ n) (h : tsH G m0 s n N M F W A B) : Ev G mX5_firstAgreed 5 0 0 [.ref s] (sc G m0 s F W A B) n (RD (.int (nxS N A)) (sc G m0 s F W A B) n) := by
  have z := e_X5_firstAgreed hq hn h.hN h.hN8 h.hM h.hM5 h.hbe h.hw h.hab h.hI
  rw [axS_nx] at z
  exact z
theorem cg_seR {N M : Nat} {A A1 : Nat → Nat → Int32} (hN : N ≤ 8) (hI : insOK N M (A1 4)) (hs : seR A A1) (h : ¬ nxS N A1 < 0) : insOK N M (chg A1 (nxS N A1) 4) ∧ seR A (chg A1 (nxS N A1)) := by
  obtain ⟨a, b, h1, h2, h3⟩ := nxS_nI h
  rw [chg_i (by omega) (by omega) h3]
  exact ⟨insOK_sw hI (show a < N by omega) h2, seR_sw (show a < 8 by omega) (show b < 8 by omega) hs⟩
