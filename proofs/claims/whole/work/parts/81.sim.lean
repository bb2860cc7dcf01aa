/-! memories that look alike: rows that differ only behind their ends -/
def simE (x z : va_E) : Prop := z = x ∨ ∃ (cA : ClassId) (a a2 : vp_A), x = .inl (cA, a) ∧ z = .inl (cA, a2) ∧ vp_cell cA a = vp_cell cA a2
def sim (f f2 : Mem) : Prop := ∀ a, simE (f a) (f2 a)
theorem arr_eq {cA : ClassId} {len : Nat} {g g2 : Nat → Value} (h : ∀ i, i < len → g i = g2 i) : arrV cA len g = arrV cA len g2 := by
  unfold arrV
  have : (fun j : Fin len => g j.val) = fun j : Fin len => g2 j.val := by
    funext j
    exact h j.val j.isLt
  rw [this]
theorem simE.rfl' {x : va_E} : simE x x := Or.inl rfl
theorem simE.i {G : GX} {len : Nat} {g g2 : Nat → Int32} (h : ∀ i, i < len → g i = g2 i) : simE (ia G len g) (ia G len g2) := Or.inr ⟨_, _, _, rfl, rfl, by
  rw [vp_cell_i, vp_cell_i]
  exact arr_eq (fun i hi => by rw [h i hi])⟩
theorem simE.o {G : GX} {t len : Nat} {g g2 : Nat → Option Nat} (h : ∀ i, i < len → g i = g2 i) : simE (oa G t len g) (oa G t len g2) := Or.inr ⟨_, _, _, rfl, rfl, by
  rw [vp_cell_q, vp_cell_q]
  exact arr_eq (fun i hi => by rw [h i hi])⟩
theorem simE.l {G : GX} {len : Nat} {g g2 : Nat → Int64} (h : ∀ i, i < len → g i = g2 i) : simE (ja G len g) (ja G len g2) := Or.inr ⟨_, _, _, rfl, rfl, by
  rw [vp_cell_l, vp_cell_l]
  exact arr_eq (fun i hi => by rw [h i hi])⟩
theorem gP.sim {G : GX} {f f2 : Mem} {n : Nat} {H : Heap} (h : gP G f n H) (hs : sim f f2) : gP G f2 n H := by
  refine ⟨h.1, h.2.1, fun x h1 h2 => ?_⟩
  rcases hs x with e | ⟨cA, a, a2, e1, e2, e3⟩
  · rw [e]
    exact h.2.2 x h1 h2
  · rcases h.2.2 x h1 h2 with z | z
    · rw [e1] at z
      cases z
    · rw [e1] at z
      rw [e2]
      have h5 : H[x]? = some (vp_cell cA a) := z
      refine Or.inr ?_
      show H[x]? = some (vp_cell cA a2)
      rw [h5, e3]
theorem Ev.sim {G : GX} {y : MD} {d mc ms : Nat} {as : List Value} {f : Mem} {n : Nat} {Q Q2 : RQ} (h : Ev G y d mc ms as f n Q) (hq : ∀ r f1 n1, Q r f1 n1 → ∃ f2, sim f1 f2 ∧ Q2 r f2 n1) : Ev G y d mc ms as f n Q2 := by
  intro p e ha hc hk s m args below hf hs hP hX
  obtain ⟨k, o, z1, z2, z3, ⟨⟨r, f1, n1, w1, w2, w3⟩, w4⟩, w5⟩ := h p e ha hc hk s m args below hf hs hP hX
  obtain ⟨f2, w6, w7⟩ := hq _ _ _ w2
  exact ⟨k, o, z1, z2, z3, ⟨⟨r, f2, n1, w1, w7, w3.sim w6⟩, w4⟩, w5⟩
/-- and before a call, or anywhere -/
theorem go_sim {G : GX} {y : MD} {d mc ms : Nat} {Q : RQ} {kc ks pc : Nat} {ls : List (Option Value)} {st : List Value} {f f2 : Mem} {n : Nat} (h : sim f f2) (k : Go G y d mc ms Q kc ks pc ls st f2 n) : Go G y d mc ms Q kc ks pc ls st f n :=
  fun p e s m args below meth c C H locs la hP hS hl => k p e s m args below meth c C H locs la (hP.sim h) hS hl
theorem sc_sim {G : GX} {m0 m2 : Mem} {s : Nat} {F F' : Nat → Int32} {W W' : Nat → Option Nat} {A A' : Nat → Nat → Int32} {B B' : Nat → Int32} (hm : sim m0 m2) (hF : ∀ j, j < 3 → F j = F' j) (hW : ∀ i, i < 8 → W i = W' i) (h3 : ∀ i, i < 8 → A 3 i = A' 3 i) (h4 : ∀ i, i < 8 → A 4 i = A' 4 i) (hB : ∀ i, i < 64 → B i = B' i) (h5 : ∀ i, i < 5 → A 5 i = A' 5 i) (h6 : ∀ i, i < 5 → A 6 i = A' 6 i) (h7 : ∀ i, i < 5 → A 7 i = A' 7 i) : sim (sc G m0 s F W A B) (sc G m2 s F' W' A' B') := by
  intro a
  unfold sc
  by_cases h : a < s ∨ s + 8 ≤ a
  · rw [if_pos h, if_pos h]; exact hm a
  · rw [if_neg h, if_neg h]
    obtain ⟨j, hj, e⟩ : ∃ j, j < 8 ∧ a - s = j := ⟨a - s, by omega, rfl⟩
    rw [e]
    have : j = 0 ∨ j = 1 ∨ j = 2 ∨ j = 3 ∨ j = 4 ∨ j = 5 ∨ j = 6 ∨ j = 7 := by omega
    rcases this with rfl | rfl | rfl | rfl | rfl | rfl | rfl | rfl
    · show simE (ob 5 (sfs s F)) (ob 5 (sfs s F'))
      unfold sfs
      rw [hF 0 (by decide), hF 1 (by decide), hF 2 (by decide)]
      exact simE.rfl'
    · exact simE.o hW
    · exact simE.i h3
    · exact simE.i h4
    · exact simE.i hB
    · exact simE.i h5
    · exact simE.i h6
    · exact simE.i h7
theorem sim_rfl {f : Mem} : sim f f := fun _ => simE.rfl'
/-- becomes: the same, exactly -/
theorem e_X5_becomes2 {G : GX} {m0 : Mem} {s s2 n : Nat} {F F2 : Nat → Int32} {W W2 : Nat → Option Nat} {A A2 : Nat → Nat → Int32} {B B2 : Nat → Int32} (hq : G.2.1 ≤ s) (hn : s + 8 ≤ n) (hq2 : G.2.1 ≤ s2) (hn2 : s2 + 8 ≤ n) (hdj : s2 + 8 ≤ s ∨ s + 8 ≤ s2) (hw2 : ∀ p, p < 8 → ∃ a, W2 p = some a ∧ oneM G m0 n a (A2 1 p) (A2 2 p) ∧ (a < s2 ∨ s2 + 8 ≤ a) ∧ (a < s ∨ s + 8 ≤ a)) : Ev G mX5_becomes 3 0 0 [.ref s, .ref s2] (sc G (sc G m0 s2 F2 W2 A2 B2) s F W A B) n (fun r f1 n1 => r = none ∧ f1 = sc G (sc G m0 s2 F2 W2 A2 B2) s F2 W2 A2 B2 ∧ n1 = n) := by
  refine Ev.sim (e_X5_becomes (F := F) (W := W) (A := A) (B := B) (F2 := F2) (W2 := W2) (A2 := A2) (B2 := B2) hq hn hq2 hn2 hdj hw2) (fun r f1 n1 h => ?_)
  obtain ⟨h1, h2, h3⟩ := h
  refine ⟨_, ?_, h1, rfl, h3⟩
  rw [h2]
  refine sc_sim sim_rfl (fun j hj => ?_) (fun i hi => if_pos hi) (fun i hi => if_pos ⟨by decide, hi⟩) (fun i hi => if_pos ⟨by decide, hi⟩) (fun i hi => if_pos hi) (fun i hi => ?_) (fun i hi => ?_) (fun i hi => ?_)
  · have : j = 0 ∨ j = 1 ∨ j = 2 := by omega
    rcases this with rfl | rfl | rfl <;> rfl
  · unfold cpyA
    rw [if_neg (by omega), if_pos ⟨by decide, hi⟩]
  · unfold cpyA
    rw [if_neg (by omega), if_pos ⟨by decide, hi⟩]
  · unfold cpyA
    rw [if_neg (by omega), if_pos ⟨by decide, hi⟩]
/-- where two schools lie does not count -/
theorem sc_sc {G : GX} {m0 : Mem} {s s2 : Nat} {F F2 : Nat → Int32} {W W2 : Nat → Option Nat} {A A2 : Nat → Nat → Int32} {B B2 : Nat → Int32} (h : s2 + 8 ≤ s ∨ s + 8 ≤ s2) : sc G (sc G m0 s2 F2 W2 A2 B2) s F W A B = sc G (sc G m0 s F W A B) s2 F2 W2 A2 B2 := by
  funext a
  by_cases h1 : a < s ∨ s + 8 ≤ a
  · rw [sc_out h1]
    by_cases h2 : a < s2 ∨ s2 + 8 ≤ a
    · rw [sc_out h2, sc_out h2, sc_out h1]
    · unfold sc
      rw [if_neg h2, if_neg h2]
  · rw [sc_out (m0 := sc G m0 s F W A B) (by omega)]
    unfold sc
    rw [if_neg h1, if_neg h1]
theorem sc_wy {G : GX} {m1 : Mem} {s w : Nat} {F : Nat → Int32} {W : Nat → Option Nat} {A : Nat → Nat → Int32} {B : Nat → Int32} {V C Mt T : Nat → Int32} {Wl : Nat → Int64} (h : w + 5 ≤ s ∨ s + 8 ≤ w) : sc G (wy G m1 w V C Mt Wl T) s F W A B = wy G (sc G m1 s F W A B) w V C Mt Wl T := by
  funext a
  by_cases h1 : a < s ∨ s + 8 ≤ a
  · rw [sc_out h1]
    by_cases h2 : a < w ∨ w + 5 ≤ a
    · rw [wy_out h2, wy_out h2, sc_out h1]
    · unfold wy
      rw [if_neg h2, if_neg h2]
  · rw [wy_out (by omega)]
    unfold sc
    rw [if_neg h1, if_neg h1]
