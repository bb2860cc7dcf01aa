/-! THE WAYS at w: numbers V, chosen C, mates Mt, worths Wl, troubles T -/
def wfs (w : Nat) (V : Nat → Int32) : List Value := [.int (V 0), .int (V 1), .ref (w + 1), .int (V 3), .ref (w + 2), .ref (w + 3), .ref (w + 4)]
def wyE (G : GX) (w : Nat) (V : Nat → Int32) (C Mt : Nat → Int32) (Wl : Nat → Int64) (T : Nat → Int32) (j : Nat) : va_E := if j = 0 then ob 9 (wfs w V) else if j = 1 then ia G 8 C else if j = 2 then ia G 8 Mt else if j = 3 then ja G 256 Wl else ia G 8 T
def wy (G : GX) (m1 : Mem) (w : Nat) (V : Nat → Int32) (C Mt : Nat → Int32) (Wl : Nat → Int64) (T : Nat → Int32) : Mem := fun a => if a < w ∨ w + 5 ≤ a then m1 a else wyE G w V C Mt Wl T (a - w)
section WYO
variable {G : GX} {m1 : Mem} {w : Nat} {V V' : Nat → Int32} {C C' Mt Mt' T T' : Nat → Int32} {Wl Wl' : Nat → Int64}
theorem wy_at {j : Nat} (h : j < 5) : wy G m1 w V C Mt Wl T (w + j) = wyE G w V C Mt Wl T j := by
  unfold wy
  rw [if_neg (by omega), Nat.add_sub_cancel_left]
theorem wy_obj : wy G m1 w V C Mt Wl T w = ob 9 (wfs w V) := wy_at (j := 0) (by decide)
theorem wy_1 : wy G m1 w V C Mt Wl T (w + 1) = ia G 8 C := wy_at (j := 1) (by decide)
theorem wy_2 : wy G m1 w V C Mt Wl T (w + 2) = ia G 8 Mt := wy_at (j := 2) (by decide)
theorem wy_3 : wy G m1 w V C Mt Wl T (w + 3) = ja G 256 Wl := wy_at (j := 3) (by decide)
theorem wy_4 : wy G m1 w V C Mt Wl T (w + 4) = ia G 8 T := wy_at (j := 4) (by decide)
theorem wy_out {a : Nat} (h : a < w ∨ w + 5 ≤ a) : wy G m1 w V C Mt Wl T a = m1 a := by
  unfold wy
  rw [if_pos h]
theorem wy_up {j : Nat} {e : va_E} (hj : j < 5) (h : ∀ i, i < 5 → wyE G w V' C' Mt' Wl' T' i = if i = j then e else wyE G w V C Mt Wl T i) : va_up (wy G m1 w V C Mt Wl T) (w + j) e = wy G m1 w V' C' Mt' Wl' T' := by
  funext a
  unfold va_up wy
  by_cases ha : a < w ∨ w + 5 ≤ a
  · rw [if_neg (by omega), if_pos ha, if_pos ha]
  · rw [if_neg ha, if_neg ha, h (a - w) (by omega)]
    by_cases hj2 : a = w + j
    · rw [if_pos hj2, if_pos (by omega)]
    · rw [if_neg hj2, if_neg (by omega)]
theorem wy_setV {fs : List Value} (h : wfs w V' = fs) : va_up (wy G m1 w V C Mt Wl T) w (ob 9 fs) = wy G m1 w V' C Mt Wl T := by
  refine wy_up (j := 0) (by decide) (fun i hi => ?_)
  unfold wyE
  by_cases e : i = 0
  · subst e; rw [if_pos rfl, if_pos rfl, h]
  · rw [if_neg e, if_neg e, if_neg e]
theorem wy_set1 {g : Nat → Int32} : va_up (wy G m1 w V C Mt Wl T) (w + 1) (ia G 8 g) = wy G m1 w V g Mt Wl T := by
  refine wy_up (by decide) (fun i' hi => ?_)
  unfold wyE
  match i', hi with
  | 0, _ => rfl
  | 1, _ => rfl
  | 2, _ => rfl
  | 3, _ => rfl
  | 4, _ => rfl
theorem wy_set2 {g : Nat → Int32} : va_up (wy G m1 w V C Mt Wl T) (w + 2) (ia G 8 g) = wy G m1 w V C g Wl T := by
  refine wy_up (by decide) (fun i' hi => ?_)
  unfold wyE
  match i', hi with
  | 0, _ => rfl
  | 1, _ => rfl
  | 2, _ => rfl
  | 3, _ => rfl
  | 4, _ => rfl
theorem wy_set4 {g : Nat → Int32} : va_up (wy G m1 w V C Mt Wl T) (w + 4) (ia G 8 g) = wy G m1 w V C Mt Wl g := by
  refine wy_up (by decide) (fun i' hi => ?_)
  unfold wyE
  match i', hi with
  | 0, _ => rfl
  | 1, _ => rfl
  | 2, _ => rfl
  | 3, _ => rfl
  | 4, _ => rfl
theorem wy_set3 {g : Nat → Int64} : va_up (wy G m1 w V C Mt Wl T) (w + 3) (ja G 256 g) = wy G m1 w V C Mt g T := by
  refine wy_up (by decide) (fun i' hi => ?_)
  unfold wyE
  match i', hi with
  | 0, _ => rfl
  | 1, _ => rfl
  | 2, _ => rfl
  | 3, _ => rfl
  | 4, _ => rfl
end WYO
theorem sc_upo {G : GX} {m0 m0' : Mem} {s a : Nat} {e : va_E} {F : Nat → Int32} {W : Nat → Option Nat} {A : Nat → Nat → Int32} {B : Nat → Int32} (h : a < s ∨ s + 8 ≤ a) (hm : va_up m0 a e = m0') : va_up (sc G m0 s F W A B) a e = sc G m0' s F W A B := by
  subst hm
  funext x
  unfold va_up sc
  by_cases hx : x = a
  · subst hx
    rw [if_pos rfl, if_pos h]
    exact (if_pos rfl).symm
  · rw [if_neg hx]
    by_cases h2 : x < s ∨ s + 8 ≤ x
    · rw [if_pos h2, if_pos h2]
      exact (if_neg hx).symm
    · rw [if_neg h2, if_neg h2]
theorem who_wy {G : GX} {m1 : Mem} {s w n : Nat} {V C Mt T : Nat → Int32} {Wl : Nat → Int64} {W : Nat → Option Nat} {A : Nat → Nat → Int32} (h : ∀ p, p < 8 → ∃ a, W p = some a ∧ oneM G m1 n a (A 1 p) (A 2 p) ∧ (a < s ∨ s + 8 ≤ a) ∧ (a < w ∨ w + 5 ≤ a)) : whoOK G (wy G m1 w V C Mt Wl T) s n W A := by
  intro p hp
  obtain ⟨a, h1, h2, h3, h4⟩ := h p hp
  obtain ⟨kk, gg, g1, g2, g3, g4, g5, g6, g7⟩ := h2
  exact ⟨a, h1, ⟨kk, gg, g1, g2, g3, g4, (wy_out h4).trans g5, g6, g7⟩, h3⟩
