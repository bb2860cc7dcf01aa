def mlen (j : Nat) : Nat := match j with
  | 1 => 8
  | 2 => 8
  | 3 => 8
  | 4 => 8
  | 5 => 5
  | 6 => 5
  | 7 => 5
  | 8 => 8
  | 9 => 8
  | 10 => 8
  | 11 => 8
  | 12 => 8
  | 13 => 800
  | 14 => 51
  | 15 => 51
  | 16 => 153
  | 17 => 50
  | 18 => 50
  | 19 => 8
  | 20 => 256
  | 21 => 8
  | 22 => 8
  | 23 => 1536
  | 24 => 100
  | _ => 0
def mfs (q : Nat) (F : Nat → Int32) (K : Option Nat) : List Value := [.int (F 0), .ref (q + 1), .ref (q + 2), .ref (q + 3), .ref (q + 4), .int (F 5), .ref (q + 5), .ref (q + 6), .ref (q + 7), .int (F 9), .ref (q + 8), .ref (q + 9), .ref (q + 10), .ref (q + 11), .ref (q + 12), .ref (q + 13), .int (F 16), .int (F 17), .int (F 18), .int (F 19), .int (F 20), .ref (q + 14), .ref (q + 15), .ref (q + 16), .ref (q + 17), .ref (q + 18), .int (F 26), .int (F 27), .int (F 28), va_rf K, .int (F 30), .int (F 31), .ref (q + 19), .ref (q + 20), .ref (q + 21), .ref (q + 22), .ref (q + 23), .int (F 37), .ref (q + 24)]
def mE (G : GX) (q : Nat) (F : Nat → Int32) (A : Nat → Nat → Int32) (L : Nat → Nat → Int64) (K : Option Nat) (j : Nat) : va_E := if j = 0 then ob 12 (mfs q F K) else if j = 13 ∨ j = 24 then ja G (mlen j) (L j) else ia G (mlen j) (A j)
/-- the reference lies at q, over the rest of the memory -/
def mo (G : GX) (m0 : Mem) (q : Nat) (F : Nat → Int32) (A : Nat → Nat → Int32) (L : Nat → Nat → Int64) (K : Option Nat) : Mem := fun a => if a < q ∨ q + 25 ≤ a then m0 a else mE G q F A L K (a - q)
section MO
variable {G : GX} {m0 : Mem} {q : Nat} {F : Nat → Int32} {A : Nat → Nat → Int32} {L : Nat → Nat → Int64} {K : Option Nat}
theorem mo_at {j : Nat} (h : j < 25) : mo G m0 q F A L K (q + j) = mE G q F A L K j := by
  unfold mo
  rw [if_neg (by omega), Nat.add_sub_cancel_left]
theorem mo_obj : mo G m0 q F A L K q = ob 12 (mfs q F K) := mo_at (j := 0) (by decide)
theorem mo_arr (j : Nat) (h : 0 < j ∧ j < 25 ∧ j ≠ 13 ∧ j ≠ 24) : mo G m0 q F A L K (q + j) = ia G (mlen j) (A j) := by
  rw [mo_at h.2.1]
  unfold mE
  rw [if_neg (by omega), if_neg (by omega)]
theorem mo_lrr (j : Nat) (h : j = 13 ∨ j = 24) : mo G m0 q F A L K (q + j) = ja G (mlen j) (L j) := by
  rw [mo_at (by omega)]
  unfold mE
  rw [if_neg (by omega), if_pos h]
theorem mo_up {j : Nat} {e : va_E} {F' : Nat → Int32} {A' : Nat → Nat → Int32} {L' : Nat → Nat → Int64} {K' : Option Nat} (hj : j < 25) (h : ∀ i, i < 25 → mE G q F' A' L' K' i = if i = j then e else mE G q F A L K i) : va_up (mo G m0 q F A L K) (q + j) e = mo G m0 q F' A' L' K' := by
  funext a
  unfold va_up mo
  by_cases ha : a < q ∨ q + 25 ≤ a
  · rw [if_neg (by omega), if_pos ha, if_pos ha]
  · rw [if_neg ha, if_neg ha, h (a - q) (by omega)]
    by_cases hj2 : a = q + j
    · rw [if_pos hj2, if_pos (by omega)]
    · rw [if_neg hj2, if_neg (by omega)]
theorem mo_setA (j : Nat) (h : 0 < j ∧ j < 25 ∧ j ≠ 13 ∧ j ≠ 24) (i : Nat) (v : Int32) : va_up (mo G m0 q F A L K) (q + j) (ia G (mlen j) (upd (A j) i v)) = mo G m0 q F (upA A j i v) L K := by
  refine mo_up h.2.1 (fun i' hi => ?_)
  unfold mE
  by_cases e : i' = j
  · subst e
    rw [if_pos rfl, if_neg (by omega), if_neg (by omega), upA_s]
    rfl
  · rw [if_neg e, upA_n A e]
theorem mo_setL (j : Nat) (h : j = 13 ∨ j = 24) (i : Nat) (v : Int64) : va_up (mo G m0 q F A L K) (q + j) (ja G (mlen j) (vp_updL (L j) i v)) = mo G m0 q F A (upA L j i v) K := by
  refine mo_up (by omega) (fun i' hi => ?_)
  unfold mE
  by_cases e : i' = j
  · subst e
    rw [if_pos rfl, if_neg (by omega), if_pos h, upA_s]
    rfl
  · rw [if_neg e, upA_n L e]
theorem mo_setO {fs : List Value} {F' : Nat → Int32} {K' : Option Nat} (h : mfs q F' K' = fs) : va_up (mo G m0 q F A L K) q (ob 12 fs) = mo G m0 q F' A L K' := by
  refine mo_up (j := 0) (by decide) (fun i' hi => ?_)
  unfold mE
  by_cases e : i' = 0
  · subst e
    rw [if_pos rfl, if_pos rfl, h]
  · rw [if_neg e, if_neg e, if_neg e]
end MO
