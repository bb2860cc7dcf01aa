/-! THE CLASS'S MEMORY: a School at s, its rows behind it, over the rest -/
def sfs (s : Nat) (F : Nat → Int32) : List Value := [.int (F 0), .int (F 1), .int (F 2), .ref (s + 1), .ref (s + 2), .ref (s + 3), .ref (s + 4), .ref (s + 5), .ref (s + 6), .ref (s + 7)]
def scE (G : GX) (s : Nat) (F : Nat → Int32) (W : Nat → Option Nat) (A : Nat → Nat → Int32) (B : Nat → Int32) (j : Nat) : va_E := if j = 0 then ob 5 (sfs s F) else if j = 1 then oa G 2 8 W else if j = 2 then ia G 8 (A 3) else if j = 3 then ia G 8 (A 4) else if j = 4 then ia G 64 B else if j = 5 then ia G 5 (A 5) else if j = 6 then ia G 5 (A 6) else ia G 5 (A 7)
def sc (G : GX) (m0 : Mem) (s : Nat) (F : Nat → Int32) (W : Nat → Option Nat) (A : Nat → Nat → Int32) (B : Nat → Int32) : Mem := fun a => if a < s ∨ s + 8 ≤ a then m0 a else scE G s F W A B (a - s)
section SCO
variable {G : GX} {m0 : Mem} {s : Nat} {F F' : Nat → Int32} {W W' : Nat → Option Nat} {A A' : Nat → Nat → Int32} {B B' : Nat → Int32}
theorem sc_at {j : Nat} (h : j < 8) : sc G m0 s F W A B (s + j) = scE G s F W A B j := by
  unfold sc
  rw [if_neg (by omega), Nat.add_sub_cancel_left]
theorem sc_obj : sc G m0 s F W A B s = ob 5 (sfs s F) := sc_at (j := 0) (by decide)
theorem sc_1 : sc G m0 s F W A B (s + 1) = oa G 2 8 W := sc_at (j := 1) (by decide)
theorem sc_2 : sc G m0 s F W A B (s + 2) = ia G 8 (A 3) := sc_at (j := 2) (by decide)
theorem sc_3 : sc G m0 s F W A B (s + 3) = ia G 8 (A 4) := sc_at (j := 3) (by decide)
theorem sc_4 : sc G m0 s F W A B (s + 4) = ia G 64 B := sc_at (j := 4) (by decide)
theorem sc_5 : sc G m0 s F W A B (s + 5) = ia G 5 (A 5) := sc_at (j := 5) (by decide)
theorem sc_6 : sc G m0 s F W A B (s + 6) = ia G 5 (A 6) := sc_at (j := 6) (by decide)
theorem sc_7 : sc G m0 s F W A B (s + 7) = ia G 5 (A 7) := sc_at (j := 7) (by decide)
theorem sc_out {a : Nat} (h : a < s ∨ s + 8 ≤ a) : sc G m0 s F W A B a = m0 a := by
  unfold sc
  rw [if_pos h]
theorem sc_up {j : Nat} {e : va_E} (hj : j < 8) (h : ∀ i, i < 8 → scE G s F' W' A' B' i = if i = j then e else scE G s F W A B i) : va_up (sc G m0 s F W A B) (s + j) e = sc G m0 s F' W' A' B' := by
  funext a
  unfold va_up sc
  by_cases ha : a < s ∨ s + 8 ≤ a
  · rw [if_neg (by omega), if_pos ha, if_pos ha]
  · rw [if_neg ha, if_neg ha, h (a - s) (by omega)]
    by_cases hj2 : a = s + j
    · rw [if_pos hj2, if_pos (by omega)]
    · rw [if_neg hj2, if_neg (by omega)]
theorem sc_setF {fs : List Value} (h : sfs s F' = fs) : va_up (sc G m0 s F W A B) s (ob 5 fs) = sc G m0 s F' W A B := by
  refine sc_up (j := 0) (by decide) (fun i hi => ?_)
  unfold scE
  by_cases e : i = 0
  · subst e; rw [if_pos rfl, if_pos rfl, h]
  · rw [if_neg e, if_neg e, if_neg e]
theorem sc_setW (i : Nat) (v : Option Nat) : va_up (sc G m0 s F W A B) (s + 1) (oa G 2 8 (va_up W i v)) = sc G m0 s F (va_up W i v) A B := by
  refine sc_up (by decide) (fun i' hi => ?_)
  unfold scE
  match i', hi with
  | 0, _ => rfl
  | 1, _ => rfl
  | 2, _ => rfl
  | 3, _ => rfl
  | 4, _ => rfl
  | 5, _ => rfl
  | 6, _ => rfl
  | 7, _ => rfl
theorem sc_set2 (i : Nat) (v : Int32) : va_up (sc G m0 s F W A B) (s + 2) (ia G 8 (upd (A 3) i v)) = sc G m0 s F W (upA A 3 i v) B := by
  refine sc_up (by decide) (fun i' hi => ?_)
  unfold scE
  match i', hi with
  | 0, _ => rfl
  | 1, _ => rfl
  | 2, _ => rfl
  | 3, _ => rfl
  | 4, _ => rfl
  | 5, _ => rfl
  | 6, _ => rfl
  | 7, _ => rfl
theorem sc_set3 (i : Nat) (v : Int32) : va_up (sc G m0 s F W A B) (s + 3) (ia G 8 (upd (A 4) i v)) = sc G m0 s F W (upA A 4 i v) B := by
  refine sc_up (by decide) (fun i' hi => ?_)
  unfold scE
  match i', hi with
  | 0, _ => rfl
  | 1, _ => rfl
  | 2, _ => rfl
  | 3, _ => rfl
  | 4, _ => rfl
  | 5, _ => rfl
  | 6, _ => rfl
  | 7, _ => rfl
theorem sc_set5 (i : Nat) (v : Int32) : va_up (sc G m0 s F W A B) (s + 5) (ia G 5 (upd (A 5) i v)) = sc G m0 s F W (upA A 5 i v) B := by
  refine sc_up (by decide) (fun i' hi => ?_)
  unfold scE
  match i', hi with
  | 0, _ => rfl
  | 1, _ => rfl
  | 2, _ => rfl
  | 3, _ => rfl
  | 4, _ => rfl
  | 5, _ => rfl
  | 6, _ => rfl
  | 7, _ => rfl
theorem sc_set6 (i : Nat) (v : Int32) : va_up (sc G m0 s F W A B) (s + 6) (ia G 5 (upd (A 6) i v)) = sc G m0 s F W (upA A 6 i v) B := by
  refine sc_up (by decide) (fun i' hi => ?_)
  unfold scE
  match i', hi with
  | 0, _ => rfl
  | 1, _ => rfl
  | 2, _ => rfl
  | 3, _ => rfl
  | 4, _ => rfl
  | 5, _ => rfl
  | 6, _ => rfl
  | 7, _ => rfl
theorem sc_set7 (i : Nat) (v : Int32) : va_up (sc G m0 s F W A B) (s + 7) (ia G 5 (upd (A 7) i v)) = sc G m0 s F W (upA A 7 i v) B := by
  refine sc_up (by decide) (fun i' hi => ?_)
  unfold scE
  match i', hi with
  | 0, _ => rfl
  | 1, _ => rfl
  | 2, _ => rfl
  | 3, _ => rfl
  | 4, _ => rfl
  | 5, _ => rfl
  | 6, _ => rfl
  | 7, _ => rfl
theorem sc_set4 (i : Nat) (v : Int32) : va_up (sc G m0 s F W A B) (s + 4) (ia G 64 (upd B i v)) = sc G m0 s F W A (upd B i v) := by
  refine sc_up (by decide) (fun i' hi => ?_)
  unfold scE
  match i', hi with
  | 0, _ => rfl
  | 1, _ => rfl
  | 2, _ => rfl
  | 3, _ => rfl
  | 4, _ => rfl
  | 5, _ => rfl
  | 6, _ => rfl
  | 7, _ => rfl
end SCO
/-- one of a kind with a figure -/
def oneCi (k : Nat) : Nat := match k with
  | 1 => 10
  | 2 => 8
  | 3 => 7
  | 4 => 0
  | 5 => 6
  | 6 => 2
  | 7 => 1
  | _ => 3
def oneM (G : GX) (f : Mem) (n a : Nat) (k g : Int32) : Prop := ∃ kk gg, kk < 8 ∧ gg < 10 ∧ k = nI kk ∧ g = nI gg ∧ f a = ob (oneCi kk) [.int (nI gg)] ∧ G.2.1 ≤ a ∧ a < n
theorem go_tv {G : GX} {y : MD} {d mc ms : Nat} {Q : RQ} {kc ks pc : Nat} {ls : List (Option Value)} {st : List Value} {f : Mem} {n : Nat} {v w : Value} (h : v = w) (k : Go G y d mc ms Q kc ks pc ls (w :: st) f n) : Go G y d mc ms Q kc ks pc ls (v :: st) f n := h ▸ k
