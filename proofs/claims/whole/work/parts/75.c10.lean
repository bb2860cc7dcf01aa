/-! memory that grows: new objects behind s, in a list -/
def mL (f : Mem) (s : Nat) (l : List va_E) : Mem := fun a => if a < s then f a else (l[a - s]?).getD (f a)
theorem mL_get {f : Mem} {s j : Nat} {l : List va_E} {e : va_E} (h : l[j]? = some e) : mL f s l (s + j) = e := by
  unfold mL
  rw [if_neg (by omega), Nat.add_sub_cancel_left, h]
  rfl
theorem mL_set {f : Mem} {s j : Nat} {l l' : List va_E} {e : va_E} (hj : j < l.length) (h : l.set j e = l') : va_up (mL f s l) (s + j) e = mL f s l' := by
  subst h
  funext a
  unfold va_up mL
  by_cases e1 : a = s + j
  · subst e1
    rw [if_pos rfl, if_neg (by omega), Nat.add_sub_cancel_left, List.getElem?_set_self hj]
    rfl
  · rw [if_neg e1]
    by_cases h2 : a < s
    · rw [if_pos h2, if_pos h2]
    · rw [if_neg h2, if_neg h2, List.getElem?_set_ne (by omega)]
theorem mL_push {f : Mem} {s k : Nat} {l l' : List va_E} {e : va_E} (hk : l.length = k) (h : l ++ [e] = l') : va_up (mL f s l) (s + k) e = mL f s l' := by
  subst h
  subst hk
  funext a
  unfold va_up mL
  by_cases e1 : a = s + l.length
  · subst e1
    rw [if_pos rfl, if_neg (by omega), Nat.add_sub_cancel_left, List.getElem?_append_right (Nat.le_refl _), Nat.sub_self]
    rfl
  · rw [if_neg e1]
    by_cases h2 : a < s
    · rw [if_pos h2, if_pos h2]
    · rw [if_neg h2, if_neg h2]
      by_cases h3 : a - s < l.length
      · rw [List.getElem?_append_left h3]
      · rw [List.getElem?_append_right (by omega), List.getElem?_eq_none (by omega), List.getElem?_eq_none (by show [e].length ≤ _; show 1 ≤ _; omega)]
theorem mL_one {f : Mem} {s : Nat} {e : va_E} (h : f s = e) : f = mL f s [e] := by
  funext a
  unfold mL
  by_cases h2 : a < s
  · rw [if_pos h2]
  · rw [if_neg h2]
    by_cases h3 : a = s
    · subst h3
      rw [Nat.sub_self, h]
      rfl
    · rw [List.getElem?_eq_none (by show 1 ≤ _; omega)]
      rfl
theorem mL_app {f : Mem} {s k : Nat} {l l2 l3 l4 : List va_E} (hk : l.length = k) (h3 : l3.length = k + 1) (h : l ++ l2 = l4) : mL (mL f s l3) (s + k) l2 = fun a => if a < s + k then mL f s l3 a else (l2[a - (s + k)]?).getD (mL f s l3 a) := rfl
theorem mL_grow {f : Mem} {s k : Nat} {l l2 l4 : List va_E} {e e2 : va_E} {l2' : List va_E} (hk : l.length = k) (h2 : l2 = e2 :: l2') (h : l ++ l2 = l4) : mL (mL f s (l ++ [e])) (s + k) l2 = mL f s l4 := by
  subst h
  subst hk
  subst h2
  funext a
  unfold mL
  by_cases h3 : a < s
  · rw [if_pos (by omega), if_pos h3, if_pos h3]
  · rw [if_neg h3, if_neg h3]
    by_cases h4 : a < s + l.length
    · rw [if_pos h4, List.getElem?_append_left (by omega), List.getElem?_append_left (by omega)]
    · rw [if_neg h4, List.getElem?_append_right (l₁ := l) (l₂ := e2 :: l2') (by omega), show a - s - l.length = a - (s + l.length) by omega]
      by_cases h5 : a = s + l.length
      · subst h5
        rw [Nat.sub_self]
        rfl
      · obtain ⟨z, hz⟩ : ∃ z, a - (s + l.length) = z + 1 := ⟨a - (s + l.length) - 1, by omega⟩
        rw [List.getElem?_append_right (l₁ := l) (l₂ := [e]) (by omega), show a - s - l.length = z + 1 by omega, hz]
        rfl
theorem go_nn {G : GX} {y : MD} {d mc ms : Nat} {Q : RQ} {kc ks pc : Nat} {ls : List (Option Value)} {st : List Value} {f : Mem} {n n' : Nat} (h : n = n') (k : Go G y d mc ms Q kc ks pc ls st f n') : Go G y d mc ms Q kc ks pc ls st f n := h ▸ k
theorem ty1 {P : Nat → Prop} (h0 : P 0) : ∀ j, j < 1 → P j := fun j hj => by rw [show j = 0 by omega]; exact h0
theorem ty2 {P : Nat → Prop} (h0 : P 0) (h1 : P 1) : ∀ j, j < 2 → P j := fun j hj => by
  have : j = 0 ∨ j = 1 := by omega
  rcases this with rfl | rfl <;> assumption
theorem ty7 {P : Nat → Prop} (h0 : P 0) (h1 : P 1) (h2 : P 2) (h3 : P 3) (h4 : P 4) (h5 : P 5) (h6 : P 6) : ∀ j, j < 7 → P j := fun j hj => by
  have : j = 0 ∨ j = 1 ∨ j = 2 ∨ j = 3 ∨ j = 4 ∨ j = 5 ∨ j = 6 := by omega
  rcases this with rfl | rfl | rfl | rfl | rfl | rfl | rfl <;> assumption
theorem ty10 {P : Nat → Prop} (h0 : P 0) (h1 : P 1) (h2 : P 2) (h3 : P 3) (h4 : P 4) (h5 : P 5) (h6 : P 6) (h7 : P 7) (h8 : P 8) (h9 : P 9) : ∀ j, j < 10 → P j := fun j hj => by
  have : j = 0 ∨ j = 1 ∨ j = 2 ∨ j = 3 ∨ j = 4 ∨ j = 5 ∨ j = 6 ∨ j = 7 ∨ j = 8 ∨ j = 9 := by omega
  rcases this with rfl | rfl | rfl | rfl | rfl | rfl | rfl | rfl | rfl | rfl <;> assumption
section C10
variable {G : GX} {f : Mem} {n : Nat}
set_option maxHeartbeats 4000000 in
set_option maxRecDepth 100000 in
theorem e_X3_init {a ci : Nat} {z g : Int32} (he : f a = ob ci [.int z]) (hfp : FP "TwoToALocker$One" 7 ci 0 (.int)) (ha1 : G.2.1 ≤ a) (ha2 : a < n) : Ev G mX3_init 2 0 0 [.ref a, .int g] f n (fun r f1 n1 => r = none ∧ f1 = va_up f a (ob ci [.int g]) ∧ n1 = n) := by
  generalize hQ9 : (fun r f1 n1 => r = none ∧ f1 = va_up f a (ob ci [.int g]) ∧ n1 = n : RQ) = Q9
  refine ev_of (by decide) (Nat.le_of_ble_eq_true rfl) (ls := [some (.ref a), some (.int g)]) rfl (fun hb => ?_)
  refine go_aload_n dX3_init_0 rfl ?_
  refine go_obj dX3_init_1 wm_43 wm_29 wm_30 (Nat.le_of_ble_eq_true rfl) (by omega) ?_
  refine go_aload_n dX3_init_4 rfl ?_
  refine go_iload_n dX3_init_5 rfl ?_
  refine go_put dX3_init_6 hfp (Or.inl rfl) he ha1 ha2 rfl rfl (Nat.le_of_ble_eq_true rfl) ?_
  exact go_vret dX3_init_9 rfl (Nat.le_of_ble_eq_true rfl) (Nat.le_of_ble_eq_true rfl) (hQ9 ▸ ⟨rfl, rfl, rfl⟩)
set_option maxHeartbeats 4000000 in
set_option maxRecDepth 100000 in
theorem e_X10_init {a ci : Nat} {z g : Int32} (he : f a = ob ci [.int z]) (hfp : FP "TwoToALocker$One" 7 ci 0 (.int)) (ha1 : G.2.1 ≤ a) (ha2 : a < n) : Ev G mX10_init 3 0 0 [.ref a, .int g] f n (fun r f1 n1 => r = none ∧ f1 = va_up f a (ob ci [.int g]) ∧ n1 = n) := by
  generalize hQ9 : (fun r f1 n1 => r = none ∧ f1 = va_up f a (ob ci [.int g]) ∧ n1 = n : RQ) = Q9
  refine ev_of (by decide) (Nat.le_of_ble_eq_true rfl) (ls := [some (.ref a), some (.int g)]) rfl (fun hb => ?_)
  refine go_aload_n dX10_init_0 rfl ?_
  refine go_iload_n dX10_init_1 rfl ?_
  refine go_I [.int g] [] dX10_init_2 il_X10_1 ⟨Nat.le_refl _, by decide⟩ (e_X3_init he hfp ha1 ha2) rfl rfl (Nat.le_of_ble_eq_true rfl) (Nat.le_of_ble_eq_true rfl) (Nat.le_of_ble_eq_true rfl) (fun r1 f1 n1 h1 => ?_)
  obtain ⟨rfl, rfl, rfl⟩ := h1
  exact go_vret dX10_init_5 rfl (Nat.le_of_ble_eq_true rfl) (Nat.le_of_ble_eq_true rfl) (hQ9 ▸ ⟨rfl, rfl, rfl⟩)
set_option maxHeartbeats 4000000 in
set_option maxRecDepth 100000 in
theorem e_X8_init {a ci : Nat} {z g : Int32} (he : f a = ob ci [.int z]) (hfp : FP "TwoToALocker$One" 7 ci 0 (.int)) (ha1 : G.2.1 ≤ a) (ha2 : a < n) : Ev G mX8_init 3 0 0 [.ref a, .int g] f n (fun r f1 n1 => r = none ∧ f1 = va_up f a (ob ci [.int g]) ∧ n1 = n) := by
  generalize hQ9 : (fun r f1 n1 => r = none ∧ f1 = va_up f a (ob ci [.int g]) ∧ n1 = n : RQ) = Q9
  refine ev_of (by decide) (Nat.le_of_ble_eq_true rfl) (ls := [some (.ref a), some (.int g)]) rfl (fun hb => ?_)
  refine go_aload_n dX8_init_0 rfl ?_
  refine go_iload_n dX8_init_1 rfl ?_
  refine go_I [.int g] [] dX8_init_2 il_X8_1 ⟨Nat.le_refl _, by decide⟩ (e_X3_init he hfp ha1 ha2) rfl rfl (Nat.le_of_ble_eq_true rfl) (Nat.le_of_ble_eq_true rfl) (Nat.le_of_ble_eq_true rfl) (fun r1 f1 n1 h1 => ?_)
  obtain ⟨rfl, rfl, rfl⟩ := h1
  exact go_vret dX8_init_5 rfl (Nat.le_of_ble_eq_true rfl) (Nat.le_of_ble_eq_true rfl) (hQ9 ▸ ⟨rfl, rfl, rfl⟩)
set_option maxHeartbeats 4000000 in
set_option maxRecDepth 100000 in
theorem e_X7_init {a ci : Nat} {z g : Int32} (he : f a = ob ci [.int z]) (hfp : FP "TwoToALocker$One" 7 ci 0 (.int)) (ha1 : G.2.1 ≤ a) (ha2 : a < n) : Ev G mX7_init 3 0 0 [.ref a, .int g] f n (fun r f1 n1 => r = none ∧ f1 = va_up f a (ob ci [.int g]) ∧ n1 = n) := by
  generalize hQ9 : (fun r f1 n1 => r = none ∧ f1 = va_up f a (ob ci [.int g]) ∧ n1 = n : RQ) = Q9
  refine ev_of (by decide) (Nat.le_of_ble_eq_true rfl) (ls := [some (.ref a), some (.int g)]) rfl (fun hb => ?_)
  refine go_aload_n dX7_init_0 rfl ?_
  refine go_iload_n dX7_init_1 rfl ?_
  refine go_I [.int g] [] dX7_init_2 il_X7_1 ⟨Nat.le_refl _, by decide⟩ (e_X3_init he hfp ha1 ha2) rfl rfl (Nat.le_of_ble_eq_true rfl) (Nat.le_of_ble_eq_true rfl) (Nat.le_of_ble_eq_true rfl) (fun r1 f1 n1 h1 => ?_)
  obtain ⟨rfl, rfl, rfl⟩ := h1
  exact go_vret dX7_init_5 rfl (Nat.le_of_ble_eq_true rfl) (Nat.le_of_ble_eq_true rfl) (hQ9 ▸ ⟨rfl, rfl, rfl⟩)
set_option maxHeartbeats 4000000 in
set_option maxRecDepth 100000 in
theorem e_X0_init {a ci : Nat} {z g : Int32} (he : f a = ob ci [.int z]) (hfp : FP "TwoToALocker$One" 7 ci 0 (.int)) (ha1 : G.2.1 ≤ a) (ha2 : a < n) : Ev G mX0_init 4 0 0 [.ref a, .int g] f n (fun r f1 n1 => r = none ∧ f1 = va_up f a (ob ci [.int g]) ∧ n1 = n) := by
  generalize hQ9 : (fun r f1 n1 => r = none ∧ f1 = va_up f a (ob ci [.int g]) ∧ n1 = n : RQ) = Q9
  refine ev_of (by decide) (Nat.le_of_ble_eq_true rfl) (ls := [some (.ref a), some (.int g)]) rfl (fun hb => ?_)
  refine go_aload_n dX0_init_0 rfl ?_
  refine go_iload_n dX0_init_1 rfl ?_
  refine go_I [.int g] [] dX0_init_2 il_X0_1 ⟨Nat.le_refl _, by decide⟩ (e_X8_init he hfp ha1 ha2) rfl rfl (Nat.le_of_ble_eq_true rfl) (Nat.le_of_ble_eq_true rfl) (Nat.le_of_ble_eq_true rfl) (fun r1 f1 n1 h1 => ?_)
  obtain ⟨rfl, rfl, rfl⟩ := h1
  exact go_vret dX0_init_5 rfl (Nat.le_of_ble_eq_true rfl) (Nat.le_of_ble_eq_true rfl) (hQ9 ▸ ⟨rfl, rfl, rfl⟩)
set_option maxHeartbeats 4000000 in
set_option maxRecDepth 100000 in
theorem e_X6_init {a ci : Nat} {z g : Int32} (he : f a = ob ci [.int z]) (hfp : FP "TwoToALocker$One" 7 ci 0 (.int)) (ha1 : G.2.1 ≤ a) (ha2 : a < n) : Ev G mX6_init 4 0 0 [.ref a, .int g] f n (fun r f1 n1 => r = none ∧ f1 = va_up f a (ob ci [.int g]) ∧ n1 = n) := by
  generalize hQ9 : (fun r f1 n1 => r = none ∧ f1 = va_up f a (ob ci [.int g]) ∧ n1 = n : RQ) = Q9
  refine ev_of (by decide) (Nat.le_of_ble_eq_true rfl) (ls := [some (.ref a), some (.int g)]) rfl (fun hb => ?_)
  refine go_aload_n dX6_init_0 rfl ?_
  refine go_iload_n dX6_init_1 rfl ?_
  refine go_I [.int g] [] dX6_init_2 il_X6_1 ⟨Nat.le_refl _, by decide⟩ (e_X10_init he hfp ha1 ha2) rfl rfl (Nat.le_of_ble_eq_true rfl) (Nat.le_of_ble_eq_true rfl) (Nat.le_of_ble_eq_true rfl) (fun r1 f1 n1 h1 => ?_)
  obtain ⟨rfl, rfl, rfl⟩ := h1
  exact go_vret dX6_init_5 rfl (Nat.le_of_ble_eq_true rfl) (Nat.le_of_ble_eq_true rfl) (hQ9 ▸ ⟨rfl, rfl, rfl⟩)
set_option maxHeartbeats 4000000 in
set_option maxRecDepth 100000 in
theorem e_X2_init {a ci : Nat} {z g : Int32} (he : f a = ob ci [.int z]) (hfp : FP "TwoToALocker$One" 7 ci 0 (.int)) (ha1 : G.2.1 ≤ a) (ha2 : a < n) : Ev G mX2_init 4 0 0 [.ref a, .int g] f n (fun r f1 n1 => r = none ∧ f1 = va_up f a (ob ci [.int g]) ∧ n1 = n) := by
  generalize hQ9 : (fun r f1 n1 => r = none ∧ f1 = va_up f a (ob ci [.int g]) ∧ n1 = n : RQ) = Q9
  refine ev_of (by decide) (Nat.le_of_ble_eq_true rfl) (ls := [some (.ref a), some (.int g)]) rfl (fun hb => ?_)
  refine go_aload_n dX2_init_0 rfl ?_
  refine go_iload_n dX2_init_1 rfl ?_
  refine go_I [.int g] [] dX2_init_2 il_X2_1 ⟨Nat.le_refl _, by decide⟩ (e_X8_init he hfp ha1 ha2) rfl rfl (Nat.le_of_ble_eq_true rfl) (Nat.le_of_ble_eq_true rfl) (Nat.le_of_ble_eq_true rfl) (fun r1 f1 n1 h1 => ?_)
  obtain ⟨rfl, rfl, rfl⟩ := h1
  exact go_vret dX2_init_5 rfl (Nat.le_of_ble_eq_true rfl) (Nat.le_of_ble_eq_true rfl) (hQ9 ▸ ⟨rfl, rfl, rfl⟩)
set_option maxHeartbeats 4000000 in
set_option maxRecDepth 100000 in
theorem e_X1_init {a ci : Nat} {z g : Int32} (he : f a = ob ci [.int z]) (hfp : FP "TwoToALocker$One" 7 ci 0 (.int)) (ha1 : G.2.1 ≤ a) (ha2 : a < n) : Ev G mX1_init 4 0 0 [.ref a, .int g] f n (fun r f1 n1 => r = none ∧ f1 = va_up f a (ob ci [.int g]) ∧ n1 = n) := by
  generalize hQ9 : (fun r f1 n1 => r = none ∧ f1 = va_up f a (ob ci [.int g]) ∧ n1 = n : RQ) = Q9
  refine ev_of (by decide) (Nat.le_of_ble_eq_true rfl) (ls := [some (.ref a), some (.int g)]) rfl (fun hb => ?_)
  refine go_aload_n dX1_init_0 rfl ?_
  refine go_iload_n dX1_init_1 rfl ?_
  refine go_I [.int g] [] dX1_init_2 il_X1_1 ⟨Nat.le_refl _, by decide⟩ (e_X7_init he hfp ha1 ha2) rfl rfl (Nat.le_of_ble_eq_true rfl) (Nat.le_of_ble_eq_true rfl) (Nat.le_of_ble_eq_true rfl) (fun r1 f1 n1 h1 => ?_)
  obtain ⟨rfl, rfl, rfl⟩ := h1
  exact go_vret dX1_init_5 rfl (Nat.le_of_ble_eq_true rfl) (Nat.le_of_ble_eq_true rfl) (hQ9 ▸ ⟨rfl, rfl, rfl⟩)
def whS (s k : Nat) : Nat → Option Nat := fun i => if i < k then some (s + 8) else none
theorem whS_0 {s : Nat} : whS s 0 = fun _ => none := by
  funext i
  unfold whS
  rw [if_neg (by omega)]
theorem whS_s {s k : Nat} : va_up (whS s k) k (some (s + 8)) = whS s (k + 1) := by
  funext i
  unfold va_up whS
  by_cases e : i = k
  · rw [if_pos e, if_pos (by omega)]
  · rw [if_neg e]
    by_cases h : i < k
    · rw [if_pos h, if_pos (by omega)]
    · rw [if_neg h, if_neg (by omega)]
set_option maxHeartbeats 4000000 in
set_option maxRecDepth 100000 in
theorem e_X5_init {s : Nat} (hs : f s = ob 5 [.int 0, .int 0, .int 0, .null, .null, .null, .null, .null, .null, .null]) (hq : G.2.1 ≤ s)  : Ev G mX5_init 3 8 104 [.ref s] f (s + 1) (fun r f1 n1 => r = none ∧ f1 = (mL f s [ob 5 [.int 0, .int 0, .int 0, .ref (s + 1), .ref (s + 2), .ref (s + 3), .ref (s + 4), .ref (s + 5), .ref (s + 6), .ref (s + 7)], oa G 2 8 (whS s 8), ia G 8 (fun _ => 0), ia G 8 (fun _ => 0), ia G 64 (fun _ => 0), ia G 5 (fun _ => 0), ia G 5 (fun _ => 0), ia G 5 (fun _ => 0), ob 3 [.int 0]]) ∧ n1 = s + 9) := by
  generalize hQ9 : (fun r f1 n1 => r = none ∧ f1 = (mL f s [ob 5 [.int 0, .int 0, .int 0, .ref (s + 1), .ref (s + 2), .ref (s + 3), .ref (s + 4), .ref (s + 5), .ref (s + 6), .ref (s + 7)], oa G 2 8 (whS s 8), ia G 8 (fun _ => 0), ia G 8 (fun _ => 0), ia G 64 (fun _ => 0), ia G 5 (fun _ => 0), ia G 5 (fun _ => 0), ia G 5 (fun _ => 0), ob 3 [.int 0]]) ∧ n1 = s + 9 : RQ) = Q9
  refine ev_of (by decide) (Nat.le_of_ble_eq_true rfl) (ls := [some (.ref s), none, none]) rfl (fun hb => ?_)
  refine go_mem (f' := (mL f s [ob 5 [.int 0, .int 0, .int 0, .null, .null, .null, .null, .null, .null, .null]])) (mL_one hs) ?_
  refine go_aload_n dX5_init_0 rfl ?_
  refine go_obj dX5_init_1 wm_36 wm_29 wm_30 (Nat.le_of_ble_eq_true rfl) (by omega) ?_
  refine go_aload_n dX5_init_4 rfl ?_
  refine go_iconst (v := 0) dX5_init_5 rfl ?_
  refine go_put dX5_init_6 fp_X5_9_5 (Or.inl rfl) (mL_get (j := 0) rfl) (by omega) (by omega) rfl rfl (Nat.le_of_ble_eq_true rfl) ?_
  refine go_mem (f' := (mL f s [ob 5 [.int 0, .int 0, .int 0, .null, .null, .null, .null, .null, .null, .null]])) (mL_set (j := 0) (Nat.le_of_ble_eq_true rfl) rfl) ?_
  refine go_aload_n dX5_init_9 rfl ?_
  refine go_iconst (v := 0) dX5_init_10 rfl ?_
  refine go_put dX5_init_11 fp_X5_15_5 (Or.inl rfl) (mL_get (j := 0) rfl) (by omega) (by omega) rfl rfl (Nat.le_of_ble_eq_true rfl) ?_
  refine go_mem (f' := (mL f s [ob 5 [.int 0, .int 0, .int 0, .null, .null, .null, .null, .null, .null, .null]])) (mL_set (j := 0) (Nat.le_of_ble_eq_true rfl) rfl) ?_
  refine go_aload_n dX5_init_14 rfl ?_
  refine go_iconst (v := 0) dX5_init_15 rfl ?_
  refine go_put dX5_init_16 fp_X5_18_5 (Or.inl rfl) (mL_get (j := 0) rfl) (by omega) (by omega) rfl rfl (Nat.le_of_ble_eq_true rfl) ?_
  refine go_mem (f' := (mL f s [ob 5 [.int 0, .int 0, .int 0, .null, .null, .null, .null, .null, .null, .null]])) (mL_set (j := 0) (Nat.le_of_ble_eq_true rfl) rfl) ?_
  refine go_aload_n dX5_init_19 rfl ?_
  refine go_bipush (v := 8) dX5_init_20 rfl ?_
  refine go_newq dX5_init_22 wm_37 (t := 2) (fun U h => h.2.2.2.1) rfl (len := 8) (by decide) rfl (by decide) (Nat.le_of_ble_eq_true rfl) (Nat.le_of_ble_eq_true rfl) ?_
  refine go_nn (n' := s + 2) rfl ?_
  refine go_mem (f' := (mL f s [ob 5 [.int 0, .int 0, .int 0, .null, .null, .null, .null, .null, .null, .null], oa G 2 8 (fun _ => none)])) (mL_push rfl rfl) ?_
  refine go_put dX5_init_25 fp_X5_23_5 (Or.inl rfl) (mL_get (j := 0) rfl) (by omega) (by omega) rfl rfl (Nat.le_of_ble_eq_true rfl) ?_
  refine go_mem (f' := (mL f s [ob 5 [.int 0, .int 0, .int 0, .ref (s + 1), .null, .null, .null, .null, .null, .null], oa G 2 8 (fun _ => none)])) (mL_set (j := 0) (Nat.le_of_ble_eq_true rfl) rfl) ?_
  refine go_aload_n dX5_init_28 rfl ?_
  refine go_bipush (v := 8) dX5_init_29 rfl ?_
  refine go_newi dX5_init_31 wm_56 (len := 8) (by decide) rfl (by decide) (Nat.le_of_ble_eq_true rfl) (Nat.le_of_ble_eq_true rfl) ?_
  refine go_nn (n' := s + 3) rfl ?_
  refine go_mem (f' := (mL f s [ob 5 [.int 0, .int 0, .int 0, .ref (s + 1), .null, .null, .null, .null, .null, .null], oa G 2 8 (fun _ => none), ia G 8 (fun _ => 0)])) (mL_push rfl rfl) ?_
  refine go_put dX5_init_33 fp_X5_27_5 (Or.inl rfl) (mL_get (j := 0) rfl) (by omega) (by omega) rfl rfl (Nat.le_of_ble_eq_true rfl) ?_
  refine go_mem (f' := (mL f s [ob 5 [.int 0, .int 0, .int 0, .ref (s + 1), .ref (s + 2), .null, .null, .null, .null, .null], oa G 2 8 (fun _ => none), ia G 8 (fun _ => 0)])) (mL_set (j := 0) (Nat.le_of_ble_eq_true rfl) rfl) ?_
  refine go_aload_n dX5_init_36 rfl ?_
  refine go_bipush (v := 8) dX5_init_37 rfl ?_
  refine go_newi dX5_init_39 wm_56 (len := 8) (by decide) rfl (by decide) (Nat.le_of_ble_eq_true rfl) (Nat.le_of_ble_eq_true rfl) ?_
  refine go_nn (n' := s + 4) rfl ?_
  refine go_mem (f' := (mL f s [ob 5 [.int 0, .int 0, .int 0, .ref (s + 1), .ref (s + 2), .null, .null, .null, .null, .null], oa G 2 8 (fun _ => none), ia G 8 (fun _ => 0), ia G 8 (fun _ => 0)])) (mL_push rfl rfl) ?_
  refine go_put dX5_init_41 fp_X5_31_5 (Or.inl rfl) (mL_get (j := 0) rfl) (by omega) (by omega) rfl rfl (Nat.le_of_ble_eq_true rfl) ?_
  refine go_mem (f' := (mL f s [ob 5 [.int 0, .int 0, .int 0, .ref (s + 1), .ref (s + 2), .ref (s + 3), .null, .null, .null, .null], oa G 2 8 (fun _ => none), ia G 8 (fun _ => 0), ia G 8 (fun _ => 0)])) (mL_set (j := 0) (Nat.le_of_ble_eq_true rfl) rfl) ?_
  refine go_aload_n dX5_init_44 rfl ?_
  refine go_bipush (v := 64) dX5_init_45 rfl ?_
  refine go_newi dX5_init_47 wm_56 (len := 64) (by decide) rfl (by decide) (Nat.le_of_ble_eq_true rfl) (Nat.le_of_ble_eq_true rfl) ?_
  refine go_nn (n' := s + 5) rfl ?_
  refine go_mem (f' := (mL f s [ob 5 [.int 0, .int 0, .int 0, .ref (s + 1), .ref (s + 2), .ref (s + 3), .null, .null, .null, .null], oa G 2 8 (fun _ => none), ia G 8 (fun _ => 0), ia G 8 (fun _ => 0), ia G 64 (fun _ => 0)])) (mL_push rfl rfl) ?_
  refine go_put dX5_init_49 fp_X5_34_5 (Or.inl rfl) (mL_get (j := 0) rfl) (by omega) (by omega) rfl rfl (Nat.le_of_ble_eq_true rfl) ?_
  refine go_mem (f' := (mL f s [ob 5 [.int 0, .int 0, .int 0, .ref (s + 1), .ref (s + 2), .ref (s + 3), .ref (s + 4), .null, .null, .null], oa G 2 8 (fun _ => none), ia G 8 (fun _ => 0), ia G 8 (fun _ => 0), ia G 64 (fun _ => 0)])) (mL_set (j := 0) (Nat.le_of_ble_eq_true rfl) rfl) ?_
  refine go_aload_n dX5_init_52 rfl ?_
  refine go_iconst (v := 5) dX5_init_53 rfl ?_
  refine go_newi dX5_init_54 wm_56 (len := 5) (by decide) rfl (by decide) (Nat.le_of_ble_eq_true rfl) (Nat.le_of_ble_eq_true rfl) ?_
  refine go_nn (n' := s + 6) rfl ?_
  refine go_mem (f' := (mL f s [ob 5 [.int 0, .int 0, .int 0, .ref (s + 1), .ref (s + 2), .ref (s + 3), .ref (s + 4), .null, .null, .null], oa G 2 8 (fun _ => none), ia G 8 (fun _ => 0), ia G 8 (fun _ => 0), ia G 64 (fun _ => 0), ia G 5 (fun _ => 0)])) (mL_push rfl rfl) ?_
  refine go_put dX5_init_56 fp_X5_37_5 (Or.inl rfl) (mL_get (j := 0) rfl) (by omega) (by omega) rfl rfl (Nat.le_of_ble_eq_true rfl) ?_
  refine go_mem (f' := (mL f s [ob 5 [.int 0, .int 0, .int 0, .ref (s + 1), .ref (s + 2), .ref (s + 3), .ref (s + 4), .ref (s + 5), .null, .null], oa G 2 8 (fun _ => none), ia G 8 (fun _ => 0), ia G 8 (fun _ => 0), ia G 64 (fun _ => 0), ia G 5 (fun _ => 0)])) (mL_set (j := 0) (Nat.le_of_ble_eq_true rfl) rfl) ?_
  refine go_aload_n dX5_init_59 rfl ?_
  refine go_iconst (v := 5) dX5_init_60 rfl ?_
  refine go_newi dX5_init_61 wm_56 (len := 5) (by decide) rfl (by decide) (Nat.le_of_ble_eq_true rfl) (Nat.le_of_ble_eq_true rfl) ?_
  refine go_nn (n' := s + 7) rfl ?_
  refine go_mem (f' := (mL f s [ob 5 [.int 0, .int 0, .int 0, .ref (s + 1), .ref (s + 2), .ref (s + 3), .ref (s + 4), .ref (s + 5), .null, .null], oa G 2 8 (fun _ => none), ia G 8 (fun _ => 0), ia G 8 (fun _ => 0), ia G 64 (fun _ => 0), ia G 5 (fun _ => 0), ia G 5 (fun _ => 0)])) (mL_push rfl rfl) ?_
  refine go_put dX5_init_63 fp_X5_40_5 (Or.inl rfl) (mL_get (j := 0) rfl) (by omega) (by omega) rfl rfl (Nat.le_of_ble_eq_true rfl) ?_
  refine go_mem (f' := (mL f s [ob 5 [.int 0, .int 0, .int 0, .ref (s + 1), .ref (s + 2), .ref (s + 3), .ref (s + 4), .ref (s + 5), .ref (s + 6), .null], oa G 2 8 (fun _ => none), ia G 8 (fun _ => 0), ia G 8 (fun _ => 0), ia G 64 (fun _ => 0), ia G 5 (fun _ => 0), ia G 5 (fun _ => 0)])) (mL_set (j := 0) (Nat.le_of_ble_eq_true rfl) rfl) ?_
  refine go_aload_n dX5_init_66 rfl ?_
  refine go_iconst (v := 5) dX5_init_67 rfl ?_
  refine go_newi dX5_init_68 wm_56 (len := 5) (by decide) rfl (by decide) (Nat.le_of_ble_eq_true rfl) (Nat.le_of_ble_eq_true rfl) ?_
  refine go_nn (n' := s + 8) rfl ?_
  refine go_mem (f' := (mL f s [ob 5 [.int 0, .int 0, .int 0, .ref (s + 1), .ref (s + 2), .ref (s + 3), .ref (s + 4), .ref (s + 5), .ref (s + 6), .null], oa G 2 8 (fun _ => none), ia G 8 (fun _ => 0), ia G 8 (fun _ => 0), ia G 64 (fun _ => 0), ia G 5 (fun _ => 0), ia G 5 (fun _ => 0), ia G 5 (fun _ => 0)])) (mL_push rfl rfl) ?_
  refine go_put dX5_init_70 fp_X5_43_5 (Or.inl rfl) (mL_get (j := 0) rfl) (by omega) (by omega) rfl rfl (Nat.le_of_ble_eq_true rfl) ?_
  refine go_mem (f' := (mL f s [ob 5 [.int 0, .int 0, .int 0, .ref (s + 1), .ref (s + 2), .ref (s + 3), .ref (s + 4), .ref (s + 5), .ref (s + 6), .ref (s + 7)], oa G 2 8 (fun _ => none), ia G 8 (fun _ => 0), ia G 8 (fun _ => 0), ia G 64 (fun _ => 0), ia G 5 (fun _ => 0), ia G 5 (fun _ => 0), ia G 5 (fun _ => 0)])) (mL_set (j := 0) (Nat.le_of_ble_eq_true rfl) rfl) ?_
  refine go_new (fs := [.int 0]) dX5_init_73 (ci := 3) rfl iw_3 tyX3_ok wm_37 wm_39 wm_3 (ty1 rfl) (Nat.le_of_ble_eq_true rfl) (Nat.le_of_ble_eq_true rfl) ?_
  refine go_nn (n' := s + 9) rfl ?_
  refine go_mem (f' := (mL f s [ob 5 [.int 0, .int 0, .int 0, .ref (s + 1), .ref (s + 2), .ref (s + 3), .ref (s + 4), .ref (s + 5), .ref (s + 6), .ref (s + 7)], oa G 2 8 (fun _ => none), ia G 8 (fun _ => 0), ia G 8 (fun _ => 0), ia G 64 (fun _ => 0), ia G 5 (fun _ => 0), ia G 5 (fun _ => 0), ia G 5 (fun _ => 0), ob 3 [.int 0]])) (mL_push rfl rfl) ?_
  refine go_dup dX5_init_76 rfl ?_
  refine go_iconst (v := 0) dX5_init_77 rfl ?_
  refine go_I [.int 0] [.ref (s + 8)] dX5_init_78 il_X5_46 ⟨by omega, by decide⟩ (e_X3_init (ci := 3) (mL_get (j := 8) rfl) fp_X3_7_3 (by omega) (by omega)) rfl rfl (Nat.le_of_ble_eq_true rfl) (Nat.le_of_ble_eq_true rfl) (Nat.le_of_ble_eq_true rfl) (fun r1 f1 n1 h1 => ?_)
  obtain ⟨rfl, rfl, rfl⟩ := h1
  refine go_mem (f' := (mL f s [ob 5 [.int 0, .int 0, .int 0, .ref (s + 1), .ref (s + 2), .ref (s + 3), .ref (s + 4), .ref (s + 5), .ref (s + 6), .ref (s + 7)], oa G 2 8 (fun _ => none), ia G 8 (fun _ => 0), ia G 8 (fun _ => 0), ia G 64 (fun _ => 0), ia G 5 (fun _ => 0), ia G 5 (fun _ => 0), ia G 5 (fun _ => 0), ob 3 [.int 0]])) (mL_set (j := 8) (Nat.le_of_ble_eq_true rfl) rfl) ?_
  refine go_astore_n (ls' := [some (.ref s), some (.ref (s + 8)), none]) dX5_init_81 ⟨by decide, rfl, rfl⟩ ?_
  refine go_iconst (v := 0) dX5_init_82 rfl ?_
  refine go_istore_n (ls' := [some (.ref s), some (.ref (s + 8)), some (.int 0)]) dX5_init_83 ⟨by decide, rfl, rfl⟩ ?_
  have lp0 : ∀ (μ_lp0 : Nat) (p : Nat) (hp : p ≤ 8) (hmp : 9 ≤ p + μ_lp0), Go G mX5_init 3 8 104 Q9 8 104 84 [some (.ref s), some (.ref (s + 8)), some (.int (nI p))] [] (mL f s [ob 5 [.int 0, .int 0, .int 0, .ref (s + 1), .ref (s + 2), .ref (s + 3), .ref (s + 4), .ref (s + 5), .ref (s + 6), .ref (s + 7)], oa G 2 8 (whS s p), ia G 8 (fun _ => 0), ia G 8 (fun _ => 0), ia G 64 (fun _ => 0), ia G 5 (fun _ => 0), ia G 5 (fun _ => 0), ia G 5 (fun _ => 0), ob 3 [.int 0]]) (s + 9) := by
    intro μ_lp0
    induction μ_lp0 with
    | zero =>
      intro p hp hmp
      exact absurd hmp (by omega)
    | succ μ_lp0 ih_lp0 =>
      intro p hp hmp
      refine go_iload_n dX5_init_84 rfl ?_
      refine go_bipush (v := 8) dX5_init_85 rfl ?_
      refine go_icmp_ge dX5_init_87 (fun c87 => ?_) (fun c87 => ?_)
      · have c87n := (nI_leI (a := 8) (b := p) (by omega) (by omega)).mp c87
        have c87n := Nat.not_lt.mpr c87n
        have c87 := Int32.not_lt.mpr c87
        exact go_vret dX5_init_103 rfl (Nat.le_of_ble_eq_true rfl) (Nat.le_of_ble_eq_true rfl) (hQ9 ▸ ⟨rfl, by rw [show p = 8 by omega], rfl⟩)
      · have c87n := mt (nI_leI (a := 8) (b := p) (by omega) (by omega)).mpr c87
        have c87n := Nat.lt_of_not_le c87n
        have c87 := Int32.not_le.mp c87
        refine go_aload_n dX5_init_90 rfl ?_
        refine go_get dX5_init_91 fl_X5_23_5 (mL_get (j := 0) rfl) (by omega) (by omega) rfl ?_
        refine go_iload_n dX5_init_94 rfl ?_
        refine go_aload_n dX5_init_95 rfl ?_
        refine go_oast dX5_init_96 (mL_get (j := 1) rfl) (by omega) (by omega) rfl (vp_in_nI (n := p) (by show p < 8; omega) (by decide)) (mL_get (j := 8) rfl) (by omega) (by omega) (ci := 3) rfl (Or.inl rfl) ?_
        refine go_mem (f' := (mL f s [ob 5 [.int 0, .int 0, .int 0, .ref (s + 1), .ref (s + 2), .ref (s + 3), .ref (s + 4), .ref (s + 5), .ref (s + 6), .ref (s + 7)], oa G 2 8 (whS s (p + 1)), ia G 8 (fun _ => 0), ia G 8 (fun _ => 0), ia G 64 (fun _ => 0), ia G 5 (fun _ => 0), ia G 5 (fun _ => 0), ia G 5 (fun _ => 0), ob 3 [.int 0]])) (by rw [nI_clamp (by omega), whS_s]; exact mL_set (j := 1) (Nat.le_of_ble_eq_true rfl) rfl) ?_
        refine go_iinc (v := nI (p + 1)) (ls' := [some (.ref s), some (.ref (s + 8)), some (.int (nI (p + 1)))]) dX5_init_97 rfl (nI_1 (p)) ⟨by decide, rfl, rfl⟩ ?_
        refine go_goto dX5_init_100 ?_
        exact ih_lp0 (p + 1) (by omega) (by omega)
  refine go_mem (f' := (mL f s [ob 5 [.int 0, .int 0, .int 0, .ref (s + 1), .ref (s + 2), .ref (s + 3), .ref (s + 4), .ref (s + 5), .ref (s + 6), .ref (s + 7)], oa G 2 8 (whS s 0), ia G 8 (fun _ => 0), ia G 8 (fun _ => 0), ia G 64 (fun _ => 0), ia G 5 (fun _ => 0), ia G 5 (fun _ => 0), ia G 5 (fun _ => 0), ob 3 [.int 0]])) (by rw [whS_0]) ?_
  exact lp0 9 0 (Nat.zero_le _) (by omega)
set_option maxHeartbeats 4000000 in
set_option maxRecDepth 100000 in
theorem e_X9_init {s : Nat} (hs : f s = ob 9 [.int 0, .int 0, .null, .int 0, .null, .null, .null]) (hq : G.2.1 ≤ s)  : Ev G mX9_init 2 4 280 [.ref s] f (s + 1) (fun r f1 n1 => r = none ∧ f1 = (mL f s [ob 9 [.int 0, .int 0, .ref (s + 1), .int 0, .ref (s + 2), .ref (s + 3), .ref (s + 4)], ia G 8 (fun _ => 0), ia G 8 (fun _ => 0), ja G 256 (fun _ => 0), ia G 8 (fun _ => 0)]) ∧ n1 = s + 5) := by
  generalize hQ9 : (fun r f1 n1 => r = none ∧ f1 = (mL f s [ob 9 [.int 0, .int 0, .ref (s + 1), .int 0, .ref (s + 2), .ref (s + 3), .ref (s + 4)], ia G 8 (fun _ => 0), ia G 8 (fun _ => 0), ja G 256 (fun _ => 0), ia G 8 (fun _ => 0)]) ∧ n1 = s + 5 : RQ) = Q9
  refine ev_of (by decide) (Nat.le_of_ble_eq_true rfl) (ls := [some (.ref s)]) rfl (fun hb => ?_)
  refine go_mem (f' := (mL f s [ob 9 [.int 0, .int 0, .null, .int 0, .null, .null, .null]])) (mL_one hs) ?_
  refine go_aload_n dX9_init_0 rfl ?_
  refine go_obj dX9_init_1 wm_104 wm_29 wm_30 (Nat.le_of_ble_eq_true rfl) (by omega) ?_
  refine go_aload_n dX9_init_4 rfl ?_
  refine go_iconst (v := 0) dX9_init_5 rfl ?_
  refine go_put dX9_init_6 fp_X9_11_9 (Or.inl rfl) (mL_get (j := 0) rfl) (by omega) (by omega) rfl rfl (Nat.le_of_ble_eq_true rfl) ?_
  refine go_mem (f' := (mL f s [ob 9 [.int 0, .int 0, .null, .int 0, .null, .null, .null]])) (mL_set (j := 0) (Nat.le_of_ble_eq_true rfl) rfl) ?_
  refine go_aload_n dX9_init_9 rfl ?_
  refine go_iconst (v := 0) dX9_init_10 rfl ?_
  refine go_put dX9_init_11 fp_X9_15_9 (Or.inl rfl) (mL_get (j := 0) rfl) (by omega) (by omega) rfl rfl (Nat.le_of_ble_eq_true rfl) ?_
  refine go_mem (f' := (mL f s [ob 9 [.int 0, .int 0, .null, .int 0, .null, .null, .null]])) (mL_set (j := 0) (Nat.le_of_ble_eq_true rfl) rfl) ?_
  refine go_aload_n dX9_init_14 rfl ?_
  refine go_bipush (v := 8) dX9_init_15 rfl ?_
  refine go_newi dX9_init_17 wm_56 (len := 8) (by decide) rfl (by decide) (Nat.le_of_ble_eq_true rfl) (Nat.le_of_ble_eq_true rfl) ?_
  refine go_nn (n' := s + 2) rfl ?_
  refine go_mem (f' := (mL f s [ob 9 [.int 0, .int 0, .null, .int 0, .null, .null, .null], ia G 8 (fun _ => 0)])) (mL_push rfl rfl) ?_
  refine go_put dX9_init_19 fp_X9_18_9 (Or.inl rfl) (mL_get (j := 0) rfl) (by omega) (by omega) rfl rfl (Nat.le_of_ble_eq_true rfl) ?_
  refine go_mem (f' := (mL f s [ob 9 [.int 0, .int 0, .ref (s + 1), .int 0, .null, .null, .null], ia G 8 (fun _ => 0)])) (mL_set (j := 0) (Nat.le_of_ble_eq_true rfl) rfl) ?_
  refine go_aload_n dX9_init_22 rfl ?_
  refine go_iconst (v := 0) dX9_init_23 rfl ?_
  refine go_put dX9_init_24 fp_X9_22_9 (Or.inl rfl) (mL_get (j := 0) rfl) (by omega) (by omega) rfl rfl (Nat.le_of_ble_eq_true rfl) ?_
  refine go_mem (f' := (mL f s [ob 9 [.int 0, .int 0, .ref (s + 1), .int 0, .null, .null, .null], ia G 8 (fun _ => 0)])) (mL_set (j := 0) (Nat.le_of_ble_eq_true rfl) rfl) ?_
  refine go_aload_n dX9_init_27 rfl ?_
  refine go_bipush (v := 8) dX9_init_28 rfl ?_
  refine go_newi dX9_init_30 wm_56 (len := 8) (by decide) rfl (by decide) (Nat.le_of_ble_eq_true rfl) (Nat.le_of_ble_eq_true rfl) ?_
  refine go_nn (n' := s + 3) rfl ?_
  refine go_mem (f' := (mL f s [ob 9 [.int 0, .int 0, .ref (s + 1), .int 0, .null, .null, .null], ia G 8 (fun _ => 0), ia G 8 (fun _ => 0)])) (mL_push rfl rfl) ?_
  refine go_put dX9_init_32 fp_X9_26_9 (Or.inl rfl) (mL_get (j := 0) rfl) (by omega) (by omega) rfl rfl (Nat.le_of_ble_eq_true rfl) ?_
  refine go_mem (f' := (mL f s [ob 9 [.int 0, .int 0, .ref (s + 1), .int 0, .ref (s + 2), .null, .null], ia G 8 (fun _ => 0), ia G 8 (fun _ => 0)])) (mL_set (j := 0) (Nat.le_of_ble_eq_true rfl) rfl) ?_
  refine go_aload_n dX9_init_35 rfl ?_
  refine go_sipush (v := 256) dX9_init_36 rfl ?_
  refine go_newl dX9_init_39 wm_130 (len := 256) (by decide) rfl (by decide) (Nat.le_of_ble_eq_true rfl) (Nat.le_of_ble_eq_true rfl) ?_
  refine go_nn (n' := s + 4) rfl ?_
  refine go_mem (f' := (mL f s [ob 9 [.int 0, .int 0, .ref (s + 1), .int 0, .ref (s + 2), .null, .null], ia G 8 (fun _ => 0), ia G 8 (fun _ => 0), ja G 256 (fun _ => 0)])) (mL_push rfl rfl) ?_
  refine go_put dX9_init_41 fp_X9_29_9 (Or.inl rfl) (mL_get (j := 0) rfl) (by omega) (by omega) rfl rfl (Nat.le_of_ble_eq_true rfl) ?_
  refine go_mem (f' := (mL f s [ob 9 [.int 0, .int 0, .ref (s + 1), .int 0, .ref (s + 2), .ref (s + 3), .null], ia G 8 (fun _ => 0), ia G 8 (fun _ => 0), ja G 256 (fun _ => 0)])) (mL_set (j := 0) (Nat.le_of_ble_eq_true rfl) rfl) ?_
  refine go_aload_n dX9_init_44 rfl ?_
  refine go_bipush (v := 8) dX9_init_45 rfl ?_
  refine go_newi dX9_init_47 wm_56 (len := 8) (by decide) rfl (by decide) (Nat.le_of_ble_eq_true rfl) (Nat.le_of_ble_eq_true rfl) ?_
  refine go_nn (n' := s + 5) rfl ?_
  refine go_mem (f' := (mL f s [ob 9 [.int 0, .int 0, .ref (s + 1), .int 0, .ref (s + 2), .ref (s + 3), .null], ia G 8 (fun _ => 0), ia G 8 (fun _ => 0), ja G 256 (fun _ => 0), ia G 8 (fun _ => 0)])) (mL_push rfl rfl) ?_
  refine go_put dX9_init_49 fp_X9_33_9 (Or.inl rfl) (mL_get (j := 0) rfl) (by omega) (by omega) rfl rfl (Nat.le_of_ble_eq_true rfl) ?_
  refine go_mem (f' := (mL f s [ob 9 [.int 0, .int 0, .ref (s + 1), .int 0, .ref (s + 2), .ref (s + 3), .ref (s + 4)], ia G 8 (fun _ => 0), ia G 8 (fun _ => 0), ja G 256 (fun _ => 0), ia G 8 (fun _ => 0)])) (mL_set (j := 0) (Nat.le_of_ble_eq_true rfl) rfl) ?_
  exact go_vret dX9_init_52 rfl (Nat.le_of_ble_eq_true rfl) (Nat.le_of_ble_eq_true rfl) (hQ9 ▸ ⟨rfl, rfl, rfl⟩)
end C10
