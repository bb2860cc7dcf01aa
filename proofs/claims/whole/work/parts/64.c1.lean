/-! the JDK's few -/
def mxS (a b : Int32) : Int32 := if a < b then b else a
def mnS (a b : Int32) : Int32 := if b < a then b else a
def mlS (a b : Int64) : Int64 := if a < b then b else a
def abS (x : Int32) : Int32 := if x < 0 then -x else x
/-! the kinds' values, as the classes say them -/
def plC (fg x y : Int32) : Int32 := mxS 0 (12 - abS (x - fg) - y)
def tiC (fg x y : Int32) : Int32 := mxS 0 (plC fg x y - y)
def bvC (k : Nat) (fg x y : Int32) : Int32 := match k with
  | 1 => plC fg x y + y
  | 2 => tiC fg x y
  | 3 => plC fg x y + 2
  | 4 => tiC fg x y / 2
  | 5 => plC fg x y + y
  | 6 => mxS 0 (tiC fg x y - 3)
  | 7 => plC fg x y + 2 + 1
  | _ => plC fg x y
theorem bvC_ok : ∀ k, k < 8 → ∀ a, a < 10 → ∀ j, j < 8 → ∀ b, b < 10 → bvC k (nI a) (nI b) (dampS (nI j)) = bearS (nI k) (nI a) (nI j) (nI b) := by decide +kernel
section C1
variable {G : GX} {f : Mem} {n : Nat}
set_option maxHeartbeats 4000000 in
set_option maxRecDepth 100000 in
theorem e_J9_abs {x : Int32} : Ev G mJ9_abs_0f7a4 1 0 0 [.int x] f n (RD (.int (abS x)) f n) := by
  generalize hQ9 : (RD (.int (abS x)) f n : RQ) = Q9
  refine ev_ofJ (by decide +kernel) (Nat.le_of_ble_eq_true rfl) (ls := [some (.int x)]) rfl (fun hb => ?_)
  refine go_iload_n dJ9_abs_0f7a4_0 rfl ?_
  refine go_if_ge dJ9_abs_0f7a4_1 (fun c1 => ?_) (fun c1 => ?_)
  · have c1 := Int32.not_lt.mpr c1
    refine go_iload_n dJ9_abs_0f7a4_9 rfl ?_
    exact go_iret dJ9_abs_0f7a4_10 rfl (Nat.le_of_ble_eq_true rfl) (Nat.le_of_ble_eq_true rfl) (hQ9 ▸ ⟨rd_i (by unfold abS; rw [if_neg c1]), rfl, rfl⟩)
  · have c1 := Int32.not_le.mp c1
    refine go_iload_n dJ9_abs_0f7a4_4 rfl ?_
    refine go_ineg dJ9_abs_0f7a4_5 ?_
    refine go_goto dJ9_abs_0f7a4_6 ?_
    exact go_iret dJ9_abs_0f7a4_10 rfl (Nat.le_of_ble_eq_true rfl) (Nat.le_of_ble_eq_true rfl) (hQ9 ▸ ⟨rd_i (by unfold abS; rw [if_pos c1]), rfl, rfl⟩)
set_option maxHeartbeats 4000000 in
set_option maxRecDepth 100000 in
theorem e_J9_max {x z : Int32} : Ev G mJ9_max_7cf53 1 0 0 [.int x, .int z] f n (RD (.int (mxS x z)) f n) := by
  generalize hQ9 : (RD (.int (mxS x z)) f n : RQ) = Q9
  refine ev_ofJ (by decide +kernel) (Nat.le_of_ble_eq_true rfl) (ls := [some (.int x), some (.int z)]) rfl (fun hb => ?_)
  refine go_iload_n dJ9_max_7cf53_0 rfl ?_
  refine go_iload_n dJ9_max_7cf53_1 rfl ?_
  refine go_icmp_lt dJ9_max_7cf53_2 (fun c2 => ?_) (fun c2 => ?_)
  · refine go_iload_n dJ9_max_7cf53_9 rfl ?_
    exact go_iret dJ9_max_7cf53_10 rfl (Nat.le_of_ble_eq_true rfl) (Nat.le_of_ble_eq_true rfl) ((hQ9 ▸ ⟨rd_i (a := z) (by simp [mxS, c2]), rfl, rfl⟩))
  · refine go_iload_n dJ9_max_7cf53_5 rfl ?_
    refine go_goto dJ9_max_7cf53_6 ?_
    exact go_iret dJ9_max_7cf53_10 rfl (Nat.le_of_ble_eq_true rfl) (Nat.le_of_ble_eq_true rfl) ((hQ9 ▸ ⟨rd_i (a := x) (by simp [mxS, c2]), rfl, rfl⟩))
set_option maxHeartbeats 4000000 in
set_option maxRecDepth 100000 in
theorem e_J9_min {x z : Int32} : Ev G mJ9_min_7cf53 1 0 0 [.int x, .int z] f n (RD (.int (mnS x z)) f n) := by
  generalize hQ9 : (RD (.int (mnS x z)) f n : RQ) = Q9
  refine ev_ofJ (by decide +kernel) (Nat.le_of_ble_eq_true rfl) (ls := [some (.int x), some (.int z)]) rfl (fun hb => ?_)
  refine go_iload_n dJ9_min_7cf53_0 rfl ?_
  refine go_iload_n dJ9_min_7cf53_1 rfl ?_
  refine go_icmp_gt dJ9_min_7cf53_2 (fun c2 => ?_) (fun c2 => ?_)
  · refine go_iload_n dJ9_min_7cf53_9 rfl ?_
    exact go_iret dJ9_min_7cf53_10 rfl (Nat.le_of_ble_eq_true rfl) (Nat.le_of_ble_eq_true rfl) ((hQ9 ▸ ⟨rd_i (a := z) (by simp [mnS, c2]), rfl, rfl⟩))
  · refine go_iload_n dJ9_min_7cf53_5 rfl ?_
    refine go_goto dJ9_min_7cf53_6 ?_
    exact go_iret dJ9_min_7cf53_10 rfl (Nat.le_of_ble_eq_true rfl) (Nat.le_of_ble_eq_true rfl) ((hQ9 ▸ ⟨rd_i (a := x) (by simp [mnS, c2]), rfl, rfl⟩))
set_option maxHeartbeats 4000000 in
set_option maxRecDepth 100000 in
theorem e_J9_maxL {x z : Int64} : Ev G mJ9_max_f86c9 1 0 0 [.long x, .long z] f n (RD (.long (mlS x z)) f n) := by
  generalize hQ9 : (RD (.long (mlS x z)) f n : RQ) = Q9
  refine ev_ofJ (by decide +kernel) (Nat.le_of_ble_eq_true rfl) (ls := [some (.long x), none, some (.long z), none]) rfl (fun hb => ?_)
  refine go_lload_n dJ9_max_f86c9_0 rfl ?_
  refine go_lload_n dJ9_max_f86c9_1 rfl ?_
  refine go_lcmp dJ9_max_f86c9_2 ?_
  refine go_if_lt dJ9_max_f86c9_3 (fun c3 => ?_) (fun c3 => ?_)
  · have c3 := (lc_lt _ _).mp c3
    refine go_lload_n dJ9_max_f86c9_10 rfl ?_
    exact go_lret dJ9_max_f86c9_11 rfl (Nat.le_of_ble_eq_true rfl) (Nat.le_of_ble_eq_true rfl) ((hQ9 ▸ ⟨rd_l (a := z) (by simp [mlS, c3]), rfl, rfl⟩))
  · have c3 := mt (lc_lt _ _).mpr c3
    refine go_lload_n dJ9_max_f86c9_6 rfl ?_
    refine go_goto dJ9_max_f86c9_7 ?_
    exact go_lret dJ9_max_f86c9_11 rfl (Nat.le_of_ble_eq_true rfl) (Nat.le_of_ble_eq_true rfl) ((hQ9 ▸ ⟨rd_l (a := x) (by simp [mlS, c3]), rfl, rfl⟩))
set_option maxHeartbeats 4000000 in
set_option maxRecDepth 100000 in
theorem e_X3_kind {ci a : Nat} {fg : Int32} (hci : ci < 13) (he : f a = ob ci [.int fg]) (h1 : G.2.1 ≤ a) (h2 : a < n)  : Ev G mX3_kind 1 0 0 [.ref a] f n (RD (.int 0) f n) := by
  generalize hQ9 : (RD (.int 0) f n : RQ) = Q9
  refine ev_of (by decide) (Nat.le_of_ble_eq_true rfl) (ls := [some (.ref a)]) rfl (fun hb => ?_)
  refine go_iconst (v := 0) dX3_kind_0 rfl ?_
  exact go_iret dX3_kind_1 rfl (Nat.le_of_ble_eq_true rfl) (Nat.le_of_ble_eq_true rfl) (hQ9 ▸ ⟨rfl, rfl, rfl⟩)
set_option maxHeartbeats 4000000 in
set_option maxRecDepth 100000 in
theorem e_X10_kind {ci a : Nat} {fg : Int32} (hci : ci < 13) (he : f a = ob ci [.int fg]) (h1 : G.2.1 ≤ a) (h2 : a < n)  : Ev G mX10_kind 1 0 0 [.ref a] f n (RD (.int 1) f n) := by
  generalize hQ9 : (RD (.int 1) f n : RQ) = Q9
  refine ev_of (by decide) (Nat.le_of_ble_eq_true rfl) (ls := [some (.ref a)]) rfl (fun hb => ?_)
  refine go_iconst (v := 1) dX10_kind_0 rfl ?_
  exact go_iret dX10_kind_1 rfl (Nat.le_of_ble_eq_true rfl) (Nat.le_of_ble_eq_true rfl) (hQ9 ▸ ⟨rfl, rfl, rfl⟩)
set_option maxHeartbeats 4000000 in
set_option maxRecDepth 100000 in
theorem e_X8_kind {ci a : Nat} {fg : Int32} (hci : ci < 13) (he : f a = ob ci [.int fg]) (h1 : G.2.1 ≤ a) (h2 : a < n)  : Ev G mX8_kind 1 0 0 [.ref a] f n (RD (.int 2) f n) := by
  generalize hQ9 : (RD (.int 2) f n : RQ) = Q9
  refine ev_of (by decide) (Nat.le_of_ble_eq_true rfl) (ls := [some (.ref a)]) rfl (fun hb => ?_)
  refine go_iconst (v := 2) dX8_kind_0 rfl ?_
  exact go_iret dX8_kind_1 rfl (Nat.le_of_ble_eq_true rfl) (Nat.le_of_ble_eq_true rfl) (hQ9 ▸ ⟨rfl, rfl, rfl⟩)
set_option maxHeartbeats 4000000 in
set_option maxRecDepth 100000 in
theorem e_X7_kind {ci a : Nat} {fg : Int32} (hci : ci < 13) (he : f a = ob ci [.int fg]) (h1 : G.2.1 ≤ a) (h2 : a < n)  : Ev G mX7_kind 1 0 0 [.ref a] f n (RD (.int 3) f n) := by
  generalize hQ9 : (RD (.int 3) f n : RQ) = Q9
  refine ev_of (by decide) (Nat.le_of_ble_eq_true rfl) (ls := [some (.ref a)]) rfl (fun hb => ?_)
  refine go_iconst (v := 3) dX7_kind_0 rfl ?_
  exact go_iret dX7_kind_1 rfl (Nat.le_of_ble_eq_true rfl) (Nat.le_of_ble_eq_true rfl) (hQ9 ▸ ⟨rfl, rfl, rfl⟩)
set_option maxHeartbeats 4000000 in
set_option maxRecDepth 100000 in
theorem e_X0_kind {ci a : Nat} {fg : Int32} (hci : ci < 13) (he : f a = ob ci [.int fg]) (h1 : G.2.1 ≤ a) (h2 : a < n)  : Ev G mX0_kind 1 0 0 [.ref a] f n (RD (.int 4) f n) := by
  generalize hQ9 : (RD (.int 4) f n : RQ) = Q9
  refine ev_of (by decide) (Nat.le_of_ble_eq_true rfl) (ls := [some (.ref a)]) rfl (fun hb => ?_)
  refine go_iconst (v := 4) dX0_kind_0 rfl ?_
  exact go_iret dX0_kind_1 rfl (Nat.le_of_ble_eq_true rfl) (Nat.le_of_ble_eq_true rfl) (hQ9 ▸ ⟨rfl, rfl, rfl⟩)
set_option maxHeartbeats 4000000 in
set_option maxRecDepth 100000 in
theorem e_X6_kind {ci a : Nat} {fg : Int32} (hci : ci < 13) (he : f a = ob ci [.int fg]) (h1 : G.2.1 ≤ a) (h2 : a < n)  : Ev G mX6_kind 1 0 0 [.ref a] f n (RD (.int 5) f n) := by
  generalize hQ9 : (RD (.int 5) f n : RQ) = Q9
  refine ev_of (by decide) (Nat.le_of_ble_eq_true rfl) (ls := [some (.ref a)]) rfl (fun hb => ?_)
  refine go_iconst (v := 5) dX6_kind_0 rfl ?_
  exact go_iret dX6_kind_1 rfl (Nat.le_of_ble_eq_true rfl) (Nat.le_of_ble_eq_true rfl) (hQ9 ▸ ⟨rfl, rfl, rfl⟩)
set_option maxHeartbeats 4000000 in
set_option maxRecDepth 100000 in
theorem e_X2_kind {ci a : Nat} {fg : Int32} (hci : ci < 13) (he : f a = ob ci [.int fg]) (h1 : G.2.1 ≤ a) (h2 : a < n)  : Ev G mX2_kind 1 0 0 [.ref a] f n (RD (.int 6) f n) := by
  generalize hQ9 : (RD (.int 6) f n : RQ) = Q9
  refine ev_of (by decide) (Nat.le_of_ble_eq_true rfl) (ls := [some (.ref a)]) rfl (fun hb => ?_)
  refine go_bipush (v := 6) dX2_kind_0 rfl ?_
  exact go_iret dX2_kind_2 rfl (Nat.le_of_ble_eq_true rfl) (Nat.le_of_ble_eq_true rfl) (hQ9 ▸ ⟨rfl, rfl, rfl⟩)
set_option maxHeartbeats 4000000 in
set_option maxRecDepth 100000 in
theorem e_X1_kind {ci a : Nat} {fg : Int32} (hci : ci < 13) (he : f a = ob ci [.int fg]) (h1 : G.2.1 ≤ a) (h2 : a < n)  : Ev G mX1_kind 1 0 0 [.ref a] f n (RD (.int 7) f n) := by
  generalize hQ9 : (RD (.int 7) f n : RQ) = Q9
  refine ev_of (by decide) (Nat.le_of_ble_eq_true rfl) (ls := [some (.ref a)]) rfl (fun hb => ?_)
  refine go_bipush (v := 7) dX1_kind_0 rfl ?_
  exact go_iret dX1_kind_2 rfl (Nat.le_of_ble_eq_true rfl) (Nat.le_of_ble_eq_true rfl) (hQ9 ▸ ⟨rfl, rfl, rfl⟩)
set_option maxHeartbeats 4000000 in
set_option maxRecDepth 100000 in
theorem e_X3_damp {ci a : Nat} {fg : Int32} (hci : ci < 13) (he : f a = ob ci [.int fg]) (h1 : G.2.1 ≤ a) (h2 : a < n)  : Ev G mX3_damp 1 0 0 [.ref a] f n (RD (.int 0) f n) := by
  generalize hQ9 : (RD (.int 0) f n : RQ) = Q9
  refine ev_of (by decide) (Nat.le_of_ble_eq_true rfl) (ls := [some (.ref a)]) rfl (fun hb => ?_)
  refine go_iconst (v := 0) dX3_damp_0 rfl ?_
  exact go_iret dX3_damp_1 rfl (Nat.le_of_ble_eq_true rfl) (Nat.le_of_ble_eq_true rfl) (hQ9 ▸ ⟨rfl, rfl, rfl⟩)
set_option maxHeartbeats 4000000 in
set_option maxRecDepth 100000 in
theorem e_X10_damp {ci a : Nat} {fg : Int32} (hci : ci < 13) (he : f a = ob ci [.int fg]) (h1 : G.2.1 ≤ a) (h2 : a < n)  : Ev G mX10_damp 1 0 0 [.ref a] f n (RD (.int 3) f n) := by
  generalize hQ9 : (RD (.int 3) f n : RQ) = Q9
  refine ev_of (by decide) (Nat.le_of_ble_eq_true rfl) (ls := [some (.ref a)]) rfl (fun hb => ?_)
  refine go_iconst (v := 3) dX10_damp_0 rfl ?_
  exact go_iret dX10_damp_1 rfl (Nat.le_of_ble_eq_true rfl) (Nat.le_of_ble_eq_true rfl) (hQ9 ▸ ⟨rfl, rfl, rfl⟩)
set_option maxHeartbeats 4000000 in
set_option maxRecDepth 100000 in
theorem e_X6_damp {ci a : Nat} {fg : Int32} (hci : ci < 13) (he : f a = ob ci [.int fg]) (h1 : G.2.1 ≤ a) (h2 : a < n)  : Ev G mX6_damp 2 0 0 [.ref a] f n (RD (.int 6) f n) := by
  generalize hQ9 : (RD (.int 6) f n : RQ) = Q9
  refine ev_of (by decide) (Nat.le_of_ble_eq_true rfl) (ls := [some (.ref a)]) rfl (fun hb => ?_)
  refine go_aload_n dX6_damp_0 rfl ?_
  refine go_Pr [] [] dX6_damp_1 pl_X6_7 hci ⟨by decide, by decide⟩ (e_X10_damp hci he h1 h2) he h1 h2 rfl rfl (Nat.le_of_ble_eq_true rfl) (Nat.le_of_ble_eq_true rfl) (Nat.le_of_ble_eq_true rfl) ?_
  refine go_iconst (v := 3) dX6_damp_4 rfl ?_
  refine go_iadd dX6_damp_5 ?_
  refine go_tp (z := 6) (by decide) ?_
  exact go_iret dX6_damp_6 rfl (Nat.le_of_ble_eq_true rfl) (Nat.le_of_ble_eq_true rfl) (hQ9 ▸ ⟨rfl, rfl, rfl⟩)
set_option maxHeartbeats 4000000 in
set_option maxRecDepth 100000 in
theorem e_X3_room {ci a : Nat} {fg : Int32} (hci : ci < 13) (he : f a = ob ci [.int fg]) (h1 : G.2.1 ≤ a) (h2 : a < n)  : Ev G mX3_room 1 0 0 [.ref a] f n (RD (.int 4) f n) := by
  generalize hQ9 : (RD (.int 4) f n : RQ) = Q9
  refine ev_of (by decide) (Nat.le_of_ble_eq_true rfl) (ls := [some (.ref a)]) rfl (fun hb => ?_)
  refine go_iconst (v := 4) dX3_room_0 rfl ?_
  exact go_iret dX3_room_1 rfl (Nat.le_of_ble_eq_true rfl) (Nat.le_of_ble_eq_true rfl) (hQ9 ▸ ⟨rfl, rfl, rfl⟩)
set_option maxHeartbeats 4000000 in
set_option maxRecDepth 100000 in
theorem e_X10_room {ci a : Nat} {fg : Int32} (hci : ci < 13) (he : f a = ob ci [.int fg]) (h1 : G.2.1 ≤ a) (h2 : a < n)  : Ev G mX10_room 2 0 0 [.ref a] f n (RD (.int 6) f n) := by
  generalize hQ9 : (RD (.int 6) f n : RQ) = Q9
  refine ev_of (by decide) (Nat.le_of_ble_eq_true rfl) (ls := [some (.ref a)]) rfl (fun hb => ?_)
  refine go_aload_n dX10_room_0 rfl ?_
  refine go_Pr [] [] dX10_room_1 pl_X10_7 hci ⟨by decide, by decide⟩ (e_X3_room hci he h1 h2) he h1 h2 rfl rfl (Nat.le_of_ble_eq_true rfl) (Nat.le_of_ble_eq_true rfl) (Nat.le_of_ble_eq_true rfl) ?_
  refine go_iconst (v := 2) dX10_room_4 rfl ?_
  refine go_iadd dX10_room_5 ?_
  refine go_tp (z := 6) (by decide) ?_
  exact go_iret dX10_room_6 rfl (Nat.le_of_ble_eq_true rfl) (Nat.le_of_ble_eq_true rfl) (hQ9 ▸ ⟨rfl, rfl, rfl⟩)
set_option maxHeartbeats 4000000 in
set_option maxRecDepth 100000 in
theorem e_X8_room {ci a : Nat} {fg : Int32} (hci : ci < 13) (he : f a = ob ci [.int fg]) (h1 : G.2.1 ≤ a) (h2 : a < n)  : Ev G mX8_room 2 0 0 [.ref a] f n (RD (.int 3) f n) := by
  generalize hQ9 : (RD (.int 3) f n : RQ) = Q9
  refine ev_of (by decide) (Nat.le_of_ble_eq_true rfl) (ls := [some (.ref a)]) rfl (fun hb => ?_)
  refine go_aload_n dX8_room_0 rfl ?_
  refine go_Pr [] [] dX8_room_1 pl_X8_7 hci ⟨by decide, by decide⟩ (e_X3_room hci he h1 h2) he h1 h2 rfl rfl (Nat.le_of_ble_eq_true rfl) (Nat.le_of_ble_eq_true rfl) (Nat.le_of_ble_eq_true rfl) ?_
  refine go_iconst (v := 1) dX8_room_4 rfl ?_
  refine go_isub dX8_room_5 ?_
  refine go_tp (z := 3) (by decide) ?_
  exact go_iret dX8_room_6 rfl (Nat.le_of_ble_eq_true rfl) (Nat.le_of_ble_eq_true rfl) (hQ9 ▸ ⟨rfl, rfl, rfl⟩)
set_option maxHeartbeats 4000000 in
set_option maxRecDepth 100000 in
theorem e_X7_room {ci a : Nat} {fg : Int32} (hci : ci < 13) (he : f a = ob ci [.int fg]) (h1 : G.2.1 ≤ a) (h2 : a < n)  : Ev G mX7_room 2 0 0 [.ref a] f n (RD (.int 5) f n) := by
  generalize hQ9 : (RD (.int 5) f n : RQ) = Q9
  refine ev_of (by decide) (Nat.le_of_ble_eq_true rfl) (ls := [some (.ref a)]) rfl (fun hb => ?_)
  refine go_aload_n dX7_room_0 rfl ?_
  refine go_Pr [] [] dX7_room_1 pl_X7_7 hci ⟨by decide, by decide⟩ (e_X3_room hci he h1 h2) he h1 h2 rfl rfl (Nat.le_of_ble_eq_true rfl) (Nat.le_of_ble_eq_true rfl) (Nat.le_of_ble_eq_true rfl) ?_
  refine go_iconst (v := 1) dX7_room_4 rfl ?_
  refine go_iadd dX7_room_5 ?_
  refine go_tp (z := 5) (by decide) ?_
  exact go_iret dX7_room_6 rfl (Nat.le_of_ble_eq_true rfl) (Nat.le_of_ble_eq_true rfl) (hQ9 ▸ ⟨rfl, rfl, rfl⟩)
set_option maxHeartbeats 4000000 in
set_option maxRecDepth 100000 in
theorem e_X1_room {ci a : Nat} {fg : Int32} (hci : ci < 13) (he : f a = ob ci [.int fg]) (h1 : G.2.1 ≤ a) (h2 : a < n)  : Ev G mX1_room 3 0 0 [.ref a] f n (RD (.int 10) f n) := by
  generalize hQ9 : (RD (.int 10) f n : RQ) = Q9
  refine ev_of (by decide) (Nat.le_of_ble_eq_true rfl) (ls := [some (.ref a)]) rfl (fun hb => ?_)
  refine go_aload_n dX1_room_0 rfl ?_
  refine go_Pr [] [] dX1_room_1 pl_X1_7 hci ⟨by decide, by decide⟩ (e_X7_room hci he h1 h2) he h1 h2 rfl rfl (Nat.le_of_ble_eq_true rfl) (Nat.le_of_ble_eq_true rfl) (Nat.le_of_ble_eq_true rfl) ?_
  refine go_iconst (v := 2) dX1_room_4 rfl ?_
  refine go_imul dX1_room_5 ?_
  refine go_tp (z := 10) (by decide) ?_
  exact go_iret dX1_room_6 rfl (Nat.le_of_ble_eq_true rfl) (Nat.le_of_ble_eq_true rfl) (hQ9 ▸ ⟨rfl, rfl, rfl⟩)
set_option maxHeartbeats 4000000 in
set_option maxRecDepth 100000 in
theorem e_X3_costs {ci a : Nat} {fg : Int32} (hci : ci < 13) (he : f a = ob ci [.int fg]) (h1 : G.2.1 ≤ a) (h2 : a < n)  : Ev G mX3_costs 1 0 0 [.ref a] f n (RD (.int 3) f n) := by
  generalize hQ9 : (RD (.int 3) f n : RQ) = Q9
  refine ev_of (by decide) (Nat.le_of_ble_eq_true rfl) (ls := [some (.ref a)]) rfl (fun hb => ?_)
  refine go_iconst (v := 3) dX3_costs_0 rfl ?_
  exact go_iret dX3_costs_1 rfl (Nat.le_of_ble_eq_true rfl) (Nat.le_of_ble_eq_true rfl) (hQ9 ▸ ⟨rfl, rfl, rfl⟩)
set_option maxHeartbeats 4000000 in
set_option maxRecDepth 100000 in
theorem e_X10_costs {ci a : Nat} {fg : Int32} (hci : ci < 13) (he : f a = ob ci [.int fg]) (h1 : G.2.1 ≤ a) (h2 : a < n)  : Ev G mX10_costs 2 0 0 [.ref a] f n (RD (.int 5) f n) := by
  generalize hQ9 : (RD (.int 5) f n : RQ) = Q9
  refine ev_of (by decide) (Nat.le_of_ble_eq_true rfl) (ls := [some (.ref a)]) rfl (fun hb => ?_)
  refine go_aload_n dX10_costs_0 rfl ?_
  refine go_Pr [] [] dX10_costs_1 pl_X10_15 hci ⟨by decide, by decide⟩ (e_X3_costs hci he h1 h2) he h1 h2 rfl rfl (Nat.le_of_ble_eq_true rfl) (Nat.le_of_ble_eq_true rfl) (Nat.le_of_ble_eq_true rfl) ?_
  refine go_iconst (v := 2) dX10_costs_4 rfl ?_
  refine go_iadd dX10_costs_5 ?_
  refine go_tp (z := 5) (by decide) ?_
  exact go_iret dX10_costs_6 rfl (Nat.le_of_ble_eq_true rfl) (Nat.le_of_ble_eq_true rfl) (hQ9 ▸ ⟨rfl, rfl, rfl⟩)
set_option maxHeartbeats 4000000 in
set_option maxRecDepth 100000 in
theorem e_X6_costs {ci a : Nat} {fg : Int32} (hci : ci < 13) (he : f a = ob ci [.int fg]) (h1 : G.2.1 ≤ a) (h2 : a < n)  : Ev G mX6_costs 3 0 0 [.ref a] f n (RD (.int 2) f n) := by
  generalize hQ9 : (RD (.int 2) f n : RQ) = Q9
  refine ev_of (by decide) (Nat.le_of_ble_eq_true rfl) (ls := [some (.ref a)]) rfl (fun hb => ?_)
  refine go_aload_n dX6_costs_0 rfl ?_
  refine go_Pr [] [] dX6_costs_1 pl_X6_11 hci ⟨by decide, by decide⟩ (e_X10_costs hci he h1 h2) he h1 h2 rfl rfl (Nat.le_of_ble_eq_true rfl) (Nat.le_of_ble_eq_true rfl) (Nat.le_of_ble_eq_true rfl) ?_
  refine go_iconst (v := 2) dX6_costs_4 rfl ?_
  refine go_idiv dX6_costs_5 (by decide) ?_
  refine go_tp (z := 2) (by decide) ?_
  exact go_iret dX6_costs_6 rfl (Nat.le_of_ble_eq_true rfl) (Nat.le_of_ble_eq_true rfl) (hQ9 ▸ ⟨rfl, rfl, rfl⟩)
set_option maxHeartbeats 4000000 in
set_option maxRecDepth 100000 in
theorem e_X7_costs {ci a : Nat} {fg : Int32} (hci : ci < 13) (he : f a = ob ci [.int fg]) (h1 : G.2.1 ≤ a) (h2 : a < n)  : Ev G mX7_costs 2 0 0 [.ref a] f n (RD (.int 4) f n) := by
  generalize hQ9 : (RD (.int 4) f n : RQ) = Q9
  refine ev_of (by decide) (Nat.le_of_ble_eq_true rfl) (ls := [some (.ref a)]) rfl (fun hb => ?_)
  refine go_aload_n dX7_costs_0 rfl ?_
  refine go_Pr [] [] dX7_costs_1 pl_X7_15 hci ⟨by decide, by decide⟩ (e_X3_costs hci he h1 h2) he h1 h2 rfl rfl (Nat.le_of_ble_eq_true rfl) (Nat.le_of_ble_eq_true rfl) (Nat.le_of_ble_eq_true rfl) ?_
  refine go_iconst (v := 1) dX7_costs_4 rfl ?_
  refine go_iadd dX7_costs_5 ?_
  refine go_tp (z := 4) (by decide) ?_
  exact go_iret dX7_costs_6 rfl (Nat.le_of_ble_eq_true rfl) (Nat.le_of_ble_eq_true rfl) (hQ9 ▸ ⟨rfl, rfl, rfl⟩)
set_option maxHeartbeats 4000000 in
set_option maxRecDepth 100000 in
theorem e_X8_costs {ci a : Nat} {fg : Int32} (hci : ci < 13) (he : f a = ob ci [.int fg]) (h1 : G.2.1 ≤ a) (h2 : a < n) (hfl : FL "TwoToALocker$Tidy" 23 ci 0)  : Ev G mX8_costs 2 0 0 [.ref a] f n (RD (.int (3 + fg)) f n) := by
  generalize hQ9 : (RD (.int (3 + fg)) f n : RQ) = Q9
  refine ev_of (by decide) (Nat.le_of_ble_eq_true rfl) (ls := [some (.ref a)]) rfl (fun hb => ?_)
  refine go_aload_n dX8_costs_0 rfl ?_
  refine go_Pr [] [] dX8_costs_1 pl_X8_20 hci ⟨by decide, by decide⟩ (e_X3_costs hci he h1 h2) he h1 h2 rfl rfl (Nat.le_of_ble_eq_true rfl) (Nat.le_of_ble_eq_true rfl) (Nat.le_of_ble_eq_true rfl) ?_
  refine go_aload_n dX8_costs_4 rfl ?_
  refine go_get dX8_costs_5 hfl he h1 h2 rfl ?_
  refine go_iadd dX8_costs_8 ?_
  exact go_iret dX8_costs_9 rfl (Nat.le_of_ble_eq_true rfl) (Nat.le_of_ble_eq_true rfl) (hQ9 ▸ ⟨rfl, rfl, rfl⟩)
set_option maxHeartbeats 4000000 in
set_option maxRecDepth 100000 in
theorem e_X0_costs {ci a : Nat} {fg : Int32} (hci : ci < 13) (he : f a = ob ci [.int fg]) (h1 : G.2.1 ≤ a) (h2 : a < n) (hfl : FL "TwoToALocker$Tidy" 23 ci 0)  : Ev G mX0_costs 3 0 0 [.ref a] f n (RD (.int ((3 + fg) * 2)) f n) := by
  generalize hQ9 : (RD (.int ((3 + fg) * 2)) f n : RQ) = Q9
  refine ev_of (by decide) (Nat.le_of_ble_eq_true rfl) (ls := [some (.ref a)]) rfl (fun hb => ?_)
  refine go_aload_n dX0_costs_0 rfl ?_
  refine go_Pr [] [] dX0_costs_1 pl_X0_11 hci ⟨by decide, by decide⟩ (e_X8_costs hci he h1 h2 hfl) he h1 h2 rfl rfl (Nat.le_of_ble_eq_true rfl) (Nat.le_of_ble_eq_true rfl) (Nat.le_of_ble_eq_true rfl) ?_
  refine go_iconst (v := 2) dX0_costs_4 rfl ?_
  refine go_imul dX0_costs_5 ?_
  exact go_iret dX0_costs_6 rfl (Nat.le_of_ble_eq_true rfl) (Nat.le_of_ble_eq_true rfl) (hQ9 ▸ ⟨rfl, rfl, rfl⟩)
set_option maxHeartbeats 4000000 in
set_option maxRecDepth 100000 in
theorem e_X2_costs {ci a : Nat} {fg : Int32} (hci : ci < 13) (he : f a = ob ci [.int fg]) (h1 : G.2.1 ≤ a) (h2 : a < n) (hfl : FL "TwoToALocker$Tidy" 23 ci 0)  : Ev G mX2_costs 3 0 0 [.ref a] f n (RD (.int (3 + fg + 2)) f n) := by
  generalize hQ9 : (RD (.int (3 + fg + 2)) f n : RQ) = Q9
  refine ev_of (by decide) (Nat.le_of_ble_eq_true rfl) (ls := [some (.ref a)]) rfl (fun hb => ?_)
  refine go_aload_n dX2_costs_0 rfl ?_
  refine go_Pr [] [] dX2_costs_1 pl_X2_16 hci ⟨by decide, by decide⟩ (e_X8_costs hci he h1 h2 hfl) he h1 h2 rfl rfl (Nat.le_of_ble_eq_true rfl) (Nat.le_of_ble_eq_true rfl) (Nat.le_of_ble_eq_true rfl) ?_
  refine go_iconst (v := 2) dX2_costs_4 rfl ?_
  refine go_iadd dX2_costs_5 ?_
  exact go_iret dX2_costs_6 rfl (Nat.le_of_ble_eq_true rfl) (Nat.le_of_ble_eq_true rfl) (hQ9 ▸ ⟨rfl, rfl, rfl⟩)
set_option maxHeartbeats 4000000 in
set_option maxRecDepth 100000 in
theorem e_X1_costs {ci a : Nat} {fg : Int32} (hci : ci < 13) (he : f a = ob ci [.int fg]) (h1 : G.2.1 ≤ a) (h2 : a < n) (hfl : FL "TwoToALocker$Giant" 18 ci 0)  : Ev G mX1_costs 3 0 0 [.ref a] f n (RD (.int (4 + fg)) f n) := by
  generalize hQ9 : (RD (.int (4 + fg)) f n : RQ) = Q9
  refine ev_of (by decide) (Nat.le_of_ble_eq_true rfl) (ls := [some (.ref a)]) rfl (fun hb => ?_)
  refine go_aload_n dX1_costs_0 rfl ?_
  refine go_Pr [] [] dX1_costs_1 pl_X1_15 hci ⟨by decide, by decide⟩ (e_X7_costs hci he h1 h2) he h1 h2 rfl rfl (Nat.le_of_ble_eq_true rfl) (Nat.le_of_ble_eq_true rfl) (Nat.le_of_ble_eq_true rfl) ?_
  refine go_aload_n dX1_costs_4 rfl ?_
  refine go_get dX1_costs_5 hfl he h1 h2 rfl ?_
  refine go_iadd dX1_costs_8 ?_
  exact go_iret dX1_costs_9 rfl (Nat.le_of_ble_eq_true rfl) (Nat.le_of_ble_eq_true rfl) (hQ9 ▸ ⟨rfl, rfl, rfl⟩)
set_option maxHeartbeats 4000000 in
set_option maxRecDepth 100000 in
theorem e_X3_bearing {ci a : Nat} {fg : Int32} (hci : ci < 13) (he : f a = ob ci [.int fg]) (h1 : G.2.1 ≤ a) (h2 : a < n) (hfl : FL "TwoToALocker$One" 7 ci 0) {x y : Int32} : Ev G mX3_bearing 2 0 0 [.ref a, .int x, .int y] f n (RD (.int (plC fg (x) (y))) f n) := by
  generalize hQ9 : (RD (.int (plC fg (x) (y))) f n : RQ) = Q9
  refine ev_of (by decide) (Nat.le_of_ble_eq_true rfl) (ls := [some (.ref a), some (.int x), some (.int y)]) rfl (fun hb => ?_)
  refine go_iconst (v := 0) dX3_bearing_0 rfl ?_
  refine go_bipush (v := 12) dX3_bearing_1 rfl ?_
  refine go_iload_n dX3_bearing_3 rfl ?_
  refine go_aload_n dX3_bearing_4 rfl ?_
  refine go_get dX3_bearing_5 hfl he h1 h2 rfl ?_
  refine go_isub dX3_bearing_8 ?_
  refine go_Sr [.int (x - fg)] [.int 12, .int 0] dX3_bearing_9 sl_X3_13 ⟨by decide, by decide⟩ (e_J9_abs) rfl rfl (Nat.le_of_ble_eq_true rfl) (Nat.le_of_ble_eq_true rfl) (Nat.le_of_ble_eq_true rfl) ?_
  refine go_isub dX3_bearing_12 ?_
  refine go_iload_n dX3_bearing_13 rfl ?_
  refine go_isub dX3_bearing_14 ?_
  refine go_Sr [.int 0, .int ((12 - (abS (x - fg))) - y)] [] dX3_bearing_15 sl_X3_19 ⟨by decide, by decide⟩ (e_J9_max) rfl rfl (Nat.le_of_ble_eq_true rfl) (Nat.le_of_ble_eq_true rfl) (Nat.le_of_ble_eq_true rfl) ?_
  exact go_iret dX3_bearing_18 rfl (Nat.le_of_ble_eq_true rfl) (Nat.le_of_ble_eq_true rfl) (hQ9 ▸ ⟨rfl, rfl, rfl⟩)
set_option maxHeartbeats 4000000 in
set_option maxRecDepth 100000 in
theorem e_X10_bearing {ci a : Nat} {fg : Int32} (hci : ci < 13) (he : f a = ob ci [.int fg]) (h1 : G.2.1 ≤ a) (h2 : a < n) (hfl : FL "TwoToALocker$One" 7 ci 0) {x y : Int32} : Ev G mX10_bearing 3 0 0 [.ref a, .int x, .int y] f n (RD (.int (plC fg (x) (y) + (y))) f n) := by
  generalize hQ9 : (RD (.int (plC fg (x) (y) + (y))) f n : RQ) = Q9
  refine ev_of (by decide) (Nat.le_of_ble_eq_true rfl) (ls := [some (.ref a), some (.int x), some (.int y)]) rfl (fun hb => ?_)
  refine go_aload_n dX10_bearing_0 rfl ?_
  refine go_iload_n dX10_bearing_1 rfl ?_
  refine go_iload_n dX10_bearing_2 rfl ?_
  refine go_Pr [.int x, .int y] [] dX10_bearing_3 pl_X10_11 hci ⟨by decide, by decide⟩ (e_X3_bearing hci he h1 h2 hfl) he h1 h2 rfl rfl (Nat.le_of_ble_eq_true rfl) (Nat.le_of_ble_eq_true rfl) (Nat.le_of_ble_eq_true rfl) ?_
  refine go_iload_n dX10_bearing_6 rfl ?_
  refine go_iadd dX10_bearing_7 ?_
  exact go_iret dX10_bearing_8 rfl (Nat.le_of_ble_eq_true rfl) (Nat.le_of_ble_eq_true rfl) (hQ9 ▸ ⟨rfl, rfl, rfl⟩)
set_option maxHeartbeats 4000000 in
set_option maxRecDepth 100000 in
theorem e_X8_bearing {ci a : Nat} {fg : Int32} (hci : ci < 13) (he : f a = ob ci [.int fg]) (h1 : G.2.1 ≤ a) (h2 : a < n) (hfl : FL "TwoToALocker$One" 7 ci 0) {x y : Int32} : Ev G mX8_bearing 3 0 0 [.ref a, .int x, .int y] f n (RD (.int (tiC fg (x) (y))) f n) := by
  generalize hQ9 : (RD (.int (tiC fg (x) (y))) f n : RQ) = Q9
  refine ev_of (by decide) (Nat.le_of_ble_eq_true rfl) (ls := [some (.ref a), some (.int x), some (.int y)]) rfl (fun hb => ?_)
  refine go_iconst (v := 0) dX8_bearing_0 rfl ?_
  refine go_aload_n dX8_bearing_1 rfl ?_
  refine go_iload_n dX8_bearing_2 rfl ?_
  refine go_iload_n dX8_bearing_3 rfl ?_
  refine go_Pr [.int x, .int y] [.int 0] dX8_bearing_4 pl_X8_11 hci ⟨by decide, by decide⟩ (e_X3_bearing hci he h1 h2 hfl) he h1 h2 rfl rfl (Nat.le_of_ble_eq_true rfl) (Nat.le_of_ble_eq_true rfl) (Nat.le_of_ble_eq_true rfl) ?_
  refine go_iload_n dX8_bearing_7 rfl ?_
  refine go_isub dX8_bearing_8 ?_
  refine go_Sr [.int 0, .int ((plC fg (x) (y)) - y)] [] dX8_bearing_9 sl_X8_15 ⟨by decide, by decide⟩ (e_J9_max) rfl rfl (Nat.le_of_ble_eq_true rfl) (Nat.le_of_ble_eq_true rfl) (Nat.le_of_ble_eq_true rfl) ?_
  exact go_iret dX8_bearing_12 rfl (Nat.le_of_ble_eq_true rfl) (Nat.le_of_ble_eq_true rfl) (hQ9 ▸ ⟨rfl, rfl, rfl⟩)
set_option maxHeartbeats 4000000 in
set_option maxRecDepth 100000 in
theorem e_X7_bearing {ci a : Nat} {fg : Int32} (hci : ci < 13) (he : f a = ob ci [.int fg]) (h1 : G.2.1 ≤ a) (h2 : a < n) (hfl : FL "TwoToALocker$One" 7 ci 0) {x y : Int32} : Ev G mX7_bearing 3 0 0 [.ref a, .int x, .int y] f n (RD (.int (plC fg (x) (y) + 2)) f n) := by
  generalize hQ9 : (RD (.int (plC fg (x) (y) + 2)) f n : RQ) = Q9
  refine ev_of (by decide) (Nat.le_of_ble_eq_true rfl) (ls := [some (.ref a), some (.int x), some (.int y)]) rfl (fun hb => ?_)
  refine go_aload_n dX7_bearing_0 rfl ?_
  refine go_iload_n dX7_bearing_1 rfl ?_
  refine go_iload_n dX7_bearing_2 rfl ?_
  refine go_Pr [.int x, .int y] [] dX7_bearing_3 pl_X7_11 hci ⟨by decide, by decide⟩ (e_X3_bearing hci he h1 h2 hfl) he h1 h2 rfl rfl (Nat.le_of_ble_eq_true rfl) (Nat.le_of_ble_eq_true rfl) (Nat.le_of_ble_eq_true rfl) ?_
  refine go_iconst (v := 2) dX7_bearing_6 rfl ?_
  refine go_iadd dX7_bearing_7 ?_
  exact go_iret dX7_bearing_8 rfl (Nat.le_of_ble_eq_true rfl) (Nat.le_of_ble_eq_true rfl) (hQ9 ▸ ⟨rfl, rfl, rfl⟩)
set_option maxHeartbeats 4000000 in
set_option maxRecDepth 100000 in
theorem e_X0_bearing {ci a : Nat} {fg : Int32} (hci : ci < 13) (he : f a = ob ci [.int fg]) (h1 : G.2.1 ≤ a) (h2 : a < n) (hfl : FL "TwoToALocker$One" 7 ci 0) {x y : Int32} : Ev G mX0_bearing 4 0 0 [.ref a, .int x, .int y] f n (RD (.int (tiC fg (x) (y) / 2)) f n) := by
  generalize hQ9 : (RD (.int (tiC fg (x) (y) / 2)) f n : RQ) = Q9
  refine ev_of (by decide) (Nat.le_of_ble_eq_true rfl) (ls := [some (.ref a), some (.int x), some (.int y)]) rfl (fun hb => ?_)
  refine go_aload_n dX0_bearing_0 rfl ?_
  refine go_iload_n dX0_bearing_1 rfl ?_
  refine go_iload_n dX0_bearing_2 rfl ?_
  refine go_Pr [.int x, .int y] [] dX0_bearing_3 pl_X0_7 hci ⟨by decide, by decide⟩ (e_X8_bearing hci he h1 h2 hfl) he h1 h2 rfl rfl (Nat.le_of_ble_eq_true rfl) (Nat.le_of_ble_eq_true rfl) (Nat.le_of_ble_eq_true rfl) ?_
  refine go_iconst (v := 2) dX0_bearing_6 rfl ?_
  refine go_idiv dX0_bearing_7 (by decide) ?_
  exact go_iret dX0_bearing_8 rfl (Nat.le_of_ble_eq_true rfl) (Nat.le_of_ble_eq_true rfl) (hQ9 ▸ ⟨rfl, rfl, rfl⟩)
set_option maxHeartbeats 4000000 in
set_option maxRecDepth 100000 in
theorem e_X2_bearing {ci a : Nat} {fg : Int32} (hci : ci < 13) (he : f a = ob ci [.int fg]) (h1 : G.2.1 ≤ a) (h2 : a < n) (hfl : FL "TwoToALocker$One" 7 ci 0) {x y : Int32} : Ev G mX2_bearing 4 0 0 [.ref a, .int x, .int y] f n (RD (.int (mxS 0 (tiC fg (x) (y) - 3))) f n) := by
  generalize hQ9 : (RD (.int (mxS 0 (tiC fg (x) (y) - 3))) f n : RQ) = Q9
  refine ev_of (by decide) (Nat.le_of_ble_eq_true rfl) (ls := [some (.ref a), some (.int x), some (.int y)]) rfl (fun hb => ?_)
  refine go_iconst (v := 0) dX2_bearing_0 rfl ?_
  refine go_aload_n dX2_bearing_1 rfl ?_
  refine go_iload_n dX2_bearing_2 rfl ?_
  refine go_iload_n dX2_bearing_3 rfl ?_
  refine go_Pr [.int x, .int y] [.int 0] dX2_bearing_4 pl_X2_7 hci ⟨by decide, by decide⟩ (e_X8_bearing hci he h1 h2 hfl) he h1 h2 rfl rfl (Nat.le_of_ble_eq_true rfl) (Nat.le_of_ble_eq_true rfl) (Nat.le_of_ble_eq_true rfl) ?_
  refine go_iconst (v := 3) dX2_bearing_7 rfl ?_
  refine go_isub dX2_bearing_8 ?_
  refine go_Sr [.int 0, .int ((tiC fg (x) (y)) - 3)] [] dX2_bearing_9 sl_X2_11 ⟨by decide, by decide⟩ (e_J9_max) rfl rfl (Nat.le_of_ble_eq_true rfl) (Nat.le_of_ble_eq_true rfl) (Nat.le_of_ble_eq_true rfl) ?_
  exact go_iret dX2_bearing_12 rfl (Nat.le_of_ble_eq_true rfl) (Nat.le_of_ble_eq_true rfl) (hQ9 ▸ ⟨rfl, rfl, rfl⟩)
set_option maxHeartbeats 4000000 in
set_option maxRecDepth 100000 in
theorem e_X1_bearing {ci a : Nat} {fg : Int32} (hci : ci < 13) (he : f a = ob ci [.int fg]) (h1 : G.2.1 ≤ a) (h2 : a < n) (hfl : FL "TwoToALocker$One" 7 ci 0) {x y : Int32} : Ev G mX1_bearing 4 0 0 [.ref a, .int x, .int y] f n (RD (.int (plC fg (x) (y) + 2 + 1)) f n) := by
  generalize hQ9 : (RD (.int (plC fg (x) (y) + 2 + 1)) f n : RQ) = Q9
  refine ev_of (by decide) (Nat.le_of_ble_eq_true rfl) (ls := [some (.ref a), some (.int x), some (.int y)]) rfl (fun hb => ?_)
  refine go_aload_n dX1_bearing_0 rfl ?_
  refine go_iload_n dX1_bearing_1 rfl ?_
  refine go_iload_n dX1_bearing_2 rfl ?_
  refine go_Pr [.int x, .int y] [] dX1_bearing_3 pl_X1_11 hci ⟨by decide, by decide⟩ (e_X7_bearing hci he h1 h2 hfl) he h1 h2 rfl rfl (Nat.le_of_ble_eq_true rfl) (Nat.le_of_ble_eq_true rfl) (Nat.le_of_ble_eq_true rfl) ?_
  refine go_iconst (v := 1) dX1_bearing_6 rfl ?_
  refine go_iadd dX1_bearing_7 ?_
  exact go_iret dX1_bearing_8 rfl (Nat.le_of_ble_eq_true rfl) (Nat.le_of_ble_eq_true rfl) (hQ9 ▸ ⟨rfl, rfl, rfl⟩)
set_option maxHeartbeats 4000000 in
set_option maxRecDepth 100000 in
theorem e_X3_troubleWith {ci a : Nat} {fg : Int32} (hci : ci < 13) (he : f a = ob ci [.int fg]) (h1 : G.2.1 ≤ a) (h2 : a < n) {x y : Int32} : Ev G mX3_troubleWith 1 0 0 [.ref a, .int x, .int y] f n (RD (.int (if (y) = 1 then (x) + 2 else (x))) f n) := by
  generalize hQ9 : (RD (.int (if (y) = 1 then (x) + 2 else (x))) f n : RQ) = Q9
  refine ev_of (by decide) (Nat.le_of_ble_eq_true rfl) (ls := [some (.ref a), some (.int x), some (.int y)]) rfl (fun hb => ?_)
  refine go_iload_n dX3_troubleWith_0 rfl ?_
  refine go_iconst (v := 1) dX3_troubleWith_1 rfl ?_
  refine go_icmp_ne dX3_troubleWith_2 (fun c2 => ?_) (fun c2 => ?_)
  · refine go_iload_n dX3_troubleWith_11 rfl ?_
    exact go_iret dX3_troubleWith_12 rfl (Nat.le_of_ble_eq_true rfl) (Nat.le_of_ble_eq_true rfl) (hQ9 ▸ ⟨rd_i (by simp [c2]), rfl, rfl⟩)
  · subst c2
    refine go_iload_n dX3_troubleWith_5 rfl ?_
    refine go_iconst (v := 2) dX3_troubleWith_6 rfl ?_
    refine go_iadd dX3_troubleWith_7 ?_
    refine go_goto dX3_troubleWith_8 ?_
    exact go_iret dX3_troubleWith_12 rfl (Nat.le_of_ble_eq_true rfl) (Nat.le_of_ble_eq_true rfl) (hQ9 ▸ ⟨rd_i (by simp []), rfl, rfl⟩)
set_option maxHeartbeats 4000000 in
set_option maxRecDepth 100000 in
theorem e_X7_troubleWith {ci a : Nat} {fg : Int32} (hci : ci < 13) (he : f a = ob ci [.int fg]) (h1 : G.2.1 ≤ a) (h2 : a < n) {x y : Int32} : Ev G mX7_troubleWith 1 0 0 [.ref a, .int x, .int y] f n (RD (.int (if (y) = 1 then (x) else (x) + 3)) f n) := by
  generalize hQ9 : (RD (.int (if (y) = 1 then (x) else (x) + 3)) f n : RQ) = Q9
  refine ev_of (by decide) (Nat.le_of_ble_eq_true rfl) (ls := [some (.ref a), some (.int x), some (.int y)]) rfl (fun hb => ?_)
  refine go_iload_n dX7_troubleWith_0 rfl ?_
  refine go_iconst (v := 1) dX7_troubleWith_1 rfl ?_
  refine go_icmp_ne dX7_troubleWith_2 (fun c2 => ?_) (fun c2 => ?_)
  · refine go_iload_n dX7_troubleWith_9 rfl ?_
    refine go_iconst (v := 3) dX7_troubleWith_10 rfl ?_
    refine go_iadd dX7_troubleWith_11 ?_
    exact go_iret dX7_troubleWith_12 rfl (Nat.le_of_ble_eq_true rfl) (Nat.le_of_ble_eq_true rfl) (hQ9 ▸ ⟨rd_i (by simp [c2]), rfl, rfl⟩)
  · subst c2
    refine go_iload_n dX7_troubleWith_5 rfl ?_
    refine go_goto dX7_troubleWith_6 ?_
    exact go_iret dX7_troubleWith_12 rfl (Nat.le_of_ble_eq_true rfl) (Nat.le_of_ble_eq_true rfl) (hQ9 ▸ ⟨rd_i (by simp []), rfl, rfl⟩)
end C1
theorem nt_k {k : Nat} (h : k < 8) : k = 0 ∨ k = 1 ∨ k = 2 ∨ k = 3 ∨ k = 4 ∨ k = 5 ∨ k = 6 ∨ k = 7 := by omega
set_option maxHeartbeats 1000000 in
theorem go1_X11_room {G : GX} {y : MD} {d mc ms : Nat} {Q : RQ} {kc ks pc pc2 : Nat} {ls : List (Option Value)} {f : Mem} {n : Nat} {a : Nat} {k g : Int32} {rest : List Value} (ho : oneM G f n a k g) (hd : gd y pc (.invokevirtual 102) 3 pc2) (hy : y.1.cls = "TwoToALocker") (hdd : 4 ≤ d) (hW : (rest.map fun v => v.category).sum ≤ 6) (hk1 : kc ≤ mc) (hk2 : ks ≤ ms) (kk : Go G y d mc ms Q kc ks pc2 ls (.int (roomS k) :: rest) f n) : Go G y d mc ms Q kc ks pc ls (.ref a :: rest) f n := by
  obtain ⟨kk2, gg, hkk, hgg, rfl, rfl, he, h1, h2⟩ := ho
  rcases nt_k hkk with rfl | rfl | rfl | rfl | rfl | rfl | rfl | rfl
  · refine go_O [] rest hd (hy ▸ ol_X11_102_3) (d2 := 1) ⟨by omega, by decide⟩ (e_X3_room (ci := 3) (by decide) he h1 h2) he h1 h2 rfl rfl (Nat.le_trans hW (by decide)) hk1 hk2 (fun r f1 n1 h => ?_)
    obtain ⟨rfl, rfl, rfl⟩ := h
    exact go_tp (show (4 : Int32) = roomS (nI 0) from by decide) kk
  · refine go_O [] rest hd (hy ▸ ol_X11_102_10) (d2 := 2) ⟨by omega, by decide⟩ (e_X10_room (ci := 10) (by decide) he h1 h2) he h1 h2 rfl rfl (Nat.le_trans hW (by decide)) hk1 hk2 (fun r f1 n1 h => ?_)
    obtain ⟨rfl, rfl, rfl⟩ := h
    exact go_tp (show (6 : Int32) = roomS (nI 1) from by decide) kk
  · refine go_O [] rest hd (hy ▸ ol_X11_102_8) (d2 := 2) ⟨by omega, by decide⟩ (e_X8_room (ci := 8) (by decide) he h1 h2) he h1 h2 rfl rfl (Nat.le_trans hW (by decide)) hk1 hk2 (fun r f1 n1 h => ?_)
    obtain ⟨rfl, rfl, rfl⟩ := h
    exact go_tp (show (3 : Int32) = roomS (nI 2) from by decide) kk
  · refine go_O [] rest hd (hy ▸ ol_X11_102_7) (d2 := 2) ⟨by omega, by decide⟩ (e_X7_room (ci := 7) (by decide) he h1 h2) he h1 h2 rfl rfl (Nat.le_trans hW (by decide)) hk1 hk2 (fun r f1 n1 h => ?_)
    obtain ⟨rfl, rfl, rfl⟩ := h
    exact go_tp (show (5 : Int32) = roomS (nI 3) from by decide) kk
  · refine go_O [] rest hd (hy ▸ ol_X11_102_0) (d2 := 2) ⟨by omega, by decide⟩ (e_X8_room (ci := 0) (by decide) he h1 h2) he h1 h2 rfl rfl (Nat.le_trans hW (by decide)) hk1 hk2 (fun r f1 n1 h => ?_)
    obtain ⟨rfl, rfl, rfl⟩ := h
    exact go_tp (show (3 : Int32) = roomS (nI 4) from by decide) kk
  · refine go_O [] rest hd (hy ▸ ol_X11_102_6) (d2 := 2) ⟨by omega, by decide⟩ (e_X10_room (ci := 6) (by decide) he h1 h2) he h1 h2 rfl rfl (Nat.le_trans hW (by decide)) hk1 hk2 (fun r f1 n1 h => ?_)
    obtain ⟨rfl, rfl, rfl⟩ := h
    exact go_tp (show (6 : Int32) = roomS (nI 5) from by decide) kk
  · refine go_O [] rest hd (hy ▸ ol_X11_102_2) (d2 := 2) ⟨by omega, by decide⟩ (e_X8_room (ci := 2) (by decide) he h1 h2) he h1 h2 rfl rfl (Nat.le_trans hW (by decide)) hk1 hk2 (fun r f1 n1 h => ?_)
    obtain ⟨rfl, rfl, rfl⟩ := h
    exact go_tp (show (3 : Int32) = roomS (nI 6) from by decide) kk
  · refine go_O [] rest hd (hy ▸ ol_X11_102_1) (d2 := 3) ⟨by omega, by decide⟩ (e_X1_room (ci := 1) (by decide) he h1 h2) he h1 h2 rfl rfl (Nat.le_trans hW (by decide)) hk1 hk2 (fun r f1 n1 h => ?_)
    obtain ⟨rfl, rfl, rfl⟩ := h
    exact go_tp (show (10 : Int32) = roomS (nI 7) from by decide) kk
set_option maxHeartbeats 1000000 in
theorem go1_X11_costs {G : GX} {y : MD} {d mc ms : Nat} {Q : RQ} {kc ks pc pc2 : Nat} {ls : List (Option Value)} {f : Mem} {n : Nat} {a : Nat} {k g : Int32} {rest : List Value} (ho : oneM G f n a k g) (hd : gd y pc (.invokevirtual 341) 3 pc2) (hy : y.1.cls = "TwoToALocker") (hdd : 4 ≤ d) (hW : (rest.map fun v => v.category).sum ≤ 6) (hk1 : kc ≤ mc) (hk2 : ks ≤ ms) (kk : Go G y d mc ms Q kc ks pc2 ls (.int (costS k g) :: rest) f n) : Go G y d mc ms Q kc ks pc ls (.ref a :: rest) f n := by
  obtain ⟨kk2, gg, hkk, hgg, rfl, rfl, he, h1, h2⟩ := ho
  rcases nt_k hkk with rfl | rfl | rfl | rfl | rfl | rfl | rfl | rfl
  · refine go_O [] rest hd (hy ▸ ol_X11_341_3) (d2 := 1) ⟨by omega, by decide⟩ (e_X3_costs (ci := 3) (by decide) he h1 h2) he h1 h2 rfl rfl (Nat.le_trans hW (by decide)) hk1 hk2 (fun r f1 n1 h => ?_)
    obtain ⟨rfl, rfl, rfl⟩ := h
    exact go_tp (show (3 : Int32) = costS (nI 0) (nI gg) from by rfl) kk
  · refine go_O [] rest hd (hy ▸ ol_X11_341_10) (d2 := 2) ⟨by omega, by decide⟩ (e_X10_costs (ci := 10) (by decide) he h1 h2) he h1 h2 rfl rfl (Nat.le_trans hW (by decide)) hk1 hk2 (fun r f1 n1 h => ?_)
    obtain ⟨rfl, rfl, rfl⟩ := h
    exact go_tp (show (5 : Int32) = costS (nI 1) (nI gg) from by rfl) kk
  · refine go_O [] rest hd (hy ▸ ol_X11_341_8) (d2 := 2) ⟨by omega, by decide⟩ (e_X8_costs (ci := 8) (by decide) he h1 h2 fl_X8_23_8) he h1 h2 rfl rfl (Nat.le_trans hW (by decide)) hk1 hk2 (fun r f1 n1 h => ?_)
    obtain ⟨rfl, rfl, rfl⟩ := h
    exact go_tp (show (3 + (nI gg)) = costS (nI 2) (nI gg) from by rfl) kk
  · refine go_O [] rest hd (hy ▸ ol_X11_341_7) (d2 := 2) ⟨by omega, by decide⟩ (e_X7_costs (ci := 7) (by decide) he h1 h2) he h1 h2 rfl rfl (Nat.le_trans hW (by decide)) hk1 hk2 (fun r f1 n1 h => ?_)
    obtain ⟨rfl, rfl, rfl⟩ := h
    exact go_tp (show (4 : Int32) = costS (nI 3) (nI gg) from by rfl) kk
  · refine go_O [] rest hd (hy ▸ ol_X11_341_0) (d2 := 3) ⟨by omega, by decide⟩ (e_X0_costs (ci := 0) (by decide) he h1 h2 fl_X8_23_0) he h1 h2 rfl rfl (Nat.le_trans hW (by decide)) hk1 hk2 (fun r f1 n1 h => ?_)
    obtain ⟨rfl, rfl, rfl⟩ := h
    exact go_tp (show ((3 + (nI gg)) * 2) = costS (nI 4) (nI gg) from by show (3 + nI gg) * 2 = 2 * (3 + nI gg); exact Int32.mul_comm _ _) kk
  · refine go_O [] rest hd (hy ▸ ol_X11_341_6) (d2 := 3) ⟨by omega, by decide⟩ (e_X6_costs (ci := 6) (by decide) he h1 h2) he h1 h2 rfl rfl (Nat.le_trans hW (by decide)) hk1 hk2 (fun r f1 n1 h => ?_)
    obtain ⟨rfl, rfl, rfl⟩ := h
    exact go_tp (show (2 : Int32) = costS (nI 5) (nI gg) from by rfl) kk
  · refine go_O [] rest hd (hy ▸ ol_X11_341_2) (d2 := 3) ⟨by omega, by decide⟩ (e_X2_costs (ci := 2) (by decide) he h1 h2 fl_X8_23_2) he h1 h2 rfl rfl (Nat.le_trans hW (by decide)) hk1 hk2 (fun r f1 n1 h => ?_)
    obtain ⟨rfl, rfl, rfl⟩ := h
    exact go_tp (show (3 + (nI gg) + 2) = costS (nI 6) (nI gg) from by rfl) kk
  · refine go_O [] rest hd (hy ▸ ol_X11_341_1) (d2 := 3) ⟨by omega, by decide⟩ (e_X1_costs (ci := 1) (by decide) he h1 h2 fl_X1_18_1) he h1 h2 rfl rfl (Nat.le_trans hW (by decide)) hk1 hk2 (fun r f1 n1 h => ?_)
    obtain ⟨rfl, rfl, rfl⟩ := h
    exact go_tp (show (4 + (nI gg)) = costS (nI 7) (nI gg) from by rfl) kk
set_option maxHeartbeats 1000000 in
theorem go1_X11_kind {G : GX} {y : MD} {d mc ms : Nat} {Q : RQ} {kc ks pc pc2 : Nat} {ls : List (Option Value)} {f : Mem} {n : Nat} {a : Nat} {k g : Int32} {rest : List Value} (ho : oneM G f n a k g) (hd : gd y pc (.invokevirtual 86) 3 pc2) (hy : y.1.cls = "TwoToALocker") (hdd : 2 ≤ d) (hW : (rest.map fun v => v.category).sum ≤ 6) (hk1 : kc ≤ mc) (hk2 : ks ≤ ms) (kk : Go G y d mc ms Q kc ks pc2 ls (.int (k) :: rest) f n) : Go G y d mc ms Q kc ks pc ls (.ref a :: rest) f n := by
  obtain ⟨kk2, gg, hkk, hgg, rfl, rfl, he, h1, h2⟩ := ho
  rcases nt_k hkk with rfl | rfl | rfl | rfl | rfl | rfl | rfl | rfl
  · refine go_O [] rest hd (hy ▸ ol_X11_86_3) (d2 := 1) ⟨by omega, by decide⟩ (e_X3_kind (ci := 3) (by decide) he h1 h2) he h1 h2 rfl rfl (Nat.le_trans hW (by decide)) hk1 hk2 (fun r f1 n1 h => ?_)
    obtain ⟨rfl, rfl, rfl⟩ := h
    exact go_tp (show (0 : Int32) = nI 0 from rfl) kk
  · refine go_O [] rest hd (hy ▸ ol_X11_86_10) (d2 := 1) ⟨by omega, by decide⟩ (e_X10_kind (ci := 10) (by decide) he h1 h2) he h1 h2 rfl rfl (Nat.le_trans hW (by decide)) hk1 hk2 (fun r f1 n1 h => ?_)
    obtain ⟨rfl, rfl, rfl⟩ := h
    exact go_tp (show (1 : Int32) = nI 1 from rfl) kk
  · refine go_O [] rest hd (hy ▸ ol_X11_86_8) (d2 := 1) ⟨by omega, by decide⟩ (e_X8_kind (ci := 8) (by decide) he h1 h2) he h1 h2 rfl rfl (Nat.le_trans hW (by decide)) hk1 hk2 (fun r f1 n1 h => ?_)
    obtain ⟨rfl, rfl, rfl⟩ := h
    exact go_tp (show (2 : Int32) = nI 2 from rfl) kk
  · refine go_O [] rest hd (hy ▸ ol_X11_86_7) (d2 := 1) ⟨by omega, by decide⟩ (e_X7_kind (ci := 7) (by decide) he h1 h2) he h1 h2 rfl rfl (Nat.le_trans hW (by decide)) hk1 hk2 (fun r f1 n1 h => ?_)
    obtain ⟨rfl, rfl, rfl⟩ := h
    exact go_tp (show (3 : Int32) = nI 3 from rfl) kk
  · refine go_O [] rest hd (hy ▸ ol_X11_86_0) (d2 := 1) ⟨by omega, by decide⟩ (e_X0_kind (ci := 0) (by decide) he h1 h2) he h1 h2 rfl rfl (Nat.le_trans hW (by decide)) hk1 hk2 (fun r f1 n1 h => ?_)
    obtain ⟨rfl, rfl, rfl⟩ := h
    exact go_tp (show (4 : Int32) = nI 4 from rfl) kk
  · refine go_O [] rest hd (hy ▸ ol_X11_86_6) (d2 := 1) ⟨by omega, by decide⟩ (e_X6_kind (ci := 6) (by decide) he h1 h2) he h1 h2 rfl rfl (Nat.le_trans hW (by decide)) hk1 hk2 (fun r f1 n1 h => ?_)
    obtain ⟨rfl, rfl, rfl⟩ := h
    exact go_tp (show (5 : Int32) = nI 5 from rfl) kk
  · refine go_O [] rest hd (hy ▸ ol_X11_86_2) (d2 := 1) ⟨by omega, by decide⟩ (e_X2_kind (ci := 2) (by decide) he h1 h2) he h1 h2 rfl rfl (Nat.le_trans hW (by decide)) hk1 hk2 (fun r f1 n1 h => ?_)
    obtain ⟨rfl, rfl, rfl⟩ := h
    exact go_tp (show (6 : Int32) = nI 6 from rfl) kk
  · refine go_O [] rest hd (hy ▸ ol_X11_86_1) (d2 := 1) ⟨by omega, by decide⟩ (e_X1_kind (ci := 1) (by decide) he h1 h2) he h1 h2 rfl rfl (Nat.le_trans hW (by decide)) hk1 hk2 (fun r f1 n1 h => ?_)
    obtain ⟨rfl, rfl, rfl⟩ := h
    exact go_tp (show (7 : Int32) = nI 7 from rfl) kk
set_option maxHeartbeats 1000000 in
theorem go1_X11_damp {G : GX} {y : MD} {d mc ms : Nat} {Q : RQ} {kc ks pc pc2 : Nat} {ls : List (Option Value)} {f : Mem} {n : Nat} {a : Nat} {k g : Int32} {rest : List Value} (ho : oneM G f n a k g) (hd : gd y pc (.invokevirtual 99) 3 pc2) (hy : y.1.cls = "TwoToALocker") (hdd : 3 ≤ d) (hW : (rest.map fun v => v.category).sum ≤ 6) (hk1 : kc ≤ mc) (hk2 : ks ≤ ms) (kk : Go G y d mc ms Q kc ks pc2 ls (.int (dampS k) :: rest) f n) : Go G y d mc ms Q kc ks pc ls (.ref a :: rest) f n := by
  obtain ⟨kk2, gg, hkk, hgg, rfl, rfl, he, h1, h2⟩ := ho
  rcases nt_k hkk with rfl | rfl | rfl | rfl | rfl | rfl | rfl | rfl
  · refine go_O [] rest hd (hy ▸ ol_X11_99_3) (d2 := 1) ⟨by omega, by decide⟩ (e_X3_damp (ci := 3) (by decide) he h1 h2) he h1 h2 rfl rfl (Nat.le_trans hW (by decide)) hk1 hk2 (fun r f1 n1 h => ?_)
    obtain ⟨rfl, rfl, rfl⟩ := h
    exact go_tp (show (0 : Int32) = dampS (nI 0) from by decide) kk
  · refine go_O [] rest hd (hy ▸ ol_X11_99_10) (d2 := 1) ⟨by omega, by decide⟩ (e_X10_damp (ci := 10) (by decide) he h1 h2) he h1 h2 rfl rfl (Nat.le_trans hW (by decide)) hk1 hk2 (fun r f1 n1 h => ?_)
    obtain ⟨rfl, rfl, rfl⟩ := h
    exact go_tp (show (3 : Int32) = dampS (nI 1) from by decide) kk
  · refine go_O [] rest hd (hy ▸ ol_X11_99_8) (d2 := 1) ⟨by omega, by decide⟩ (e_X3_damp (ci := 8) (by decide) he h1 h2) he h1 h2 rfl rfl (Nat.le_trans hW (by decide)) hk1 hk2 (fun r f1 n1 h => ?_)
    obtain ⟨rfl, rfl, rfl⟩ := h
    exact go_tp (show (0 : Int32) = dampS (nI 2) from by decide) kk
  · refine go_O [] rest hd (hy ▸ ol_X11_99_7) (d2 := 1) ⟨by omega, by decide⟩ (e_X3_damp (ci := 7) (by decide) he h1 h2) he h1 h2 rfl rfl (Nat.le_trans hW (by decide)) hk1 hk2 (fun r f1 n1 h => ?_)
    obtain ⟨rfl, rfl, rfl⟩ := h
    exact go_tp (show (0 : Int32) = dampS (nI 3) from by decide) kk
  · refine go_O [] rest hd (hy ▸ ol_X11_99_0) (d2 := 1) ⟨by omega, by decide⟩ (e_X3_damp (ci := 0) (by decide) he h1 h2) he h1 h2 rfl rfl (Nat.le_trans hW (by decide)) hk1 hk2 (fun r f1 n1 h => ?_)
    obtain ⟨rfl, rfl, rfl⟩ := h
    exact go_tp (show (0 : Int32) = dampS (nI 4) from by decide) kk
  · refine go_O [] rest hd (hy ▸ ol_X11_99_6) (d2 := 2) ⟨by omega, by decide⟩ (e_X6_damp (ci := 6) (by decide) he h1 h2) he h1 h2 rfl rfl (Nat.le_trans hW (by decide)) hk1 hk2 (fun r f1 n1 h => ?_)
    obtain ⟨rfl, rfl, rfl⟩ := h
    exact go_tp (show (6 : Int32) = dampS (nI 5) from by decide) kk
  · refine go_O [] rest hd (hy ▸ ol_X11_99_2) (d2 := 1) ⟨by omega, by decide⟩ (e_X3_damp (ci := 2) (by decide) he h1 h2) he h1 h2 rfl rfl (Nat.le_trans hW (by decide)) hk1 hk2 (fun r f1 n1 h => ?_)
    obtain ⟨rfl, rfl, rfl⟩ := h
    exact go_tp (show (0 : Int32) = dampS (nI 6) from by decide) kk
  · refine go_O [] rest hd (hy ▸ ol_X11_99_1) (d2 := 1) ⟨by omega, by decide⟩ (e_X3_damp (ci := 1) (by decide) he h1 h2) he h1 h2 rfl rfl (Nat.le_trans hW (by decide)) hk1 hk2 (fun r f1 n1 h => ?_)
    obtain ⟨rfl, rfl, rfl⟩ := h
    exact go_tp (show (0 : Int32) = dampS (nI 7) from by decide) kk
set_option maxHeartbeats 1000000 in
theorem go1_X5_damp {G : GX} {y : MD} {d mc ms : Nat} {Q : RQ} {kc ks pc pc2 : Nat} {ls : List (Option Value)} {f : Mem} {n : Nat} {a : Nat} {k g : Int32} {rest : List Value} (ho : oneM G f n a k g) (hd : gd y pc (.invokevirtual 103) 3 pc2) (hy : y.1.cls = "TwoToALocker$School") (hdd : 3 ≤ d) (hW : (rest.map fun v => v.category).sum ≤ 6) (hk1 : kc ≤ mc) (hk2 : ks ≤ ms) (kk : Go G y d mc ms Q kc ks pc2 ls (.int (dampS k) :: rest) f n) : Go G y d mc ms Q kc ks pc ls (.ref a :: rest) f n := by
  obtain ⟨kk2, gg, hkk, hgg, rfl, rfl, he, h1, h2⟩ := ho
  rcases nt_k hkk with rfl | rfl | rfl | rfl | rfl | rfl | rfl | rfl
  · refine go_O [] rest hd (hy ▸ ol_X5_103_3) (d2 := 1) ⟨by omega, by decide⟩ (e_X3_damp (ci := 3) (by decide) he h1 h2) he h1 h2 rfl rfl (Nat.le_trans hW (by decide)) hk1 hk2 (fun r f1 n1 h => ?_)
    obtain ⟨rfl, rfl, rfl⟩ := h
    exact go_tp (show (0 : Int32) = dampS (nI 0) from by decide) kk
  · refine go_O [] rest hd (hy ▸ ol_X5_103_10) (d2 := 1) ⟨by omega, by decide⟩ (e_X10_damp (ci := 10) (by decide) he h1 h2) he h1 h2 rfl rfl (Nat.le_trans hW (by decide)) hk1 hk2 (fun r f1 n1 h => ?_)
    obtain ⟨rfl, rfl, rfl⟩ := h
    exact go_tp (show (3 : Int32) = dampS (nI 1) from by decide) kk
  · refine go_O [] rest hd (hy ▸ ol_X5_103_8) (d2 := 1) ⟨by omega, by decide⟩ (e_X3_damp (ci := 8) (by decide) he h1 h2) he h1 h2 rfl rfl (Nat.le_trans hW (by decide)) hk1 hk2 (fun r f1 n1 h => ?_)
    obtain ⟨rfl, rfl, rfl⟩ := h
    exact go_tp (show (0 : Int32) = dampS (nI 2) from by decide) kk
  · refine go_O [] rest hd (hy ▸ ol_X5_103_7) (d2 := 1) ⟨by omega, by decide⟩ (e_X3_damp (ci := 7) (by decide) he h1 h2) he h1 h2 rfl rfl (Nat.le_trans hW (by decide)) hk1 hk2 (fun r f1 n1 h => ?_)
    obtain ⟨rfl, rfl, rfl⟩ := h
    exact go_tp (show (0 : Int32) = dampS (nI 3) from by decide) kk
  · refine go_O [] rest hd (hy ▸ ol_X5_103_0) (d2 := 1) ⟨by omega, by decide⟩ (e_X3_damp (ci := 0) (by decide) he h1 h2) he h1 h2 rfl rfl (Nat.le_trans hW (by decide)) hk1 hk2 (fun r f1 n1 h => ?_)
    obtain ⟨rfl, rfl, rfl⟩ := h
    exact go_tp (show (0 : Int32) = dampS (nI 4) from by decide) kk
  · refine go_O [] rest hd (hy ▸ ol_X5_103_6) (d2 := 2) ⟨by omega, by decide⟩ (e_X6_damp (ci := 6) (by decide) he h1 h2) he h1 h2 rfl rfl (Nat.le_trans hW (by decide)) hk1 hk2 (fun r f1 n1 h => ?_)
    obtain ⟨rfl, rfl, rfl⟩ := h
    exact go_tp (show (6 : Int32) = dampS (nI 5) from by decide) kk
  · refine go_O [] rest hd (hy ▸ ol_X5_103_2) (d2 := 1) ⟨by omega, by decide⟩ (e_X3_damp (ci := 2) (by decide) he h1 h2) he h1 h2 rfl rfl (Nat.le_trans hW (by decide)) hk1 hk2 (fun r f1 n1 h => ?_)
    obtain ⟨rfl, rfl, rfl⟩ := h
    exact go_tp (show (0 : Int32) = dampS (nI 6) from by decide) kk
  · refine go_O [] rest hd (hy ▸ ol_X5_103_1) (d2 := 1) ⟨by omega, by decide⟩ (e_X3_damp (ci := 1) (by decide) he h1 h2) he h1 h2 rfl rfl (Nat.le_trans hW (by decide)) hk1 hk2 (fun r f1 n1 h => ?_)
    obtain ⟨rfl, rfl, rfl⟩ := h
    exact go_tp (show (0 : Int32) = dampS (nI 7) from by decide) kk
set_option maxHeartbeats 1000000 in
theorem go1_X5_bearing {G : GX} {y : MD} {d mc ms : Nat} {Q : RQ} {kc ks pc pc2 : Nat} {ls : List (Option Value)} {f : Mem} {n : Nat} {x : Int32} {j : Nat} (hj : j < 8) {b : Nat} (hb : b < 10) (hx : x = nI b) {a : Nat} {k g : Int32} {rest : List Value} (ho : oneM G f n a k g) (hd : gd y pc (.invokevirtual 107) 3 pc2) (hy : y.1.cls = "TwoToALocker$School") (hdd : 5 ≤ d) (hW : (rest.map fun v => v.category).sum ≤ 6) (hk1 : kc ≤ mc) (hk2 : ks ≤ ms) (kk : Go G y d mc ms Q kc ks pc2 ls (.int (bearS k g (nI j) x) :: rest) f n) : Go G y d mc ms Q kc ks pc ls (.int (dampS (nI j)) :: .int x :: .ref a :: rest) f n := by
  obtain ⟨kk2, gg, hkk, hgg, rfl, rfl, he, h1, h2⟩ := ho
  subst hx
  rcases nt_k hkk with rfl | rfl | rfl | rfl | rfl | rfl | rfl | rfl
  · refine go_O [.int (nI b), .int (dampS (nI j))] rest hd (hy ▸ ol_X5_107_3) (d2 := 2) ⟨by omega, by decide⟩ (e_X3_bearing (ci := 3) (by decide) he h1 h2 fl_X3_7_3) he h1 h2 rfl rfl (Nat.le_trans hW (by decide)) hk1 hk2 (fun r f1 n1 h => ?_)
    obtain ⟨rfl, rfl, rfl⟩ := h
    exact go_tp (show (plC (nI gg) (nI b) (dampS (nI j))) = bearS (nI 0) (nI gg) (nI j) (nI b) from bvC_ok 0 (by decide) gg hgg j hj b hb) kk
  · refine go_O [.int (nI b), .int (dampS (nI j))] rest hd (hy ▸ ol_X5_107_10) (d2 := 3) ⟨by omega, by decide⟩ (e_X10_bearing (ci := 10) (by decide) he h1 h2 fl_X3_7_10) he h1 h2 rfl rfl (Nat.le_trans hW (by decide)) hk1 hk2 (fun r f1 n1 h => ?_)
    obtain ⟨rfl, rfl, rfl⟩ := h
    exact go_tp (show (plC (nI gg) (nI b) (dampS (nI j)) + (dampS (nI j))) = bearS (nI 1) (nI gg) (nI j) (nI b) from bvC_ok 1 (by decide) gg hgg j hj b hb) kk
  · refine go_O [.int (nI b), .int (dampS (nI j))] rest hd (hy ▸ ol_X5_107_8) (d2 := 3) ⟨by omega, by decide⟩ (e_X8_bearing (ci := 8) (by decide) he h1 h2 fl_X3_7_8) he h1 h2 rfl rfl (Nat.le_trans hW (by decide)) hk1 hk2 (fun r f1 n1 h => ?_)
    obtain ⟨rfl, rfl, rfl⟩ := h
    exact go_tp (show (tiC (nI gg) (nI b) (dampS (nI j))) = bearS (nI 2) (nI gg) (nI j) (nI b) from bvC_ok 2 (by decide) gg hgg j hj b hb) kk
  · refine go_O [.int (nI b), .int (dampS (nI j))] rest hd (hy ▸ ol_X5_107_7) (d2 := 3) ⟨by omega, by decide⟩ (e_X7_bearing (ci := 7) (by decide) he h1 h2 fl_X3_7_7) he h1 h2 rfl rfl (Nat.le_trans hW (by decide)) hk1 hk2 (fun r f1 n1 h => ?_)
    obtain ⟨rfl, rfl, rfl⟩ := h
    exact go_tp (show (plC (nI gg) (nI b) (dampS (nI j)) + 2) = bearS (nI 3) (nI gg) (nI j) (nI b) from bvC_ok 3 (by decide) gg hgg j hj b hb) kk
  · refine go_O [.int (nI b), .int (dampS (nI j))] rest hd (hy ▸ ol_X5_107_0) (d2 := 4) ⟨by omega, by decide⟩ (e_X0_bearing (ci := 0) (by decide) he h1 h2 fl_X3_7_0) he h1 h2 rfl rfl (Nat.le_trans hW (by decide)) hk1 hk2 (fun r f1 n1 h => ?_)
    obtain ⟨rfl, rfl, rfl⟩ := h
    exact go_tp (show (tiC (nI gg) (nI b) (dampS (nI j)) / 2) = bearS (nI 4) (nI gg) (nI j) (nI b) from bvC_ok 4 (by decide) gg hgg j hj b hb) kk
  · refine go_O [.int (nI b), .int (dampS (nI j))] rest hd (hy ▸ ol_X5_107_6) (d2 := 3) ⟨by omega, by decide⟩ (e_X10_bearing (ci := 6) (by decide) he h1 h2 fl_X3_7_6) he h1 h2 rfl rfl (Nat.le_trans hW (by decide)) hk1 hk2 (fun r f1 n1 h => ?_)
    obtain ⟨rfl, rfl, rfl⟩ := h
    exact go_tp (show (plC (nI gg) (nI b) (dampS (nI j)) + (dampS (nI j))) = bearS (nI 5) (nI gg) (nI j) (nI b) from bvC_ok 5 (by decide) gg hgg j hj b hb) kk
  · refine go_O [.int (nI b), .int (dampS (nI j))] rest hd (hy ▸ ol_X5_107_2) (d2 := 4) ⟨by omega, by decide⟩ (e_X2_bearing (ci := 2) (by decide) he h1 h2 fl_X3_7_2) he h1 h2 rfl rfl (Nat.le_trans hW (by decide)) hk1 hk2 (fun r f1 n1 h => ?_)
    obtain ⟨rfl, rfl, rfl⟩ := h
    exact go_tp (show (mxS 0 (tiC (nI gg) (nI b) (dampS (nI j)) - 3)) = bearS (nI 6) (nI gg) (nI j) (nI b) from bvC_ok 6 (by decide) gg hgg j hj b hb) kk
  · refine go_O [.int (nI b), .int (dampS (nI j))] rest hd (hy ▸ ol_X5_107_1) (d2 := 4) ⟨by omega, by decide⟩ (e_X1_bearing (ci := 1) (by decide) he h1 h2 fl_X3_7_1) he h1 h2 rfl rfl (Nat.le_trans hW (by decide)) hk1 hk2 (fun r f1 n1 h => ?_)
    obtain ⟨rfl, rfl, rfl⟩ := h
    exact go_tp (show (plC (nI gg) (nI b) (dampS (nI j)) + 2 + 1) = bearS (nI 7) (nI gg) (nI j) (nI b) from bvC_ok 7 (by decide) gg hgg j hj b hb) kk
set_option maxHeartbeats 1000000 in
theorem go1_X5_troubleWith {G : GX} {y : MD} {d mc ms : Nat} {Q : RQ} {kc ks pc pc2 : Nat} {ls : List (Option Value)} {f : Mem} {n : Nat} {x z : Int32} {a : Nat} {k g : Int32} {rest : List Value} (ho : oneM G f n a k g) (hz : z = 0 ∨ z = 1) (hd : gd y pc (.invokevirtual 121) 3 pc2) (hy : y.1.cls = "TwoToALocker$School") (hdd : 2 ≤ d) (hW : (rest.map fun v => v.category).sum ≤ 6) (hk1 : kc ≤ mc) (hk2 : ks ≤ ms) (kk : Go G y d mc ms Q kc ks pc2 ls (.int (trouS k x z) :: rest) f n) : Go G y d mc ms Q kc ks pc ls (.int z :: .int x :: .ref a :: rest) f n := by
  obtain ⟨kk2, gg, hkk, hgg, rfl, rfl, he, h1, h2⟩ := ho
  rcases nt_k hkk with rfl | rfl | rfl | rfl | rfl | rfl | rfl | rfl
  · refine go_O [.int x, .int z] rest hd (hy ▸ ol_X5_121_3) (d2 := 1) ⟨by omega, by decide⟩ (e_X3_troubleWith (ci := 3) (by decide) he h1 h2) he h1 h2 rfl rfl (Nat.le_trans hW (by decide)) hk1 hk2 (fun r f1 n1 h => ?_)
    obtain ⟨rfl, rfl, rfl⟩ := h
    exact go_tp (show (if (z) = 1 then (x) + 2 else (x)) = trouS (nI 0) x z from by rcases hz with rfl | rfl <;> simp [trouS, show ¬ ((nI 0 : Int32) = 3 ∨ (nI 0 : Int32) = 7) by decide]) kk
  · refine go_O [.int x, .int z] rest hd (hy ▸ ol_X5_121_10) (d2 := 1) ⟨by omega, by decide⟩ (e_X3_troubleWith (ci := 10) (by decide) he h1 h2) he h1 h2 rfl rfl (Nat.le_trans hW (by decide)) hk1 hk2 (fun r f1 n1 h => ?_)
    obtain ⟨rfl, rfl, rfl⟩ := h
    exact go_tp (show (if (z) = 1 then (x) + 2 else (x)) = trouS (nI 1) x z from by rcases hz with rfl | rfl <;> simp [trouS, show ¬ ((nI 1 : Int32) = 3 ∨ (nI 1 : Int32) = 7) by decide]) kk
  · refine go_O [.int x, .int z] rest hd (hy ▸ ol_X5_121_8) (d2 := 1) ⟨by omega, by decide⟩ (e_X3_troubleWith (ci := 8) (by decide) he h1 h2) he h1 h2 rfl rfl (Nat.le_trans hW (by decide)) hk1 hk2 (fun r f1 n1 h => ?_)
    obtain ⟨rfl, rfl, rfl⟩ := h
    exact go_tp (show (if (z) = 1 then (x) + 2 else (x)) = trouS (nI 2) x z from by rcases hz with rfl | rfl <;> simp [trouS, show ¬ ((nI 2 : Int32) = 3 ∨ (nI 2 : Int32) = 7) by decide]) kk
  · refine go_O [.int x, .int z] rest hd (hy ▸ ol_X5_121_7) (d2 := 1) ⟨by omega, by decide⟩ (e_X7_troubleWith (ci := 7) (by decide) he h1 h2) he h1 h2 rfl rfl (Nat.le_trans hW (by decide)) hk1 hk2 (fun r f1 n1 h => ?_)
    obtain ⟨rfl, rfl, rfl⟩ := h
    exact go_tp (show (if (z) = 1 then (x) else (x) + 3) = trouS (nI 3) x z from by rcases hz with rfl | rfl <;> simp [trouS, show ((nI 3 : Int32) = 3 ∨ (nI 3 : Int32) = 7) by decide]) kk
  · refine go_O [.int x, .int z] rest hd (hy ▸ ol_X5_121_0) (d2 := 1) ⟨by omega, by decide⟩ (e_X3_troubleWith (ci := 0) (by decide) he h1 h2) he h1 h2 rfl rfl (Nat.le_trans hW (by decide)) hk1 hk2 (fun r f1 n1 h => ?_)
    obtain ⟨rfl, rfl, rfl⟩ := h
    exact go_tp (show (if (z) = 1 then (x) + 2 else (x)) = trouS (nI 4) x z from by rcases hz with rfl | rfl <;> simp [trouS, show ¬ ((nI 4 : Int32) = 3 ∨ (nI 4 : Int32) = 7) by decide]) kk
  · refine go_O [.int x, .int z] rest hd (hy ▸ ol_X5_121_6) (d2 := 1) ⟨by omega, by decide⟩ (e_X3_troubleWith (ci := 6) (by decide) he h1 h2) he h1 h2 rfl rfl (Nat.le_trans hW (by decide)) hk1 hk2 (fun r f1 n1 h => ?_)
    obtain ⟨rfl, rfl, rfl⟩ := h
    exact go_tp (show (if (z) = 1 then (x) + 2 else (x)) = trouS (nI 5) x z from by rcases hz with rfl | rfl <;> simp [trouS, show ¬ ((nI 5 : Int32) = 3 ∨ (nI 5 : Int32) = 7) by decide]) kk
  · refine go_O [.int x, .int z] rest hd (hy ▸ ol_X5_121_2) (d2 := 1) ⟨by omega, by decide⟩ (e_X3_troubleWith (ci := 2) (by decide) he h1 h2) he h1 h2 rfl rfl (Nat.le_trans hW (by decide)) hk1 hk2 (fun r f1 n1 h => ?_)
    obtain ⟨rfl, rfl, rfl⟩ := h
    exact go_tp (show (if (z) = 1 then (x) + 2 else (x)) = trouS (nI 6) x z from by rcases hz with rfl | rfl <;> simp [trouS, show ¬ ((nI 6 : Int32) = 3 ∨ (nI 6 : Int32) = 7) by decide]) kk
  · refine go_O [.int x, .int z] rest hd (hy ▸ ol_X5_121_1) (d2 := 1) ⟨by omega, by decide⟩ (e_X7_troubleWith (ci := 1) (by decide) he h1 h2) he h1 h2 rfl rfl (Nat.le_trans hW (by decide)) hk1 hk2 (fun r f1 n1 h => ?_)
    obtain ⟨rfl, rfl, rfl⟩ := h
    exact go_tp (show (if (z) = 1 then (x) else (x) + 3) = trouS (nI 7) x z from by rcases hz with rfl | rfl <;> simp [trouS, show ((nI 7 : Int32) = 3 ∨ (nI 7 : Int32) = 7) by decide]) kk
set_option maxHeartbeats 1000000 in
theorem go1_X5_room {G : GX} {y : MD} {d mc ms : Nat} {Q : RQ} {kc ks pc pc2 : Nat} {ls : List (Option Value)} {f : Mem} {n : Nat} {a : Nat} {k g : Int32} {rest : List Value} (ho : oneM G f n a k g) (hd : gd y pc (.invokevirtual 176) 3 pc2) (hy : y.1.cls = "TwoToALocker$School") (hdd : 4 ≤ d) (hW : (rest.map fun v => v.category).sum ≤ 6) (hk1 : kc ≤ mc) (hk2 : ks ≤ ms) (kk : Go G y d mc ms Q kc ks pc2 ls (.int (roomS k) :: rest) f n) : Go G y d mc ms Q kc ks pc ls (.ref a :: rest) f n := by
  obtain ⟨kk2, gg, hkk, hgg, rfl, rfl, he, h1, h2⟩ := ho
  rcases nt_k hkk with rfl | rfl | rfl | rfl | rfl | rfl | rfl | rfl
  · refine go_O [] rest hd (hy ▸ ol_X5_176_3) (d2 := 1) ⟨by omega, by decide⟩ (e_X3_room (ci := 3) (by decide) he h1 h2) he h1 h2 rfl rfl (Nat.le_trans hW (by decide)) hk1 hk2 (fun r f1 n1 h => ?_)
    obtain ⟨rfl, rfl, rfl⟩ := h
    exact go_tp (show (4 : Int32) = roomS (nI 0) from by decide) kk
  · refine go_O [] rest hd (hy ▸ ol_X5_176_10) (d2 := 2) ⟨by omega, by decide⟩ (e_X10_room (ci := 10) (by decide) he h1 h2) he h1 h2 rfl rfl (Nat.le_trans hW (by decide)) hk1 hk2 (fun r f1 n1 h => ?_)
    obtain ⟨rfl, rfl, rfl⟩ := h
    exact go_tp (show (6 : Int32) = roomS (nI 1) from by decide) kk
  · refine go_O [] rest hd (hy ▸ ol_X5_176_8) (d2 := 2) ⟨by omega, by decide⟩ (e_X8_room (ci := 8) (by decide) he h1 h2) he h1 h2 rfl rfl (Nat.le_trans hW (by decide)) hk1 hk2 (fun r f1 n1 h => ?_)
    obtain ⟨rfl, rfl, rfl⟩ := h
    exact go_tp (show (3 : Int32) = roomS (nI 2) from by decide) kk
  · refine go_O [] rest hd (hy ▸ ol_X5_176_7) (d2 := 2) ⟨by omega, by decide⟩ (e_X7_room (ci := 7) (by decide) he h1 h2) he h1 h2 rfl rfl (Nat.le_trans hW (by decide)) hk1 hk2 (fun r f1 n1 h => ?_)
    obtain ⟨rfl, rfl, rfl⟩ := h
    exact go_tp (show (5 : Int32) = roomS (nI 3) from by decide) kk
  · refine go_O [] rest hd (hy ▸ ol_X5_176_0) (d2 := 2) ⟨by omega, by decide⟩ (e_X8_room (ci := 0) (by decide) he h1 h2) he h1 h2 rfl rfl (Nat.le_trans hW (by decide)) hk1 hk2 (fun r f1 n1 h => ?_)
    obtain ⟨rfl, rfl, rfl⟩ := h
    exact go_tp (show (3 : Int32) = roomS (nI 4) from by decide) kk
  · refine go_O [] rest hd (hy ▸ ol_X5_176_6) (d2 := 2) ⟨by omega, by decide⟩ (e_X10_room (ci := 6) (by decide) he h1 h2) he h1 h2 rfl rfl (Nat.le_trans hW (by decide)) hk1 hk2 (fun r f1 n1 h => ?_)
    obtain ⟨rfl, rfl, rfl⟩ := h
    exact go_tp (show (6 : Int32) = roomS (nI 5) from by decide) kk
  · refine go_O [] rest hd (hy ▸ ol_X5_176_2) (d2 := 2) ⟨by omega, by decide⟩ (e_X8_room (ci := 2) (by decide) he h1 h2) he h1 h2 rfl rfl (Nat.le_trans hW (by decide)) hk1 hk2 (fun r f1 n1 h => ?_)
    obtain ⟨rfl, rfl, rfl⟩ := h
    exact go_tp (show (3 : Int32) = roomS (nI 6) from by decide) kk
  · refine go_O [] rest hd (hy ▸ ol_X5_176_1) (d2 := 3) ⟨by omega, by decide⟩ (e_X1_room (ci := 1) (by decide) he h1 h2) he h1 h2 rfl rfl (Nat.le_trans hW (by decide)) hk1 hk2 (fun r f1 n1 h => ?_)
    obtain ⟨rfl, rfl, rfl⟩ := h
    exact go_tp (show (10 : Int32) = roomS (nI 7) from by decide) kk
theorem go1_X5_figure {G : GX} {y : MD} {d mc ms : Nat} {Q : RQ} {kc ks pc pc2 : Nat} {ls : List (Option Value)} {f : Mem} {n : Nat} {a : Nat} {k g : Int32} {rest : List Value} (ho : oneM G f n a k g) (hd : gd y pc (.getfield 100) 3 pc2) (hy : y.1.cls = "TwoToALocker$School") (kk : Go G y d mc ms Q kc ks pc2 ls (.int g :: rest) f n) : Go G y d mc ms Q kc ks pc ls (.ref a :: rest) f n := by
  obtain ⟨kk2, gg, hkk, hgg, rfl, rfl, he, h1, h2⟩ := ho
  rcases nt_k hkk with rfl | rfl | rfl | rfl | rfl | rfl | rfl | rfl
  · exact go_get hd (hy ▸ fl_X5_100_3) he h1 h2 rfl kk
  · exact go_get hd (hy ▸ fl_X5_100_10) he h1 h2 rfl kk
  · exact go_get hd (hy ▸ fl_X5_100_8) he h1 h2 rfl kk
  · exact go_get hd (hy ▸ fl_X5_100_7) he h1 h2 rfl kk
  · exact go_get hd (hy ▸ fl_X5_100_0) he h1 h2 rfl kk
  · exact go_get hd (hy ▸ fl_X5_100_6) he h1 h2 rfl kk
  · exact go_get hd (hy ▸ fl_X5_100_2) he h1 h2 rfl kk
  · exact go_get hd (hy ▸ fl_X5_100_1) he h1 h2 rfl kk
theorem go1_X11_figure {G : GX} {y : MD} {d mc ms : Nat} {Q : RQ} {kc ks pc pc2 : Nat} {ls : List (Option Value)} {f : Mem} {n : Nat} {a : Nat} {k g : Int32} {rest : List Value} (ho : oneM G f n a k g) (hd : gd y pc (.getfield 89) 3 pc2) (hy : y.1.cls = "TwoToALocker") (kk : Go G y d mc ms Q kc ks pc2 ls (.int g :: rest) f n) : Go G y d mc ms Q kc ks pc ls (.ref a :: rest) f n := by
  obtain ⟨kk2, gg, hkk, hgg, rfl, rfl, he, h1, h2⟩ := ho
  rcases nt_k hkk with rfl | rfl | rfl | rfl | rfl | rfl | rfl | rfl
  · exact go_get hd (hy ▸ fl_X11_89_3) he h1 h2 rfl kk
  · exact go_get hd (hy ▸ fl_X11_89_10) he h1 h2 rfl kk
  · exact go_get hd (hy ▸ fl_X11_89_8) he h1 h2 rfl kk
  · exact go_get hd (hy ▸ fl_X11_89_7) he h1 h2 rfl kk
  · exact go_get hd (hy ▸ fl_X11_89_0) he h1 h2 rfl kk
  · exact go_get hd (hy ▸ fl_X11_89_6) he h1 h2 rfl kk
  · exact go_get hd (hy ▸ fl_X11_89_2) he h1 h2 rfl kk
  · exact go_get hd (hy ▸ fl_X11_89_1) he h1 h2 rfl kk
