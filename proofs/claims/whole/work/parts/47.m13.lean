section M13
variable {G : GX} {m0 f : Mem} {q n N M : Nat} {F : Nat → Int32} {A : Nat → Nat → Int32} {L : Nat → Nat → Int64} {K : Option Nat}
set_option maxHeartbeats 4000000 in
set_option maxRecDepth 100000 in
theorem e_X12_carry_17T (hq : G.2.1 ≤ q) (hn : q + 25 ≤ n) {i : Nat} {v : Int32} (hi : i < 50) (hT : F 28 = 1) (hi0 : F 27 = nI i) : Ev G mX12_carry 1 0 0 [.ref q, .int v] (mo G m0 q F A L (some (q + 17))) n (fun r f1 n1 => r = some (.int (v)) ∧ f1 = (mo G m0 q (upd F 27 (nI (i + 1))) (upA A 17 i v) L (some (q + 17))) ∧ n1 = n) := by
  generalize hQ9 : (fun r f1 n1 => r = some (.int (v)) ∧ f1 = (mo G m0 q (upd F 27 (nI (i + 1))) (upA A 17 i v) L (some (q + 17))) ∧ n1 = n : RQ) = Q9
  refine ev_of (by decide) (Nat.le_of_ble_eq_true rfl) (ls := [some (.ref q), some (.int v)]) rfl (fun hb => ?_)
  refine go_aload_n dX12_carry_0 rfl ?_
  refine go_get dX12_carry_1 fl_X12_193_12 mo_obj hq (by omega) rfl ?_
  refine go_tp (z := 1) (hT) ?_
  refine go_if_eq dX12_carry_4 (fun c4 => ?_) (fun c4 => ?_)
  · have c4n := (n0_eq (a := 1) (by omega)).mp c4
    first | exact absurd c4n (by decide) | exact absurd (by decide) c4n | exact absurd rfl c4n | omega
  · have c4n := mt (n0_eq (a := 1) (by omega)).mpr c4
    refine go_aload_n dX12_carry_7 rfl ?_
    refine go_get dX12_carry_8 fl_X12_196_12 mo_obj hq (by omega) rfl ?_
    refine go_aload_n dX12_carry_11 rfl ?_
    refine go_get dX12_carry_12 fl_X12_199_12 mo_obj hq (by omega) rfl ?_
    refine go_tp (z := nI i) (hi0) ?_
    refine go_iload_n dX12_carry_15 rfl ?_
    refine go_iast dX12_carry_16 (mo_arr 17 (by decide)) (by omega) (by omega) (vp_in_nI (n := i) (by show i < 50; omega) (by decide)) ?_
    refine go_mem (mo_setA 17 (by decide) _ _) ?_
    rw [nI_clamp (by omega)]
    refine go_aload_n dX12_carry_17 rfl ?_
    refine go_dup dX12_carry_18 rfl ?_
    refine go_get dX12_carry_19 fl_X12_199_12 mo_obj hq (by omega) rfl ?_
    refine go_tp (z := nI i) (hi0) ?_
    refine go_iconst (v := 1) dX12_carry_22 rfl ?_
    refine go_iadd dX12_carry_23 ?_
    refine go_tp (z := nI (i + 1)) (nI_add i 1) ?_
    refine go_put dX12_carry_24 fp_X12_199_12 (Or.inr (fun _ _ _ h => by cases h; rfl)) mo_obj hq (by omega) (rfl) rfl (Nat.le_of_ble_eq_true rfl) ?_
    refine go_mem (mo_setO (F' := (upd F 27 (nI (i + 1)))) (K' := (some (q + 17))) rfl) ?_
    refine go_aload_n dX12_carry_27 rfl ?_
    refine go_get dX12_carry_28 fl_X12_196_12 mo_obj hq (by omega) rfl ?_
    refine go_aload_n dX12_carry_31 rfl ?_
    refine go_get dX12_carry_32 fl_X12_199_12 mo_obj hq (by omega) rfl ?_
    refine go_tp (z := nI (i + 1)) (rfl) ?_
    refine go_iconst (v := 1) dX12_carry_35 rfl ?_
    refine go_isub dX12_carry_36 ?_
    refine go_tp (z := nI i) (nI_pred _) ?_
    refine go_iald dX12_carry_37 (mo_arr 17 (by decide)) (by omega) (by omega) (vp_in_nI (n := i) (by show i < 50; omega) (by decide)) ?_
    refine go_tp (z := (upA A 17 i (v)) 17 i) (by rw [nI_clamp (by omega)]) ?_
    refine go_tp (z := v) (by rw [upA_s]; exact if_pos rfl) ?_
    exact go_iret dX12_carry_38 rfl (Nat.le_of_ble_eq_true rfl) (Nat.le_of_ble_eq_true rfl) (hQ9 ▸ ⟨rfl, rfl, rfl⟩)
set_option maxHeartbeats 4000000 in
set_option maxRecDepth 100000 in
theorem e_X12_carry_17F (hq : G.2.1 ≤ q) (hn : q + 25 ≤ n) {i : Nat} {v : Int32} (hi : i < 50) (hT : F 28 = 0) (hi0 : F 27 = nI i) : Ev G mX12_carry 1 0 0 [.ref q, .int v] (mo G m0 q F A L (some (q + 17))) n (fun r f1 n1 => r = some (.int (A 17 i)) ∧ f1 = (mo G m0 q (upd F 27 (nI (i + 1))) A L (some (q + 17))) ∧ n1 = n) := by
  generalize hQ9 : (fun r f1 n1 => r = some (.int (A 17 i)) ∧ f1 = (mo G m0 q (upd F 27 (nI (i + 1))) A L (some (q + 17))) ∧ n1 = n : RQ) = Q9
  refine ev_of (by decide) (Nat.le_of_ble_eq_true rfl) (ls := [some (.ref q), some (.int v)]) rfl (fun hb => ?_)
  refine go_aload_n dX12_carry_0 rfl ?_
  refine go_get dX12_carry_1 fl_X12_193_12 mo_obj hq (by omega) rfl ?_
  refine go_tp (z := 0) (hT) ?_
  refine go_if_eq dX12_carry_4 (fun c4 => ?_) (fun c4 => ?_)
  · have c4n := (n0_eq (a := 0) (by omega)).mp c4
    refine go_aload_n dX12_carry_17 rfl ?_
    refine go_dup dX12_carry_18 rfl ?_
    refine go_get dX12_carry_19 fl_X12_199_12 mo_obj hq (by omega) rfl ?_
    refine go_tp (z := nI i) (hi0) ?_
    refine go_iconst (v := 1) dX12_carry_22 rfl ?_
    refine go_iadd dX12_carry_23 ?_
    refine go_tp (z := nI (i + 1)) (nI_add i 1) ?_
    refine go_put dX12_carry_24 fp_X12_199_12 (Or.inr (fun _ _ _ h => by cases h; rfl)) mo_obj hq (by omega) (rfl) rfl (Nat.le_of_ble_eq_true rfl) ?_
    refine go_mem (mo_setO (F' := (upd F 27 (nI (i + 1)))) (K' := (some (q + 17))) rfl) ?_
    refine go_aload_n dX12_carry_27 rfl ?_
    refine go_get dX12_carry_28 fl_X12_196_12 mo_obj hq (by omega) rfl ?_
    refine go_aload_n dX12_carry_31 rfl ?_
    refine go_get dX12_carry_32 fl_X12_199_12 mo_obj hq (by omega) rfl ?_
    refine go_tp (z := nI (i + 1)) (rfl) ?_
    refine go_iconst (v := 1) dX12_carry_35 rfl ?_
    refine go_isub dX12_carry_36 ?_
    refine go_tp (z := nI i) (nI_pred _) ?_
    refine go_iald dX12_carry_37 (mo_arr 17 (by decide)) (by omega) (by omega) (vp_in_nI (n := i) (by show i < 50; omega) (by decide)) ?_
    refine go_tp (z := A 17 i) (by rw [nI_clamp (by omega)]) ?_
    exact go_iret dX12_carry_38 rfl (Nat.le_of_ble_eq_true rfl) (Nat.le_of_ble_eq_true rfl) (hQ9 ▸ ⟨rfl, rfl, rfl⟩)
  · have c4n := mt (n0_eq (a := 0) (by omega)).mpr c4
    first | exact absurd c4n (by decide) | exact absurd (by decide) c4n | exact absurd rfl c4n | omega
set_option maxHeartbeats 4000000 in
set_option maxRecDepth 100000 in
theorem e_X12_carry_18T (hq : G.2.1 ≤ q) (hn : q + 25 ≤ n) {i : Nat} {v : Int32} (hi : i < 50) (hT : F 28 = 1) (hi0 : F 27 = nI i) : Ev G mX12_carry 1 0 0 [.ref q, .int v] (mo G m0 q F A L (some (q + 18))) n (fun r f1 n1 => r = some (.int (v)) ∧ f1 = (mo G m0 q (upd F 27 (nI (i + 1))) (upA A 18 i v) L (some (q + 18))) ∧ n1 = n) := by
  generalize hQ9 : (fun r f1 n1 => r = some (.int (v)) ∧ f1 = (mo G m0 q (upd F 27 (nI (i + 1))) (upA A 18 i v) L (some (q + 18))) ∧ n1 = n : RQ) = Q9
  refine ev_of (by decide) (Nat.le_of_ble_eq_true rfl) (ls := [some (.ref q), some (.int v)]) rfl (fun hb => ?_)
  refine go_aload_n dX12_carry_0 rfl ?_
  refine go_get dX12_carry_1 fl_X12_193_12 mo_obj hq (by omega) rfl ?_
  refine go_tp (z := 1) (hT) ?_
  refine go_if_eq dX12_carry_4 (fun c4 => ?_) (fun c4 => ?_)
  · have c4n := (n0_eq (a := 1) (by omega)).mp c4
    first | exact absurd c4n (by decide) | exact absurd (by decide) c4n | exact absurd rfl c4n | omega
  · have c4n := mt (n0_eq (a := 1) (by omega)).mpr c4
    refine go_aload_n dX12_carry_7 rfl ?_
    refine go_get dX12_carry_8 fl_X12_196_12 mo_obj hq (by omega) rfl ?_
    refine go_aload_n dX12_carry_11 rfl ?_
    refine go_get dX12_carry_12 fl_X12_199_12 mo_obj hq (by omega) rfl ?_
    refine go_tp (z := nI i) (hi0) ?_
    refine go_iload_n dX12_carry_15 rfl ?_
    refine go_iast dX12_carry_16 (mo_arr 18 (by decide)) (by omega) (by omega) (vp_in_nI (n := i) (by show i < 50; omega) (by decide)) ?_
    refine go_mem (mo_setA 18 (by decide) _ _) ?_
    rw [nI_clamp (by omega)]
    refine go_aload_n dX12_carry_17 rfl ?_
    refine go_dup dX12_carry_18 rfl ?_
    refine go_get dX12_carry_19 fl_X12_199_12 mo_obj hq (by omega) rfl ?_
    refine go_tp (z := nI i) (hi0) ?_
    refine go_iconst (v := 1) dX12_carry_22 rfl ?_
    refine go_iadd dX12_carry_23 ?_
    refine go_tp (z := nI (i + 1)) (nI_add i 1) ?_
    refine go_put dX12_carry_24 fp_X12_199_12 (Or.inr (fun _ _ _ h => by cases h; rfl)) mo_obj hq (by omega) (rfl) rfl (Nat.le_of_ble_eq_true rfl) ?_
    refine go_mem (mo_setO (F' := (upd F 27 (nI (i + 1)))) (K' := (some (q + 18))) rfl) ?_
    refine go_aload_n dX12_carry_27 rfl ?_
    refine go_get dX12_carry_28 fl_X12_196_12 mo_obj hq (by omega) rfl ?_
    refine go_aload_n dX12_carry_31 rfl ?_
    refine go_get dX12_carry_32 fl_X12_199_12 mo_obj hq (by omega) rfl ?_
    refine go_tp (z := nI (i + 1)) (rfl) ?_
    refine go_iconst (v := 1) dX12_carry_35 rfl ?_
    refine go_isub dX12_carry_36 ?_
    refine go_tp (z := nI i) (nI_pred _) ?_
    refine go_iald dX12_carry_37 (mo_arr 18 (by decide)) (by omega) (by omega) (vp_in_nI (n := i) (by show i < 50; omega) (by decide)) ?_
    refine go_tp (z := (upA A 18 i (v)) 18 i) (by rw [nI_clamp (by omega)]) ?_
    refine go_tp (z := v) (by rw [upA_s]; exact if_pos rfl) ?_
    exact go_iret dX12_carry_38 rfl (Nat.le_of_ble_eq_true rfl) (Nat.le_of_ble_eq_true rfl) (hQ9 ▸ ⟨rfl, rfl, rfl⟩)
set_option maxHeartbeats 4000000 in
set_option maxRecDepth 100000 in
theorem e_X12_carry_18F (hq : G.2.1 ≤ q) (hn : q + 25 ≤ n) {i : Nat} {v : Int32} (hi : i < 50) (hT : F 28 = 0) (hi0 : F 27 = nI i) : Ev G mX12_carry 1 0 0 [.ref q, .int v] (mo G m0 q F A L (some (q + 18))) n (fun r f1 n1 => r = some (.int (A 18 i)) ∧ f1 = (mo G m0 q (upd F 27 (nI (i + 1))) A L (some (q + 18))) ∧ n1 = n) := by
  generalize hQ9 : (fun r f1 n1 => r = some (.int (A 18 i)) ∧ f1 = (mo G m0 q (upd F 27 (nI (i + 1))) A L (some (q + 18))) ∧ n1 = n : RQ) = Q9
  refine ev_of (by decide) (Nat.le_of_ble_eq_true rfl) (ls := [some (.ref q), some (.int v)]) rfl (fun hb => ?_)
  refine go_aload_n dX12_carry_0 rfl ?_
  refine go_get dX12_carry_1 fl_X12_193_12 mo_obj hq (by omega) rfl ?_
  refine go_tp (z := 0) (hT) ?_
  refine go_if_eq dX12_carry_4 (fun c4 => ?_) (fun c4 => ?_)
  · have c4n := (n0_eq (a := 0) (by omega)).mp c4
    refine go_aload_n dX12_carry_17 rfl ?_
    refine go_dup dX12_carry_18 rfl ?_
    refine go_get dX12_carry_19 fl_X12_199_12 mo_obj hq (by omega) rfl ?_
    refine go_tp (z := nI i) (hi0) ?_
    refine go_iconst (v := 1) dX12_carry_22 rfl ?_
    refine go_iadd dX12_carry_23 ?_
    refine go_tp (z := nI (i + 1)) (nI_add i 1) ?_
    refine go_put dX12_carry_24 fp_X12_199_12 (Or.inr (fun _ _ _ h => by cases h; rfl)) mo_obj hq (by omega) (rfl) rfl (Nat.le_of_ble_eq_true rfl) ?_
    refine go_mem (mo_setO (F' := (upd F 27 (nI (i + 1)))) (K' := (some (q + 18))) rfl) ?_
    refine go_aload_n dX12_carry_27 rfl ?_
    refine go_get dX12_carry_28 fl_X12_196_12 mo_obj hq (by omega) rfl ?_
    refine go_aload_n dX12_carry_31 rfl ?_
    refine go_get dX12_carry_32 fl_X12_199_12 mo_obj hq (by omega) rfl ?_
    refine go_tp (z := nI (i + 1)) (rfl) ?_
    refine go_iconst (v := 1) dX12_carry_35 rfl ?_
    refine go_isub dX12_carry_36 ?_
    refine go_tp (z := nI i) (nI_pred _) ?_
    refine go_iald dX12_carry_37 (mo_arr 18 (by decide)) (by omega) (by omega) (vp_in_nI (n := i) (by show i < 50; omega) (by decide)) ?_
    refine go_tp (z := A 18 i) (by rw [nI_clamp (by omega)]) ?_
    exact go_iret dX12_carry_38 rfl (Nat.le_of_ble_eq_true rfl) (Nat.le_of_ble_eq_true rfl) (hQ9 ▸ ⟨rfl, rfl, rfl⟩)
  · have c4n := mt (n0_eq (a := 0) (by omega)).mpr c4
    first | exact absurd c4n (by decide) | exact absurd (by decide) c4n | exact absurd rfl c4n | omega
set_option maxHeartbeats 4000000 in
set_option maxRecDepth 100000 in
theorem e_X12_carryAll_17T (hq : G.2.1 ≤ q) (hn : q + 25 ≤ n) : Ev G mX12_carryAll 2 0 0 [.ref q, .ref (q + 17), .int 1] (mo G m0 q F A L K) n (fun r f1 n1 => r = none ∧ (∃ F' A', opR 17 F A F' A' ∧ f1 = mo G m0 q F' A' L (some (q + 17))) ∧ n1 = n) := by
  generalize hQ9 : (fun r f1 n1 => r = none ∧ (∃ F' A', opR 17 F A F' A' ∧ f1 = mo G m0 q F' A' L (some (q + 17))) ∧ n1 = n : RQ) = Q9
  refine ev_of (by decide) (Nat.le_of_ble_eq_true rfl) (ls := [some (.ref q), some (.ref (q + 17)), some (.int 1), none]) rfl (fun hb => ?_)
  refine go_aload_n dX12_carryAll_0 rfl ?_
  refine go_aload_n dX12_carryAll_1 rfl ?_
  refine go_put dX12_carryAll_2 fp_X12_196_12 (Or.inr (fun _ _ _ h => by cases h; rfl)) mo_obj hq (by omega) (rfl) rfl (Nat.le_of_ble_eq_true rfl) ?_
  refine go_mem (mo_setO (F' := F) (K' := (some (q + 17))) rfl) ?_
  refine go_aload_n dX12_carryAll_5 rfl ?_
  refine go_iload_n dX12_carryAll_6 rfl ?_
  refine go_put dX12_carryAll_7 fp_X12_193_12 (Or.inr (fun _ _ _ h => by cases h; rfl)) mo_obj hq (by omega) (rfl) rfl (Nat.le_of_ble_eq_true rfl) ?_
  refine go_mem (mo_setO (F' := (upd F 28 (1))) (K' := (some (q + 17))) rfl) ?_
  refine go_aload_n dX12_carryAll_10 rfl ?_
  refine go_iconst (v := 0) dX12_carryAll_11 rfl ?_
  refine go_put dX12_carryAll_12 fp_X12_199_12 (Or.inr (fun _ _ _ h => by cases h; rfl)) mo_obj hq (by omega) (rfl) rfl (Nat.le_of_ble_eq_true rfl) ?_
  refine go_mem (mo_setO (F' := (upd (upd F 28 (1)) 27 (0))) (K' := (some (q + 17))) rfl) ?_
  refine go_aload_n dX12_carryAll_15 rfl ?_
  refine go_aload_n dX12_carryAll_16 rfl ?_
  refine go_aload_n dX12_carryAll_17 rfl ?_
  refine go_get dX12_carryAll_18 fl_X12_87_12 mo_obj hq (by omega) rfl ?_
  refine go_tp (z := F 0) (rfl) ?_
  refine go_V [.int (F 0)] [.ref q] dX12_carryAll_21 vl_X12_202 ⟨by decide, by decide⟩ (e_X12_carry_17T (F := (upd (upd F 28 (1)) 27 (0))) (A := A) (L := L) hq hn (i := 0) (by omega) (by first | rfl | exact h28 | (simp [upd]; done) | (simp [upd, h28]; done)) rfl) mo_obj hq (by omega) rfl rfl (Nat.le_of_ble_eq_true rfl) (Nat.le_of_ble_eq_true rfl) (Nat.le_of_ble_eq_true rfl) (fun r21 f21 n21 h21 => ?_)
  obtain ⟨rfl, rfl, hn21⟩ := h21
  subst n21
  refine go_put dX12_carryAll_24 fp_X12_87_12 (Or.inr (fun _ _ _ h => by cases h; rfl)) mo_obj hq (by omega) (rfl) rfl (Nat.le_of_ble_eq_true rfl) ?_
  refine go_mem (mo_setO (F' := (upd (upd (upd (upd F 28 (1)) 27 (0)) 27 (nI (0 + 1))) 0 (F 0))) (K' := (some (q + 17))) rfl) ?_
  refine go_aload_n dX12_carryAll_27 rfl ?_
  refine go_aload_n dX12_carryAll_28 rfl ?_
  refine go_aload_n dX12_carryAll_29 rfl ?_
  refine go_get dX12_carryAll_30 fl_X12_94_12 mo_obj hq (by omega) rfl ?_
  refine go_tp (z := F 5) (rfl) ?_
  refine go_V [.int (F 5)] [.ref q] dX12_carryAll_33 vl_X12_202 ⟨by decide, by decide⟩ (e_X12_carry_17T (F := (upd (upd (upd (upd F 28 (1)) 27 (0)) 27 (nI (0 + 1))) 0 (F 0))) (A := (upA A 17 0 (F 0))) (L := L) hq hn (i := 0 + 1) (by omega) (by first | rfl | exact h28 | (simp [upd]; done) | (simp [upd, h28]; done)) rfl) mo_obj hq (by omega) rfl rfl (Nat.le_of_ble_eq_true rfl) (Nat.le_of_ble_eq_true rfl) (Nat.le_of_ble_eq_true rfl) (fun r33 f33 n33 h33 => ?_)
  obtain ⟨rfl, rfl, hn33⟩ := h33
  subst n33
  refine go_put dX12_carryAll_36 fp_X12_94_12 (Or.inr (fun _ _ _ h => by cases h; rfl)) mo_obj hq (by omega) (rfl) rfl (Nat.le_of_ble_eq_true rfl) ?_
  refine go_mem (mo_setO (F' := (upd (upd (upd (upd (upd (upd F 28 (1)) 27 (0)) 27 (nI (0 + 1))) 0 (F 0)) 27 (nI (0 + 1 + 1))) 5 (F 5))) (K' := (some (q + 17))) rfl) ?_
  refine go_aload_n dX12_carryAll_39 rfl ?_
  refine go_aload_n dX12_carryAll_40 rfl ?_
  refine go_aload_n dX12_carryAll_41 rfl ?_
  refine go_get dX12_carryAll_42 fl_X12_154_12 mo_obj hq (by omega) rfl ?_
  refine go_tp (z := F 9) (rfl) ?_
  refine go_V [.int (F 9)] [.ref q] dX12_carryAll_45 vl_X12_202 ⟨by decide, by decide⟩ (e_X12_carry_17T (F := (upd (upd (upd (upd (upd (upd F 28 (1)) 27 (0)) 27 (nI (0 + 1))) 0 (F 0)) 27 (nI (0 + 1 + 1))) 5 (F 5))) (A := (upA (upA A 17 0 (F 0)) 17 (0 + 1) (F 5))) (L := L) hq hn (i := 0 + 1 + 1) (by omega) (by first | rfl | exact h28 | (simp [upd]; done) | (simp [upd, h28]; done)) rfl) mo_obj hq (by omega) rfl rfl (Nat.le_of_ble_eq_true rfl) (Nat.le_of_ble_eq_true rfl) (Nat.le_of_ble_eq_true rfl) (fun r45 f45 n45 h45 => ?_)
  obtain ⟨rfl, rfl, hn45⟩ := h45
  subst n45
  refine go_put dX12_carryAll_48 fp_X12_154_12 (Or.inr (fun _ _ _ h => by cases h; rfl)) mo_obj hq (by omega) (rfl) rfl (Nat.le_of_ble_eq_true rfl) ?_
  refine go_mem (mo_setO (F' := (upd (upd (upd (upd (upd (upd (upd (upd F 28 (1)) 27 (0)) 27 (nI (0 + 1))) 0 (F 0)) 27 (nI (0 + 1 + 1))) 5 (F 5)) 27 (nI (0 + 1 + 1 + 1))) 9 (F 9))) (K' := (some (q + 17))) rfl) ?_
  refine go_iconst (v := 0) dX12_carryAll_51 rfl ?_
  refine go_istore_n (ls' := [some (.ref q), some (.ref (q + 17)), some (.int 1), some (.int 0)]) dX12_carryAll_52 ⟨by decide, rfl, rfl⟩ ?_
  have lp0 : ∀ (μ_lp0 : Nat) (p : Nat) (F1 : Nat → Int32) (A1 : Nat → Nat → Int32) (hp : p ≤ 8) (hmp : 9 ≤ p + μ_lp0) (hF : ∀ k, k ≠ 27 → k ≠ 28 → F1 k = F k) (h28 : F1 28 = 1) (h27 : F1 27 = nI (3 + 4 * p)) (hA : ∀ r, r ≠ 17 → A1 r = A r) (hJ : ∀ i, i < 3 + 4 * p → A1 17 i = pkS F A i), Go G mX12_carryAll 2 0 0 Q9 0 0 53 [some (.ref q), none, none, some (.int (nI p))] [] (mo G m0 q F1 A1 L (some (q + 17))) n := by
    intro μ_lp0
    induction μ_lp0 with
    | zero =>
      intro p F1 A1 hp hmp hF h28 h27 hA hJ
      exact absurd hmp (by omega)
    | succ μ_lp0 ih_lp0 =>
      intro p F1 A1 hp hmp hF h28 h27 hA hJ
      refine go_iload_n dX12_carryAll_53 rfl ?_
      refine go_bipush (v := 8) dX12_carryAll_54 rfl ?_
      refine go_icmp_ge dX12_carryAll_56 (fun c56 => ?_) (fun c56 => ?_)
      · have c56n := (nI_leI (a := 8) (b := p) (by omega) (by omega)).mp c56
        have c56n := Nat.not_lt.mpr c56n
        have c56 := Int32.not_lt.mpr c56
        refine go_iconst (v := 0) dX12_carryAll_129 rfl ?_
        refine go_istore_n (ls' := [some (.ref q), none, none, some (.int 0)]) dX12_carryAll_130 ⟨by decide, rfl, rfl⟩ ?_
        have lp1 : ∀ (μ_lp1 : Nat) (l : Nat) (F2 : Nat → Int32) (A2 : Nat → Nat → Int32) (hl : l ≤ 5) (hml : 6 ≤ l + μ_lp1) (hF : ∀ k, k ≠ 27 → k ≠ 28 → F2 k = F k) (h28 : F2 28 = 1) (h27 : F2 27 = nI (35 + 3 * l)) (hA : ∀ r, r ≠ 17 → A2 r = A r) (hJ : ∀ i, i < 35 + 3 * l → A2 17 i = pkS F A i), Go G mX12_carryAll 2 0 0 Q9 0 0 131 [some (.ref q), none, none, some (.int (nI l))] [] (mo G m0 q F2 A2 L (some (q + 17))) n := by
          intro μ_lp1
          induction μ_lp1 with
          | zero =>
            intro l F2 A2 hl hml hF h28 h27 hA hJ
            exact absurd hml (by omega)
          | succ μ_lp1 ih_lp1 =>
            intro l F2 A2 hl hml hF h28 h27 hA hJ
            refine go_iload_n dX12_carryAll_131 rfl ?_
            refine go_iconst (v := 5) dX12_carryAll_132 rfl ?_
            refine go_icmp_ge dX12_carryAll_133 (fun c133 => ?_) (fun c133 => ?_)
            · have c133n := (nI_leI (a := 5) (b := l) (by omega) (by omega)).mp c133
              have c133n := Nat.not_lt.mpr c133n
              have c133 := Int32.not_lt.mpr c133
              exact go_vret dX12_carryAll_190 rfl (Nat.le_of_ble_eq_true rfl) (Nat.le_of_ble_eq_true rfl) (hQ9 ▸ ⟨rfl, ⟨_, _, ⟨hF, hA, fun i hi => hJ i (by omega)⟩, rfl⟩, rfl⟩)
            · have c133n := mt (nI_leI (a := 5) (b := l) (by omega) (by omega)).mpr c133
              have c133n := Nat.lt_of_not_le c133n
              have c133 := Int32.not_le.mp c133
              refine go_aload_n dX12_carryAll_136 rfl ?_
              refine go_get dX12_carryAll_137 fl_X12_22_12 mo_obj hq (by omega) rfl ?_
              refine go_iload_n dX12_carryAll_140 rfl ?_
              refine go_aload_n dX12_carryAll_141 rfl ?_
              refine go_aload_n dX12_carryAll_142 rfl ?_
              refine go_get dX12_carryAll_143 fl_X12_22_12 mo_obj hq (by omega) rfl ?_
              refine go_iload_n dX12_carryAll_146 rfl ?_
              refine go_iald dX12_carryAll_147 (mo_arr 5 (by decide)) (by omega) (by omega) (vp_in_nI (n := l) (by show l < 5; omega) (by decide)) ?_
              refine go_tp (z := A2 5 l) (by rw [nI_clamp (by omega)]) ?_
              refine go_V [.int (A2 5 l)] [.int (nI l), .ref (q + 5)] dX12_carryAll_148 vl_X12_202 ⟨by decide, by decide⟩ (e_X12_carry_17T (F := F2) (A := A2) (L := L) hq hn (i := 35 + 3 * l) (by omega) (by first | rfl | exact h28 | (simp [upd]; done) | (simp [upd, h28]; done)) h27) mo_obj hq (by omega) rfl rfl (Nat.le_of_ble_eq_true rfl) (Nat.le_of_ble_eq_true rfl) (Nat.le_of_ble_eq_true rfl) (fun r148 f148 n148 h148 => ?_)
              obtain ⟨rfl, rfl, hn148⟩ := h148
              subst n148
              refine go_iast dX12_carryAll_151 (mo_arr 5 (by decide)) (by omega) (by omega) (vp_in_nI (n := l) (by show l < 5; omega) (by decide)) ?_
              refine go_mem (mo_setA 5 (by decide) _ _) ?_
              rw [nI_clamp (by omega)]
              refine go_mem (f' := (mo G m0 q (upd F2 27 (nI (35 + 3 * l + 1))) (tkA 17 5 l (35 + 3 * l) A2) L (some (q + 17)))) rfl ?_
              refine go_aload_n dX12_carryAll_152 rfl ?_
              refine go_get dX12_carryAll_153 fl_X12_25_12 mo_obj hq (by omega) rfl ?_
              refine go_iload_n dX12_carryAll_156 rfl ?_
              refine go_aload_n dX12_carryAll_157 rfl ?_
              refine go_aload_n dX12_carryAll_158 rfl ?_
              refine go_get dX12_carryAll_159 fl_X12_25_12 mo_obj hq (by omega) rfl ?_
              refine go_iload_n dX12_carryAll_162 rfl ?_
              refine go_iald dX12_carryAll_163 (mo_arr 6 (by decide)) (by omega) (by omega) (vp_in_nI (n := l) (by show l < 5; omega) (by decide)) ?_
              refine go_tp (z := (tkA 17 5 l (35 + 3 * l) A2) 6 l) (by rw [nI_clamp (by omega)]) ?_
              refine go_V [.int ((tkA 17 5 l (35 + 3 * l) A2) 6 l)] [.int (nI l), .ref (q + 6)] dX12_carryAll_164 vl_X12_202 ⟨by decide, by decide⟩ (e_X12_carry_17T (F := (upd F2 27 (nI (35 + 3 * l + 1)))) (A := (tkA 17 5 l (35 + 3 * l) A2)) (L := L) hq hn (i := 35 + 3 * l + 1) (by omega) (by first | rfl | exact h28 | (simp [upd]; done) | (simp [upd, h28]; done)) rfl) mo_obj hq (by omega) rfl rfl (Nat.le_of_ble_eq_true rfl) (Nat.le_of_ble_eq_true rfl) (Nat.le_of_ble_eq_true rfl) (fun r164 f164 n164 h164 => ?_)
              obtain ⟨rfl, rfl, hn164⟩ := h164
              subst n164
              refine go_iast dX12_carryAll_167 (mo_arr 6 (by decide)) (by omega) (by omega) (vp_in_nI (n := l) (by show l < 5; omega) (by decide)) ?_
              refine go_mem (mo_setA 6 (by decide) _ _) ?_
              rw [nI_clamp (by omega)]
              refine go_mem (f' := (mo G m0 q (upd (upd F2 27 (nI (35 + 3 * l + 1))) 27 (nI (35 + 3 * l + 1 + 1))) (tkA 17 6 l (35 + 3 * l + 1) (tkA 17 5 l (35 + 3 * l) A2)) L (some (q + 17)))) rfl ?_
              refine go_aload_n dX12_carryAll_168 rfl ?_
              refine go_get dX12_carryAll_169 fl_X12_28_12 mo_obj hq (by omega) rfl ?_
              refine go_iload_n dX12_carryAll_172 rfl ?_
              refine go_aload_n dX12_carryAll_173 rfl ?_
              refine go_aload_n dX12_carryAll_174 rfl ?_
              refine go_get dX12_carryAll_175 fl_X12_28_12 mo_obj hq (by omega) rfl ?_
              refine go_iload_n dX12_carryAll_178 rfl ?_
              refine go_iald dX12_carryAll_179 (mo_arr 7 (by decide)) (by omega) (by omega) (vp_in_nI (n := l) (by show l < 5; omega) (by decide)) ?_
              refine go_tp (z := (tkA 17 6 l (35 + 3 * l + 1) (tkA 17 5 l (35 + 3 * l) A2)) 7 l) (by rw [nI_clamp (by omega)]) ?_
              refine go_V [.int ((tkA 17 6 l (35 + 3 * l + 1) (tkA 17 5 l (35 + 3 * l) A2)) 7 l)] [.int (nI l), .ref (q + 7)] dX12_carryAll_180 vl_X12_202 ⟨by decide, by decide⟩ (e_X12_carry_17T (F := (upd (upd F2 27 (nI (35 + 3 * l + 1))) 27 (nI (35 + 3 * l + 1 + 1)))) (A := (tkA 17 6 l (35 + 3 * l + 1) (tkA 17 5 l (35 + 3 * l) A2))) (L := L) hq hn (i := 35 + 3 * l + 1 + 1) (by omega) (by first | rfl | exact h28 | (simp [upd]; done) | (simp [upd, h28]; done)) rfl) mo_obj hq (by omega) rfl rfl (Nat.le_of_ble_eq_true rfl) (Nat.le_of_ble_eq_true rfl) (Nat.le_of_ble_eq_true rfl) (fun r180 f180 n180 h180 => ?_)
              obtain ⟨rfl, rfl, hn180⟩ := h180
              subst n180
              refine go_iast dX12_carryAll_183 (mo_arr 7 (by decide)) (by omega) (by omega) (vp_in_nI (n := l) (by show l < 5; omega) (by decide)) ?_
              refine go_mem (mo_setA 7 (by decide) _ _) ?_
              rw [nI_clamp (by omega)]
              refine go_mem (f' := (mo G m0 q (upd (upd (upd F2 27 (nI (35 + 3 * l + 1))) 27 (nI (35 + 3 * l + 1 + 1))) 27 (nI (35 + 3 * l + 1 + 1 + 1))) (tkA 17 7 l (35 + 3 * l + 1 + 1) (tkA 17 6 l (35 + 3 * l + 1) (tkA 17 5 l (35 + 3 * l) A2))) L (some (q + 17)))) rfl ?_
              refine go_iinc (v := nI (l + 1)) (ls' := [some (.ref q), none, none, some (.int (nI (l + 1)))]) dX12_carryAll_184 rfl (nI_1 (l)) ⟨by decide, rfl, rfl⟩ ?_
              refine go_goto dX12_carryAll_187 ?_
              have ht := tk3 (F := F) (by omega) hA hJ
              exact ih_lp1 (l + 1) (upd (upd (upd F2 27 (nI (35 + 3 * l + 1))) 27 (nI (35 + 3 * l + 1 + 1))) 27 (nI (35 + 3 * l + 1 + 1 + 1))) (tkA 17 7 l (35 + 3 * l + 1 + 1) (tkA 17 6 l (35 + 3 * l + 1) (tkA 17 5 l (35 + 3 * l) A2))) (by omega) (by omega) (fun k h1 h2 => by rw [← hF k h1 h2]; simp [upd, h1]) (by simp [upd, h28]) rfl ht.1 ht.2
        obtain rfl : p = 8 := by omega
        exact lp1 6 0 _ _ (by omega) (by omega) hF h28 h27 hA hJ
      · have c56n := mt (nI_leI (a := 8) (b := p) (by omega) (by omega)).mpr c56
        have c56n := Nat.lt_of_not_le c56n
        have c56 := Int32.not_le.mp c56
        refine go_aload_n dX12_carryAll_59 rfl ?_
        refine go_get dX12_carryAll_60 fl_X12_7_12 mo_obj hq (by omega) rfl ?_
        refine go_iload_n dX12_carryAll_63 rfl ?_
        refine go_aload_n dX12_carryAll_64 rfl ?_
        refine go_aload_n dX12_carryAll_65 rfl ?_
        refine go_get dX12_carryAll_66 fl_X12_7_12 mo_obj hq (by omega) rfl ?_
        refine go_iload_n dX12_carryAll_69 rfl ?_
        refine go_iald dX12_carryAll_70 (mo_arr 1 (by decide)) (by omega) (by omega) (vp_in_nI (n := p) (by show p < 8; omega) (by decide)) ?_
        refine go_tp (z := A1 1 p) (by rw [nI_clamp (by omega)]) ?_
        refine go_V [.int (A1 1 p)] [.int (nI p), .ref (q + 1)] dX12_carryAll_71 vl_X12_202 ⟨by decide, by decide⟩ (e_X12_carry_17T (F := F1) (A := A1) (L := L) hq hn (i := 3 + 4 * p) (by omega) (by first | rfl | exact h28 | (simp [upd]; done) | (simp [upd, h28]; done)) h27) mo_obj hq (by omega) rfl rfl (Nat.le_of_ble_eq_true rfl) (Nat.le_of_ble_eq_true rfl) (Nat.le_of_ble_eq_true rfl) (fun r71 f71 n71 h71 => ?_)
        obtain ⟨rfl, rfl, hn71⟩ := h71
        subst n71
        refine go_iast dX12_carryAll_74 (mo_arr 1 (by decide)) (by omega) (by omega) (vp_in_nI (n := p) (by show p < 8; omega) (by decide)) ?_
        refine go_mem (mo_setA 1 (by decide) _ _) ?_
        rw [nI_clamp (by omega)]
        refine go_mem (f' := (mo G m0 q (upd F1 27 (nI (3 + 4 * p + 1))) (tkA 17 1 p (3 + 4 * p) A1) L (some (q + 17)))) rfl ?_
        refine go_aload_n dX12_carryAll_75 rfl ?_
        refine go_get dX12_carryAll_76 fl_X12_13_12 mo_obj hq (by omega) rfl ?_
        refine go_iload_n dX12_carryAll_79 rfl ?_
        refine go_aload_n dX12_carryAll_80 rfl ?_
        refine go_aload_n dX12_carryAll_81 rfl ?_
        refine go_get dX12_carryAll_82 fl_X12_13_12 mo_obj hq (by omega) rfl ?_
        refine go_iload_n dX12_carryAll_85 rfl ?_
        refine go_iald dX12_carryAll_86 (mo_arr 2 (by decide)) (by omega) (by omega) (vp_in_nI (n := p) (by show p < 8; omega) (by decide)) ?_
        refine go_tp (z := (tkA 17 1 p (3 + 4 * p) A1) 2 p) (by rw [nI_clamp (by omega)]) ?_
        refine go_V [.int ((tkA 17 1 p (3 + 4 * p) A1) 2 p)] [.int (nI p), .ref (q + 2)] dX12_carryAll_87 vl_X12_202 ⟨by decide, by decide⟩ (e_X12_carry_17T (F := (upd F1 27 (nI (3 + 4 * p + 1)))) (A := (tkA 17 1 p (3 + 4 * p) A1)) (L := L) hq hn (i := 3 + 4 * p + 1) (by omega) (by first | rfl | exact h28 | (simp [upd]; done) | (simp [upd, h28]; done)) rfl) mo_obj hq (by omega) rfl rfl (Nat.le_of_ble_eq_true rfl) (Nat.le_of_ble_eq_true rfl) (Nat.le_of_ble_eq_true rfl) (fun r87 f87 n87 h87 => ?_)
        obtain ⟨rfl, rfl, hn87⟩ := h87
        subst n87
        refine go_iast dX12_carryAll_90 (mo_arr 2 (by decide)) (by omega) (by omega) (vp_in_nI (n := p) (by show p < 8; omega) (by decide)) ?_
        refine go_mem (mo_setA 2 (by decide) _ _) ?_
        rw [nI_clamp (by omega)]
        refine go_mem (f' := (mo G m0 q (upd (upd F1 27 (nI (3 + 4 * p + 1))) 27 (nI (3 + 4 * p + 1 + 1))) (tkA 17 2 p (3 + 4 * p + 1) (tkA 17 1 p (3 + 4 * p) A1)) L (some (q + 17)))) rfl ?_
        refine go_aload_n dX12_carryAll_91 rfl ?_
        refine go_get dX12_carryAll_92 fl_X12_16_12 mo_obj hq (by omega) rfl ?_
        refine go_iload_n dX12_carryAll_95 rfl ?_
        refine go_aload_n dX12_carryAll_96 rfl ?_
        refine go_aload_n dX12_carryAll_97 rfl ?_
        refine go_get dX12_carryAll_98 fl_X12_16_12 mo_obj hq (by omega) rfl ?_
        refine go_iload_n dX12_carryAll_101 rfl ?_
        refine go_iald dX12_carryAll_102 (mo_arr 3 (by decide)) (by omega) (by omega) (vp_in_nI (n := p) (by show p < 8; omega) (by decide)) ?_
        refine go_tp (z := (tkA 17 2 p (3 + 4 * p + 1) (tkA 17 1 p (3 + 4 * p) A1)) 3 p) (by rw [nI_clamp (by omega)]) ?_
        refine go_V [.int ((tkA 17 2 p (3 + 4 * p + 1) (tkA 17 1 p (3 + 4 * p) A1)) 3 p)] [.int (nI p), .ref (q + 3)] dX12_carryAll_103 vl_X12_202 ⟨by decide, by decide⟩ (e_X12_carry_17T (F := (upd (upd F1 27 (nI (3 + 4 * p + 1))) 27 (nI (3 + 4 * p + 1 + 1)))) (A := (tkA 17 2 p (3 + 4 * p + 1) (tkA 17 1 p (3 + 4 * p) A1))) (L := L) hq hn (i := 3 + 4 * p + 1 + 1) (by omega) (by first | rfl | exact h28 | (simp [upd]; done) | (simp [upd, h28]; done)) rfl) mo_obj hq (by omega) rfl rfl (Nat.le_of_ble_eq_true rfl) (Nat.le_of_ble_eq_true rfl) (Nat.le_of_ble_eq_true rfl) (fun r103 f103 n103 h103 => ?_)
        obtain ⟨rfl, rfl, hn103⟩ := h103
        subst n103
        refine go_iast dX12_carryAll_106 (mo_arr 3 (by decide)) (by omega) (by omega) (vp_in_nI (n := p) (by show p < 8; omega) (by decide)) ?_
        refine go_mem (mo_setA 3 (by decide) _ _) ?_
        rw [nI_clamp (by omega)]
        refine go_mem (f' := (mo G m0 q (upd (upd (upd F1 27 (nI (3 + 4 * p + 1))) 27 (nI (3 + 4 * p + 1 + 1))) 27 (nI (3 + 4 * p + 1 + 1 + 1))) (tkA 17 3 p (3 + 4 * p + 1 + 1) (tkA 17 2 p (3 + 4 * p + 1) (tkA 17 1 p (3 + 4 * p) A1))) L (some (q + 17)))) rfl ?_
        refine go_aload_n dX12_carryAll_107 rfl ?_
        refine go_get dX12_carryAll_108 fl_X12_19_12 mo_obj hq (by omega) rfl ?_
        refine go_iload_n dX12_carryAll_111 rfl ?_
        refine go_aload_n dX12_carryAll_112 rfl ?_
        refine go_aload_n dX12_carryAll_113 rfl ?_
        refine go_get dX12_carryAll_114 fl_X12_19_12 mo_obj hq (by omega) rfl ?_
        refine go_iload_n dX12_carryAll_117 rfl ?_
        refine go_iald dX12_carryAll_118 (mo_arr 4 (by decide)) (by omega) (by omega) (vp_in_nI (n := p) (by show p < 8; omega) (by decide)) ?_
        refine go_tp (z := (tkA 17 3 p (3 + 4 * p + 1 + 1) (tkA 17 2 p (3 + 4 * p + 1) (tkA 17 1 p (3 + 4 * p) A1))) 4 p) (by rw [nI_clamp (by omega)]) ?_
        refine go_V [.int ((tkA 17 3 p (3 + 4 * p + 1 + 1) (tkA 17 2 p (3 + 4 * p + 1) (tkA 17 1 p (3 + 4 * p) A1))) 4 p)] [.int (nI p), .ref (q + 4)] dX12_carryAll_119 vl_X12_202 ⟨by decide, by decide⟩ (e_X12_carry_17T (F := (upd (upd (upd F1 27 (nI (3 + 4 * p + 1))) 27 (nI (3 + 4 * p + 1 + 1))) 27 (nI (3 + 4 * p + 1 + 1 + 1)))) (A := (tkA 17 3 p (3 + 4 * p + 1 + 1) (tkA 17 2 p (3 + 4 * p + 1) (tkA 17 1 p (3 + 4 * p) A1)))) (L := L) hq hn (i := 3 + 4 * p + 1 + 1 + 1) (by omega) (by first | rfl | exact h28 | (simp [upd]; done) | (simp [upd, h28]; done)) rfl) mo_obj hq (by omega) rfl rfl (Nat.le_of_ble_eq_true rfl) (Nat.le_of_ble_eq_true rfl) (Nat.le_of_ble_eq_true rfl) (fun r119 f119 n119 h119 => ?_)
        obtain ⟨rfl, rfl, hn119⟩ := h119
        subst n119
        refine go_iast dX12_carryAll_122 (mo_arr 4 (by decide)) (by omega) (by omega) (vp_in_nI (n := p) (by show p < 8; omega) (by decide)) ?_
        refine go_mem (mo_setA 4 (by decide) _ _) ?_
        rw [nI_clamp (by omega)]
        refine go_mem (f' := (mo G m0 q (upd (upd (upd (upd F1 27 (nI (3 + 4 * p + 1))) 27 (nI (3 + 4 * p + 1 + 1))) 27 (nI (3 + 4 * p + 1 + 1 + 1))) 27 (nI (3 + 4 * p + 1 + 1 + 1 + 1))) (tkA 17 4 p (3 + 4 * p + 1 + 1 + 1) (tkA 17 3 p (3 + 4 * p + 1 + 1) (tkA 17 2 p (3 + 4 * p + 1) (tkA 17 1 p (3 + 4 * p) A1)))) L (some (q + 17)))) rfl ?_
        refine go_iinc (v := nI (p + 1)) (ls' := [some (.ref q), none, none, some (.int (nI (p + 1)))]) dX12_carryAll_123 rfl (nI_1 (p)) ⟨by decide, rfl, rfl⟩ ?_
        refine go_goto dX12_carryAll_126 ?_
        have ht := tk4 (F := F) (by omega) (by omega) hA hJ
        exact ih_lp0 (p + 1) (upd (upd (upd (upd F1 27 (nI (3 + 4 * p + 1))) 27 (nI (3 + 4 * p + 1 + 1))) 27 (nI (3 + 4 * p + 1 + 1 + 1))) 27 (nI (3 + 4 * p + 1 + 1 + 1 + 1))) (tkA 17 4 p (3 + 4 * p + 1 + 1 + 1) (tkA 17 3 p (3 + 4 * p + 1 + 1) (tkA 17 2 p (3 + 4 * p + 1) (tkA 17 1 p (3 + 4 * p) A1)))) (by omega) (by omega) (fun k h1 h2 => by rw [← hF k h1 h2]; simp [upd, h1]) (by simp [upd, h28]) rfl ht.1 ht.2
  refine go_weak (ls' := [some (.ref q), none, none, some (.int 0)]) ⟨rfl, rfl, trivial⟩ ?_
  exact lp0 9 0 (upd (upd (upd (upd (upd (upd (upd (upd F 28 (1)) 27 (0)) 27 (nI (0 + 1))) 0 (F 0)) 27 (nI (0 + 1 + 1))) 5 (F 5)) 27 (nI (0 + 1 + 1 + 1))) 9 (F 9)) (upA (upA (upA A 17 0 (F 0)) 17 (0 + 1) (F 5)) 17 (0 + 1 + 1) (F 9)) (by omega) (by omega) (by intro k h1 h2; simp only [upd]; by_cases e0 : k = 0 <;> by_cases e5 : k = 5 <;> by_cases e9 : k = 9 <;> simp_all) rfl rfl (fun r hr => by rw [upA_n _ hr, upA_n _ hr, upA_n _ hr]) (fun i hi => by simp only [upA_s]; match i, hi with | 0, _ => rfl | 1, _ => rfl | 2, _ => rfl)
set_option maxHeartbeats 4000000 in
set_option maxRecDepth 100000 in
theorem e_X12_carryAll_17F (hq : G.2.1 ≤ q) (hn : q + 25 ≤ n) : Ev G mX12_carryAll 2 0 0 [.ref q, .ref (q + 17), .int 0] (mo G m0 q F A L K) n (fun r f1 n1 => r = none ∧ (∃ F' A', clR 17 F A F' A' ∧ f1 = mo G m0 q F' A' L (some (q + 17))) ∧ n1 = n) := by
  generalize hQ9 : (fun r f1 n1 => r = none ∧ (∃ F' A', clR 17 F A F' A' ∧ f1 = mo G m0 q F' A' L (some (q + 17))) ∧ n1 = n : RQ) = Q9
  refine ev_of (by decide) (Nat.le_of_ble_eq_true rfl) (ls := [some (.ref q), some (.ref (q + 17)), some (.int 0), none]) rfl (fun hb => ?_)
  refine go_aload_n dX12_carryAll_0 rfl ?_
  refine go_aload_n dX12_carryAll_1 rfl ?_
  refine go_put dX12_carryAll_2 fp_X12_196_12 (Or.inr (fun _ _ _ h => by cases h; rfl)) mo_obj hq (by omega) (rfl) rfl (Nat.le_of_ble_eq_true rfl) ?_
  refine go_mem (mo_setO (F' := F) (K' := (some (q + 17))) rfl) ?_
  refine go_aload_n dX12_carryAll_5 rfl ?_
  refine go_iload_n dX12_carryAll_6 rfl ?_
  refine go_put dX12_carryAll_7 fp_X12_193_12 (Or.inr (fun _ _ _ h => by cases h; rfl)) mo_obj hq (by omega) (rfl) rfl (Nat.le_of_ble_eq_true rfl) ?_
  refine go_mem (mo_setO (F' := (upd F 28 (0))) (K' := (some (q + 17))) rfl) ?_
  refine go_aload_n dX12_carryAll_10 rfl ?_
  refine go_iconst (v := 0) dX12_carryAll_11 rfl ?_
  refine go_put dX12_carryAll_12 fp_X12_199_12 (Or.inr (fun _ _ _ h => by cases h; rfl)) mo_obj hq (by omega) (rfl) rfl (Nat.le_of_ble_eq_true rfl) ?_
  refine go_mem (mo_setO (F' := (upd (upd F 28 (0)) 27 (0))) (K' := (some (q + 17))) rfl) ?_
  refine go_aload_n dX12_carryAll_15 rfl ?_
  refine go_aload_n dX12_carryAll_16 rfl ?_
  refine go_aload_n dX12_carryAll_17 rfl ?_
  refine go_get dX12_carryAll_18 fl_X12_87_12 mo_obj hq (by omega) rfl ?_
  refine go_tp (z := F 0) (rfl) ?_
  refine go_V [.int (F 0)] [.ref q] dX12_carryAll_21 vl_X12_202 ⟨by decide, by decide⟩ (e_X12_carry_17F (F := (upd (upd F 28 (0)) 27 (0))) (A := A) (L := L) hq hn (i := 0) (by omega) (by first | rfl | exact h28 | (simp [upd]; done) | (simp [upd, h28]; done)) rfl) mo_obj hq (by omega) rfl rfl (Nat.le_of_ble_eq_true rfl) (Nat.le_of_ble_eq_true rfl) (Nat.le_of_ble_eq_true rfl) (fun r21 f21 n21 h21 => ?_)
  obtain ⟨rfl, rfl, hn21⟩ := h21
  subst n21
  refine go_put dX12_carryAll_24 fp_X12_87_12 (Or.inr (fun _ _ _ h => by cases h; rfl)) mo_obj hq (by omega) (rfl) rfl (Nat.le_of_ble_eq_true rfl) ?_
  refine go_mem (mo_setO (F' := (upd (upd (upd (upd F 28 (0)) 27 (0)) 27 (nI (0 + 1))) 0 (A 17 0))) (K' := (some (q + 17))) rfl) ?_
  refine go_aload_n dX12_carryAll_27 rfl ?_
  refine go_aload_n dX12_carryAll_28 rfl ?_
  refine go_aload_n dX12_carryAll_29 rfl ?_
  refine go_get dX12_carryAll_30 fl_X12_94_12 mo_obj hq (by omega) rfl ?_
  refine go_tp (z := F 5) (rfl) ?_
  refine go_V [.int (F 5)] [.ref q] dX12_carryAll_33 vl_X12_202 ⟨by decide, by decide⟩ (e_X12_carry_17F (F := (upd (upd (upd (upd F 28 (0)) 27 (0)) 27 (nI (0 + 1))) 0 (A 17 0))) (A := A) (L := L) hq hn (i := 0 + 1) (by omega) (by first | rfl | exact h28 | (simp [upd]; done) | (simp [upd, h28]; done)) rfl) mo_obj hq (by omega) rfl rfl (Nat.le_of_ble_eq_true rfl) (Nat.le_of_ble_eq_true rfl) (Nat.le_of_ble_eq_true rfl) (fun r33 f33 n33 h33 => ?_)
  obtain ⟨rfl, rfl, hn33⟩ := h33
  subst n33
  refine go_put dX12_carryAll_36 fp_X12_94_12 (Or.inr (fun _ _ _ h => by cases h; rfl)) mo_obj hq (by omega) (rfl) rfl (Nat.le_of_ble_eq_true rfl) ?_
  refine go_mem (mo_setO (F' := (upd (upd (upd (upd (upd (upd F 28 (0)) 27 (0)) 27 (nI (0 + 1))) 0 (A 17 0)) 27 (nI (0 + 1 + 1))) 5 (A 17 (0 + 1)))) (K' := (some (q + 17))) rfl) ?_
  refine go_aload_n dX12_carryAll_39 rfl ?_
  refine go_aload_n dX12_carryAll_40 rfl ?_
  refine go_aload_n dX12_carryAll_41 rfl ?_
  refine go_get dX12_carryAll_42 fl_X12_154_12 mo_obj hq (by omega) rfl ?_
  refine go_tp (z := F 9) (rfl) ?_
  refine go_V [.int (F 9)] [.ref q] dX12_carryAll_45 vl_X12_202 ⟨by decide, by decide⟩ (e_X12_carry_17F (F := (upd (upd (upd (upd (upd (upd F 28 (0)) 27 (0)) 27 (nI (0 + 1))) 0 (A 17 0)) 27 (nI (0 + 1 + 1))) 5 (A 17 (0 + 1)))) (A := A) (L := L) hq hn (i := 0 + 1 + 1) (by omega) (by first | rfl | exact h28 | (simp [upd]; done) | (simp [upd, h28]; done)) rfl) mo_obj hq (by omega) rfl rfl (Nat.le_of_ble_eq_true rfl) (Nat.le_of_ble_eq_true rfl) (Nat.le_of_ble_eq_true rfl) (fun r45 f45 n45 h45 => ?_)
  obtain ⟨rfl, rfl, hn45⟩ := h45
  subst n45
  refine go_put dX12_carryAll_48 fp_X12_154_12 (Or.inr (fun _ _ _ h => by cases h; rfl)) mo_obj hq (by omega) (rfl) rfl (Nat.le_of_ble_eq_true rfl) ?_
  refine go_mem (mo_setO (F' := (upd (upd (upd (upd (upd (upd (upd (upd F 28 (0)) 27 (0)) 27 (nI (0 + 1))) 0 (A 17 0)) 27 (nI (0 + 1 + 1))) 5 (A 17 (0 + 1))) 27 (nI (0 + 1 + 1 + 1))) 9 (A 17 (0 + 1 + 1)))) (K' := (some (q + 17))) rfl) ?_
  refine go_iconst (v := 0) dX12_carryAll_51 rfl ?_
  refine go_istore_n (ls' := [some (.ref q), some (.ref (q + 17)), some (.int 0), some (.int 0)]) dX12_carryAll_52 ⟨by decide, rfl, rfl⟩ ?_
  have lp0 : ∀ (μ_lp0 : Nat) (p : Nat) (F1 : Nat → Int32) (A1 : Nat → Nat → Int32) (hp : p ≤ 8) (hmp : 9 ≤ p + μ_lp0) (hF : ∀ k, k ≠ 0 → k ≠ 5 → k ≠ 9 → k ≠ 27 → k ≠ 28 → F1 k = F k) (hf0 : F1 0 = A 17 0) (hf5 : F1 5 = A 17 1) (hf9 : F1 9 = A 17 2) (h28 : F1 28 = 0) (h27 : F1 27 = nI (3 + 4 * p)) (hg : cgA 17 p A A1), Go G mX12_carryAll 2 0 0 Q9 0 0 53 [some (.ref q), none, none, some (.int (nI p))] [] (mo G m0 q F1 A1 L (some (q + 17))) n := by
    intro μ_lp0
    induction μ_lp0 with
    | zero =>
      intro p F1 A1 hp hmp hF hf0 hf5 hf9 h28 h27 hg
      exact absurd hmp (by omega)
    | succ μ_lp0 ih_lp0 =>
      intro p F1 A1 hp hmp hF hf0 hf5 hf9 h28 h27 hg
      refine go_iload_n dX12_carryAll_53 rfl ?_
      refine go_bipush (v := 8) dX12_carryAll_54 rfl ?_
      refine go_icmp_ge dX12_carryAll_56 (fun c56 => ?_) (fun c56 => ?_)
      · have c56n := (nI_leI (a := 8) (b := p) (by omega) (by omega)).mp c56
        have c56n := Nat.not_lt.mpr c56n
        have c56 := Int32.not_lt.mpr c56
        refine go_iconst (v := 0) dX12_carryAll_129 rfl ?_
        refine go_istore_n (ls' := [some (.ref q), none, none, some (.int 0)]) dX12_carryAll_130 ⟨by decide, rfl, rfl⟩ ?_
        have lp1 : ∀ (μ_lp1 : Nat) (l : Nat) (F2 : Nat → Int32) (A2 : Nat → Nat → Int32) (hl : l ≤ 5) (hml : 6 ≤ l + μ_lp1) (hF : ∀ k, k ≠ 0 → k ≠ 5 → k ≠ 9 → k ≠ 27 → k ≠ 28 → F2 k = F k) (hf0 : F2 0 = A 17 0) (hf5 : F2 5 = A 17 1) (hf9 : F2 9 = A 17 2) (h28 : F2 28 = 0) (h27 : F2 27 = nI (35 + 3 * l)) (hg : cgB 17 l A A2), Go G mX12_carryAll 2 0 0 Q9 0 0 131 [some (.ref q), none, none, some (.int (nI l))] [] (mo G m0 q F2 A2 L (some (q + 17))) n := by
          intro μ_lp1
          induction μ_lp1 with
          | zero =>
            intro l F2 A2 hl hml hF hf0 hf5 hf9 h28 h27 hg
            exact absurd hml (by omega)
          | succ μ_lp1 ih_lp1 =>
            intro l F2 A2 hl hml hF hf0 hf5 hf9 h28 h27 hg
            refine go_iload_n dX12_carryAll_131 rfl ?_
            refine go_iconst (v := 5) dX12_carryAll_132 rfl ?_
            refine go_icmp_ge dX12_carryAll_133 (fun c133 => ?_) (fun c133 => ?_)
            · have c133n := (nI_leI (a := 5) (b := l) (by omega) (by omega)).mp c133
              have c133n := Nat.not_lt.mpr c133n
              have c133 := Int32.not_lt.mpr c133
              exact go_vret dX12_carryAll_190 rfl (Nat.le_of_ble_eq_true rfl) (Nat.le_of_ble_eq_true rfl) (hQ9 ▸ ⟨rfl, ⟨_, _, ⟨hF, hf0, hf5, hf9, hg.1, hg.2.1, fun c x hc => by rw [hg.2.2 c x hc, show l = 5 by omega]⟩, rfl⟩, rfl⟩)
            · have c133n := mt (nI_leI (a := 5) (b := l) (by omega) (by omega)).mpr c133
              have c133n := Nat.lt_of_not_le c133n
              have c133 := Int32.not_le.mp c133
              refine go_aload_n dX12_carryAll_136 rfl ?_
              refine go_get dX12_carryAll_137 fl_X12_22_12 mo_obj hq (by omega) rfl ?_
              refine go_iload_n dX12_carryAll_140 rfl ?_
              refine go_aload_n dX12_carryAll_141 rfl ?_
              refine go_aload_n dX12_carryAll_142 rfl ?_
              refine go_get dX12_carryAll_143 fl_X12_22_12 mo_obj hq (by omega) rfl ?_
              refine go_iload_n dX12_carryAll_146 rfl ?_
              refine go_iald dX12_carryAll_147 (mo_arr 5 (by decide)) (by omega) (by omega) (vp_in_nI (n := l) (by show l < 5; omega) (by decide)) ?_
              refine go_tp (z := A2 5 l) (by rw [nI_clamp (by omega)]) ?_
              refine go_V [.int (A2 5 l)] [.int (nI l), .ref (q + 5)] dX12_carryAll_148 vl_X12_202 ⟨by decide, by decide⟩ (e_X12_carry_17F (F := F2) (A := A2) (L := L) hq hn (i := 35 + 3 * l) (by omega) (by first | rfl | exact h28 | (simp [upd]; done) | (simp [upd, h28]; done)) h27) mo_obj hq (by omega) rfl rfl (Nat.le_of_ble_eq_true rfl) (Nat.le_of_ble_eq_true rfl) (Nat.le_of_ble_eq_true rfl) (fun r148 f148 n148 h148 => ?_)
              obtain ⟨rfl, rfl, hn148⟩ := h148
              subst n148
              refine go_iast dX12_carryAll_151 (mo_arr 5 (by decide)) (by omega) (by omega) (vp_in_nI (n := l) (by show l < 5; omega) (by decide)) ?_
              refine go_mem (mo_setA 5 (by decide) _ _) ?_
              rw [nI_clamp (by omega)]
              refine go_aload_n dX12_carryAll_152 rfl ?_
              refine go_get dX12_carryAll_153 fl_X12_25_12 mo_obj hq (by omega) rfl ?_
              refine go_iload_n dX12_carryAll_156 rfl ?_
              refine go_aload_n dX12_carryAll_157 rfl ?_
              refine go_aload_n dX12_carryAll_158 rfl ?_
              refine go_get dX12_carryAll_159 fl_X12_25_12 mo_obj hq (by omega) rfl ?_
              refine go_iload_n dX12_carryAll_162 rfl ?_
              refine go_iald dX12_carryAll_163 (mo_arr 6 (by decide)) (by omega) (by omega) (vp_in_nI (n := l) (by show l < 5; omega) (by decide)) ?_
              refine go_tp (z := A2 6 l) (by rw [nI_clamp (by omega)]; rfl) ?_
              refine go_V [.int (A2 6 l)] [.int (nI l), .ref (q + 6)] dX12_carryAll_164 vl_X12_202 ⟨by decide, by decide⟩ (e_X12_carry_17F (F := (upd F2 27 (nI (35 + 3 * l + 1)))) (A := (upA A2 5 l (A2 17 (35 + 3 * l)))) (L := L) hq hn (i := 35 + 3 * l + 1) (by omega) (by first | rfl | exact h28 | (simp [upd]; done) | (simp [upd, h28]; done)) rfl) mo_obj hq (by omega) rfl rfl (Nat.le_of_ble_eq_true rfl) (Nat.le_of_ble_eq_true rfl) (Nat.le_of_ble_eq_true rfl) (fun r164 f164 n164 h164 => ?_)
              obtain ⟨rfl, rfl, hn164⟩ := h164
              subst n164
              refine go_tp (z := A2 17 (35 + 3 * l + 1)) rfl ?_
              refine go_iast dX12_carryAll_167 (mo_arr 6 (by decide)) (by omega) (by omega) (vp_in_nI (n := l) (by show l < 5; omega) (by decide)) ?_
              refine go_mem (mo_setA 6 (by decide) _ _) ?_
              rw [nI_clamp (by omega)]
              refine go_aload_n dX12_carryAll_168 rfl ?_
              refine go_get dX12_carryAll_169 fl_X12_28_12 mo_obj hq (by omega) rfl ?_
              refine go_iload_n dX12_carryAll_172 rfl ?_
              refine go_aload_n dX12_carryAll_173 rfl ?_
              refine go_aload_n dX12_carryAll_174 rfl ?_
              refine go_get dX12_carryAll_175 fl_X12_28_12 mo_obj hq (by omega) rfl ?_
              refine go_iload_n dX12_carryAll_178 rfl ?_
              refine go_iald dX12_carryAll_179 (mo_arr 7 (by decide)) (by omega) (by omega) (vp_in_nI (n := l) (by show l < 5; omega) (by decide)) ?_
              refine go_tp (z := A2 7 l) (by rw [nI_clamp (by omega)]; rfl) ?_
              refine go_V [.int (A2 7 l)] [.int (nI l), .ref (q + 7)] dX12_carryAll_180 vl_X12_202 ⟨by decide, by decide⟩ (e_X12_carry_17F (F := (upd (upd F2 27 (nI (35 + 3 * l + 1))) 27 (nI (35 + 3 * l + 1 + 1)))) (A := (upA (upA A2 5 l (A2 17 (35 + 3 * l))) 6 l (A2 17 (35 + 3 * l + 1)))) (L := L) hq hn (i := 35 + 3 * l + 1 + 1) (by omega) (by first | rfl | exact h28 | (simp [upd]; done) | (simp [upd, h28]; done)) rfl) mo_obj hq (by omega) rfl rfl (Nat.le_of_ble_eq_true rfl) (Nat.le_of_ble_eq_true rfl) (Nat.le_of_ble_eq_true rfl) (fun r180 f180 n180 h180 => ?_)
              obtain ⟨rfl, rfl, hn180⟩ := h180
              subst n180
              refine go_tp (z := A2 17 (35 + 3 * l + 1 + 1)) rfl ?_
              refine go_iast dX12_carryAll_183 (mo_arr 7 (by decide)) (by omega) (by omega) (vp_in_nI (n := l) (by show l < 5; omega) (by decide)) ?_
              refine go_mem (mo_setA 7 (by decide) _ _) ?_
              rw [nI_clamp (by omega)]
              refine go_iinc (v := nI (l + 1)) (ls' := [some (.ref q), none, none, some (.int (nI (l + 1)))]) dX12_carryAll_184 rfl (nI_1 (l)) ⟨by decide, rfl, rfl⟩ ?_
              refine go_goto dX12_carryAll_187 ?_
              exact ih_lp1 (l + 1) (upd (upd (upd F2 27 (nI (35 + 3 * l + 1))) 27 (nI (35 + 3 * l + 1 + 1))) 27 (nI (35 + 3 * l + 1 + 1 + 1))) (upA (upA (upA A2 5 l (A2 17 (35 + 3 * l))) 6 l (A2 17 (35 + 3 * l + 1))) 7 l (A2 17 (35 + 3 * l + 1 + 1))) (by omega) (by omega) (fun k z0 z5 z9 h1 h2 => by rw [← hF k z0 z5 z9 h1 h2]; simp [upd, h1]) (by simp [upd, hf0]) (by simp [upd, hf5]) (by simp [upd, hf9]) (by simp [upd, h28]) rfl (cgB_s (by omega) hg)
        obtain rfl : p = 8 := by omega
        exact lp1 6 0 _ _ (by omega) (by omega) hF hf0 hf5 hf9 h28 h27 (cgB_0 hg)
      · have c56n := mt (nI_leI (a := 8) (b := p) (by omega) (by omega)).mpr c56
        have c56n := Nat.lt_of_not_le c56n
        have c56 := Int32.not_le.mp c56
        refine go_aload_n dX12_carryAll_59 rfl ?_
        refine go_get dX12_carryAll_60 fl_X12_7_12 mo_obj hq (by omega) rfl ?_
        refine go_iload_n dX12_carryAll_63 rfl ?_
        refine go_aload_n dX12_carryAll_64 rfl ?_
        refine go_aload_n dX12_carryAll_65 rfl ?_
        refine go_get dX12_carryAll_66 fl_X12_7_12 mo_obj hq (by omega) rfl ?_
        refine go_iload_n dX12_carryAll_69 rfl ?_
        refine go_iald dX12_carryAll_70 (mo_arr 1 (by decide)) (by omega) (by omega) (vp_in_nI (n := p) (by show p < 8; omega) (by decide)) ?_
        refine go_tp (z := A1 1 p) (by rw [nI_clamp (by omega)]) ?_
        refine go_V [.int (A1 1 p)] [.int (nI p), .ref (q + 1)] dX12_carryAll_71 vl_X12_202 ⟨by decide, by decide⟩ (e_X12_carry_17F (F := F1) (A := A1) (L := L) hq hn (i := 3 + 4 * p) (by omega) (by first | rfl | exact h28 | (simp [upd]; done) | (simp [upd, h28]; done)) h27) mo_obj hq (by omega) rfl rfl (Nat.le_of_ble_eq_true rfl) (Nat.le_of_ble_eq_true rfl) (Nat.le_of_ble_eq_true rfl) (fun r71 f71 n71 h71 => ?_)
        obtain ⟨rfl, rfl, hn71⟩ := h71
        subst n71
        refine go_iast dX12_carryAll_74 (mo_arr 1 (by decide)) (by omega) (by omega) (vp_in_nI (n := p) (by show p < 8; omega) (by decide)) ?_
        refine go_mem (mo_setA 1 (by decide) _ _) ?_
        rw [nI_clamp (by omega)]
        refine go_aload_n dX12_carryAll_75 rfl ?_
        refine go_get dX12_carryAll_76 fl_X12_13_12 mo_obj hq (by omega) rfl ?_
        refine go_iload_n dX12_carryAll_79 rfl ?_
        refine go_aload_n dX12_carryAll_80 rfl ?_
        refine go_aload_n dX12_carryAll_81 rfl ?_
        refine go_get dX12_carryAll_82 fl_X12_13_12 mo_obj hq (by omega) rfl ?_
        refine go_iload_n dX12_carryAll_85 rfl ?_
        refine go_iald dX12_carryAll_86 (mo_arr 2 (by decide)) (by omega) (by omega) (vp_in_nI (n := p) (by show p < 8; omega) (by decide)) ?_
        refine go_tp (z := A1 2 p) (by rw [nI_clamp (by omega)]; rfl) ?_
        refine go_V [.int (A1 2 p)] [.int (nI p), .ref (q + 2)] dX12_carryAll_87 vl_X12_202 ⟨by decide, by decide⟩ (e_X12_carry_17F (F := (upd F1 27 (nI (3 + 4 * p + 1)))) (A := (upA A1 1 p (A1 17 (3 + 4 * p)))) (L := L) hq hn (i := 3 + 4 * p + 1) (by omega) (by first | rfl | exact h28 | (simp [upd]; done) | (simp [upd, h28]; done)) rfl) mo_obj hq (by omega) rfl rfl (Nat.le_of_ble_eq_true rfl) (Nat.le_of_ble_eq_true rfl) (Nat.le_of_ble_eq_true rfl) (fun r87 f87 n87 h87 => ?_)
        obtain ⟨rfl, rfl, hn87⟩ := h87
        subst n87
        refine go_tp (z := A1 17 (3 + 4 * p + 1)) rfl ?_
        refine go_iast dX12_carryAll_90 (mo_arr 2 (by decide)) (by omega) (by omega) (vp_in_nI (n := p) (by show p < 8; omega) (by decide)) ?_
        refine go_mem (mo_setA 2 (by decide) _ _) ?_
        rw [nI_clamp (by omega)]
        refine go_aload_n dX12_carryAll_91 rfl ?_
        refine go_get dX12_carryAll_92 fl_X12_16_12 mo_obj hq (by omega) rfl ?_
        refine go_iload_n dX12_carryAll_95 rfl ?_
        refine go_aload_n dX12_carryAll_96 rfl ?_
        refine go_aload_n dX12_carryAll_97 rfl ?_
        refine go_get dX12_carryAll_98 fl_X12_16_12 mo_obj hq (by omega) rfl ?_
        refine go_iload_n dX12_carryAll_101 rfl ?_
        refine go_iald dX12_carryAll_102 (mo_arr 3 (by decide)) (by omega) (by omega) (vp_in_nI (n := p) (by show p < 8; omega) (by decide)) ?_
        refine go_tp (z := A1 3 p) (by rw [nI_clamp (by omega)]; rfl) ?_
        refine go_V [.int (A1 3 p)] [.int (nI p), .ref (q + 3)] dX12_carryAll_103 vl_X12_202 ⟨by decide, by decide⟩ (e_X12_carry_17F (F := (upd (upd F1 27 (nI (3 + 4 * p + 1))) 27 (nI (3 + 4 * p + 1 + 1)))) (A := (upA (upA A1 1 p (A1 17 (3 + 4 * p))) 2 p (A1 17 (3 + 4 * p + 1)))) (L := L) hq hn (i := 3 + 4 * p + 1 + 1) (by omega) (by first | rfl | exact h28 | (simp [upd]; done) | (simp [upd, h28]; done)) rfl) mo_obj hq (by omega) rfl rfl (Nat.le_of_ble_eq_true rfl) (Nat.le_of_ble_eq_true rfl) (Nat.le_of_ble_eq_true rfl) (fun r103 f103 n103 h103 => ?_)
        obtain ⟨rfl, rfl, hn103⟩ := h103
        subst n103
        refine go_tp (z := A1 17 (3 + 4 * p + 1 + 1)) rfl ?_
        refine go_iast dX12_carryAll_106 (mo_arr 3 (by decide)) (by omega) (by omega) (vp_in_nI (n := p) (by show p < 8; omega) (by decide)) ?_
        refine go_mem (mo_setA 3 (by decide) _ _) ?_
        rw [nI_clamp (by omega)]
        refine go_aload_n dX12_carryAll_107 rfl ?_
        refine go_get dX12_carryAll_108 fl_X12_19_12 mo_obj hq (by omega) rfl ?_
        refine go_iload_n dX12_carryAll_111 rfl ?_
        refine go_aload_n dX12_carryAll_112 rfl ?_
        refine go_aload_n dX12_carryAll_113 rfl ?_
        refine go_get dX12_carryAll_114 fl_X12_19_12 mo_obj hq (by omega) rfl ?_
        refine go_iload_n dX12_carryAll_117 rfl ?_
        refine go_iald dX12_carryAll_118 (mo_arr 4 (by decide)) (by omega) (by omega) (vp_in_nI (n := p) (by show p < 8; omega) (by decide)) ?_
        refine go_tp (z := A1 4 p) (by rw [nI_clamp (by omega)]; rfl) ?_
        refine go_V [.int (A1 4 p)] [.int (nI p), .ref (q + 4)] dX12_carryAll_119 vl_X12_202 ⟨by decide, by decide⟩ (e_X12_carry_17F (F := (upd (upd (upd F1 27 (nI (3 + 4 * p + 1))) 27 (nI (3 + 4 * p + 1 + 1))) 27 (nI (3 + 4 * p + 1 + 1 + 1)))) (A := (upA (upA (upA A1 1 p (A1 17 (3 + 4 * p))) 2 p (A1 17 (3 + 4 * p + 1))) 3 p (A1 17 (3 + 4 * p + 1 + 1)))) (L := L) hq hn (i := 3 + 4 * p + 1 + 1 + 1) (by omega) (by first | rfl | exact h28 | (simp [upd]; done) | (simp [upd, h28]; done)) rfl) mo_obj hq (by omega) rfl rfl (Nat.le_of_ble_eq_true rfl) (Nat.le_of_ble_eq_true rfl) (Nat.le_of_ble_eq_true rfl) (fun r119 f119 n119 h119 => ?_)
        obtain ⟨rfl, rfl, hn119⟩ := h119
        subst n119
        refine go_tp (z := A1 17 (3 + 4 * p + 1 + 1 + 1)) rfl ?_
        refine go_iast dX12_carryAll_122 (mo_arr 4 (by decide)) (by omega) (by omega) (vp_in_nI (n := p) (by show p < 8; omega) (by decide)) ?_
        refine go_mem (mo_setA 4 (by decide) _ _) ?_
        rw [nI_clamp (by omega)]
        refine go_iinc (v := nI (p + 1)) (ls' := [some (.ref q), none, none, some (.int (nI (p + 1)))]) dX12_carryAll_123 rfl (nI_1 (p)) ⟨by decide, rfl, rfl⟩ ?_
        refine go_goto dX12_carryAll_126 ?_
        exact ih_lp0 (p + 1) (upd (upd (upd (upd F1 27 (nI (3 + 4 * p + 1))) 27 (nI (3 + 4 * p + 1 + 1))) 27 (nI (3 + 4 * p + 1 + 1 + 1))) 27 (nI (3 + 4 * p + 1 + 1 + 1 + 1))) (upA (upA (upA (upA A1 1 p (A1 17 (3 + 4 * p))) 2 p (A1 17 (3 + 4 * p + 1))) 3 p (A1 17 (3 + 4 * p + 1 + 1))) 4 p (A1 17 (3 + 4 * p + 1 + 1 + 1))) (by omega) (by omega) (fun k z0 z5 z9 h1 h2 => by rw [← hF k z0 z5 z9 h1 h2]; simp [upd, h1]) (by simp [upd, hf0]) (by simp [upd, hf5]) (by simp [upd, hf9]) (by simp [upd, h28]) rfl (cgA_s (by omega) hg)
  refine go_weak (ls' := [some (.ref q), none, none, some (.int 0)]) ⟨rfl, rfl, trivial⟩ ?_
  exact lp0 9 0 (upd (upd (upd (upd (upd (upd (upd (upd F 28 (0)) 27 (0)) 27 (nI (0 + 1))) 0 (A 17 0)) 27 (nI (0 + 1 + 1))) 5 (A 17 (0 + 1))) 27 (nI (0 + 1 + 1 + 1))) 9 (A 17 (0 + 1 + 1))) A (by omega) (by omega) (fun k z0 z5 z9 h1 h2 => by simp [upd, z0, z5, z9, h1, h2]) rfl rfl rfl rfl rfl cgA_0
set_option maxHeartbeats 4000000 in
set_option maxRecDepth 100000 in
theorem e_X12_carryAll_18T (hq : G.2.1 ≤ q) (hn : q + 25 ≤ n) : Ev G mX12_carryAll 2 0 0 [.ref q, .ref (q + 18), .int 1] (mo G m0 q F A L K) n (fun r f1 n1 => r = none ∧ (∃ F' A', opR 18 F A F' A' ∧ f1 = mo G m0 q F' A' L (some (q + 18))) ∧ n1 = n) := by
  generalize hQ9 : (fun r f1 n1 => r = none ∧ (∃ F' A', opR 18 F A F' A' ∧ f1 = mo G m0 q F' A' L (some (q + 18))) ∧ n1 = n : RQ) = Q9
  refine ev_of (by decide) (Nat.le_of_ble_eq_true rfl) (ls := [some (.ref q), some (.ref (q + 18)), some (.int 1), none]) rfl (fun hb => ?_)
  refine go_aload_n dX12_carryAll_0 rfl ?_
  refine go_aload_n dX12_carryAll_1 rfl ?_
  refine go_put dX12_carryAll_2 fp_X12_196_12 (Or.inr (fun _ _ _ h => by cases h; rfl)) mo_obj hq (by omega) (rfl) rfl (Nat.le_of_ble_eq_true rfl) ?_
  refine go_mem (mo_setO (F' := F) (K' := (some (q + 18))) rfl) ?_
  refine go_aload_n dX12_carryAll_5 rfl ?_
  refine go_iload_n dX12_carryAll_6 rfl ?_
  refine go_put dX12_carryAll_7 fp_X12_193_12 (Or.inr (fun _ _ _ h => by cases h; rfl)) mo_obj hq (by omega) (rfl) rfl (Nat.le_of_ble_eq_true rfl) ?_
  refine go_mem (mo_setO (F' := (upd F 28 (1))) (K' := (some (q + 18))) rfl) ?_
  refine go_aload_n dX12_carryAll_10 rfl ?_
  refine go_iconst (v := 0) dX12_carryAll_11 rfl ?_
  refine go_put dX12_carryAll_12 fp_X12_199_12 (Or.inr (fun _ _ _ h => by cases h; rfl)) mo_obj hq (by omega) (rfl) rfl (Nat.le_of_ble_eq_true rfl) ?_
  refine go_mem (mo_setO (F' := (upd (upd F 28 (1)) 27 (0))) (K' := (some (q + 18))) rfl) ?_
  refine go_aload_n dX12_carryAll_15 rfl ?_
  refine go_aload_n dX12_carryAll_16 rfl ?_
  refine go_aload_n dX12_carryAll_17 rfl ?_
  refine go_get dX12_carryAll_18 fl_X12_87_12 mo_obj hq (by omega) rfl ?_
  refine go_tp (z := F 0) (rfl) ?_
  refine go_V [.int (F 0)] [.ref q] dX12_carryAll_21 vl_X12_202 ⟨by decide, by decide⟩ (e_X12_carry_18T (F := (upd (upd F 28 (1)) 27 (0))) (A := A) (L := L) hq hn (i := 0) (by omega) (by first | rfl | exact h28 | (simp [upd]; done) | (simp [upd, h28]; done)) rfl) mo_obj hq (by omega) rfl rfl (Nat.le_of_ble_eq_true rfl) (Nat.le_of_ble_eq_true rfl) (Nat.le_of_ble_eq_true rfl) (fun r21 f21 n21 h21 => ?_)
  obtain ⟨rfl, rfl, hn21⟩ := h21
  subst n21
  refine go_put dX12_carryAll_24 fp_X12_87_12 (Or.inr (fun _ _ _ h => by cases h; rfl)) mo_obj hq (by omega) (rfl) rfl (Nat.le_of_ble_eq_true rfl) ?_
  refine go_mem (mo_setO (F' := (upd (upd (upd (upd F 28 (1)) 27 (0)) 27 (nI (0 + 1))) 0 (F 0))) (K' := (some (q + 18))) rfl) ?_
  refine go_aload_n dX12_carryAll_27 rfl ?_
  refine go_aload_n dX12_carryAll_28 rfl ?_
  refine go_aload_n dX12_carryAll_29 rfl ?_
  refine go_get dX12_carryAll_30 fl_X12_94_12 mo_obj hq (by omega) rfl ?_
  refine go_tp (z := F 5) (rfl) ?_
  refine go_V [.int (F 5)] [.ref q] dX12_carryAll_33 vl_X12_202 ⟨by decide, by decide⟩ (e_X12_carry_18T (F := (upd (upd (upd (upd F 28 (1)) 27 (0)) 27 (nI (0 + 1))) 0 (F 0))) (A := (upA A 18 0 (F 0))) (L := L) hq hn (i := 0 + 1) (by omega) (by first | rfl | exact h28 | (simp [upd]; done) | (simp [upd, h28]; done)) rfl) mo_obj hq (by omega) rfl rfl (Nat.le_of_ble_eq_true rfl) (Nat.le_of_ble_eq_true rfl) (Nat.le_of_ble_eq_true rfl) (fun r33 f33 n33 h33 => ?_)
  obtain ⟨rfl, rfl, hn33⟩ := h33
  subst n33
  refine go_put dX12_carryAll_36 fp_X12_94_12 (Or.inr (fun _ _ _ h => by cases h; rfl)) mo_obj hq (by omega) (rfl) rfl (Nat.le_of_ble_eq_true rfl) ?_
  refine go_mem (mo_setO (F' := (upd (upd (upd (upd (upd (upd F 28 (1)) 27 (0)) 27 (nI (0 + 1))) 0 (F 0)) 27 (nI (0 + 1 + 1))) 5 (F 5))) (K' := (some (q + 18))) rfl) ?_
  refine go_aload_n dX12_carryAll_39 rfl ?_
  refine go_aload_n dX12_carryAll_40 rfl ?_
  refine go_aload_n dX12_carryAll_41 rfl ?_
  refine go_get dX12_carryAll_42 fl_X12_154_12 mo_obj hq (by omega) rfl ?_
  refine go_tp (z := F 9) (rfl) ?_
  refine go_V [.int (F 9)] [.ref q] dX12_carryAll_45 vl_X12_202 ⟨by decide, by decide⟩ (e_X12_carry_18T (F := (upd (upd (upd (upd (upd (upd F 28 (1)) 27 (0)) 27 (nI (0 + 1))) 0 (F 0)) 27 (nI (0 + 1 + 1))) 5 (F 5))) (A := (upA (upA A 18 0 (F 0)) 18 (0 + 1) (F 5))) (L := L) hq hn (i := 0 + 1 + 1) (by omega) (by first | rfl | exact h28 | (simp [upd]; done) | (simp [upd, h28]; done)) rfl) mo_obj hq (by omega) rfl rfl (Nat.le_of_ble_eq_true rfl) (Nat.le_of_ble_eq_true rfl) (Nat.le_of_ble_eq_true rfl) (fun r45 f45 n45 h45 => ?_)
  obtain ⟨rfl, rfl, hn45⟩ := h45
  subst n45
  refine go_put dX12_carryAll_48 fp_X12_154_12 (Or.inr (fun _ _ _ h => by cases h; rfl)) mo_obj hq (by omega) (rfl) rfl (Nat.le_of_ble_eq_true rfl) ?_
  refine go_mem (mo_setO (F' := (upd (upd (upd (upd (upd (upd (upd (upd F 28 (1)) 27 (0)) 27 (nI (0 + 1))) 0 (F 0)) 27 (nI (0 + 1 + 1))) 5 (F 5)) 27 (nI (0 + 1 + 1 + 1))) 9 (F 9))) (K' := (some (q + 18))) rfl) ?_
  refine go_iconst (v := 0) dX12_carryAll_51 rfl ?_
  refine go_istore_n (ls' := [some (.ref q), some (.ref (q + 18)), some (.int 1), some (.int 0)]) dX12_carryAll_52 ⟨by decide, rfl, rfl⟩ ?_
  have lp0 : ∀ (μ_lp0 : Nat) (p : Nat) (F1 : Nat → Int32) (A1 : Nat → Nat → Int32) (hp : p ≤ 8) (hmp : 9 ≤ p + μ_lp0) (hF : ∀ k, k ≠ 27 → k ≠ 28 → F1 k = F k) (h28 : F1 28 = 1) (h27 : F1 27 = nI (3 + 4 * p)) (hA : ∀ r, r ≠ 18 → A1 r = A r) (hJ : ∀ i, i < 3 + 4 * p → A1 18 i = pkS F A i), Go G mX12_carryAll 2 0 0 Q9 0 0 53 [some (.ref q), none, none, some (.int (nI p))] [] (mo G m0 q F1 A1 L (some (q + 18))) n := by
    intro μ_lp0
    induction μ_lp0 with
    | zero =>
      intro p F1 A1 hp hmp hF h28 h27 hA hJ
      exact absurd hmp (by omega)
    | succ μ_lp0 ih_lp0 =>
      intro p F1 A1 hp hmp hF h28 h27 hA hJ
      refine go_iload_n dX12_carryAll_53 rfl ?_
      refine go_bipush (v := 8) dX12_carryAll_54 rfl ?_
      refine go_icmp_ge dX12_carryAll_56 (fun c56 => ?_) (fun c56 => ?_)
      · have c56n := (nI_leI (a := 8) (b := p) (by omega) (by omega)).mp c56
        have c56n := Nat.not_lt.mpr c56n
        have c56 := Int32.not_lt.mpr c56
        refine go_iconst (v := 0) dX12_carryAll_129 rfl ?_
        refine go_istore_n (ls' := [some (.ref q), none, none, some (.int 0)]) dX12_carryAll_130 ⟨by decide, rfl, rfl⟩ ?_
        have lp1 : ∀ (μ_lp1 : Nat) (l : Nat) (F2 : Nat → Int32) (A2 : Nat → Nat → Int32) (hl : l ≤ 5) (hml : 6 ≤ l + μ_lp1) (hF : ∀ k, k ≠ 27 → k ≠ 28 → F2 k = F k) (h28 : F2 28 = 1) (h27 : F2 27 = nI (35 + 3 * l)) (hA : ∀ r, r ≠ 18 → A2 r = A r) (hJ : ∀ i, i < 35 + 3 * l → A2 18 i = pkS F A i), Go G mX12_carryAll 2 0 0 Q9 0 0 131 [some (.ref q), none, none, some (.int (nI l))] [] (mo G m0 q F2 A2 L (some (q + 18))) n := by
          intro μ_lp1
          induction μ_lp1 with
          | zero =>
            intro l F2 A2 hl hml hF h28 h27 hA hJ
            exact absurd hml (by omega)
          | succ μ_lp1 ih_lp1 =>
            intro l F2 A2 hl hml hF h28 h27 hA hJ
            refine go_iload_n dX12_carryAll_131 rfl ?_
            refine go_iconst (v := 5) dX12_carryAll_132 rfl ?_
            refine go_icmp_ge dX12_carryAll_133 (fun c133 => ?_) (fun c133 => ?_)
            · have c133n := (nI_leI (a := 5) (b := l) (by omega) (by omega)).mp c133
              have c133n := Nat.not_lt.mpr c133n
              have c133 := Int32.not_lt.mpr c133
              exact go_vret dX12_carryAll_190 rfl (Nat.le_of_ble_eq_true rfl) (Nat.le_of_ble_eq_true rfl) (hQ9 ▸ ⟨rfl, ⟨_, _, ⟨hF, hA, fun i hi => hJ i (by omega)⟩, rfl⟩, rfl⟩)
            · have c133n := mt (nI_leI (a := 5) (b := l) (by omega) (by omega)).mpr c133
              have c133n := Nat.lt_of_not_le c133n
              have c133 := Int32.not_le.mp c133
              refine go_aload_n dX12_carryAll_136 rfl ?_
              refine go_get dX12_carryAll_137 fl_X12_22_12 mo_obj hq (by omega) rfl ?_
              refine go_iload_n dX12_carryAll_140 rfl ?_
              refine go_aload_n dX12_carryAll_141 rfl ?_
              refine go_aload_n dX12_carryAll_142 rfl ?_
              refine go_get dX12_carryAll_143 fl_X12_22_12 mo_obj hq (by omega) rfl ?_
              refine go_iload_n dX12_carryAll_146 rfl ?_
              refine go_iald dX12_carryAll_147 (mo_arr 5 (by decide)) (by omega) (by omega) (vp_in_nI (n := l) (by show l < 5; omega) (by decide)) ?_
              refine go_tp (z := A2 5 l) (by rw [nI_clamp (by omega)]) ?_
              refine go_V [.int (A2 5 l)] [.int (nI l), .ref (q + 5)] dX12_carryAll_148 vl_X12_202 ⟨by decide, by decide⟩ (e_X12_carry_18T (F := F2) (A := A2) (L := L) hq hn (i := 35 + 3 * l) (by omega) (by first | rfl | exact h28 | (simp [upd]; done) | (simp [upd, h28]; done)) h27) mo_obj hq (by omega) rfl rfl (Nat.le_of_ble_eq_true rfl) (Nat.le_of_ble_eq_true rfl) (Nat.le_of_ble_eq_true rfl) (fun r148 f148 n148 h148 => ?_)
              obtain ⟨rfl, rfl, hn148⟩ := h148
              subst n148
              refine go_iast dX12_carryAll_151 (mo_arr 5 (by decide)) (by omega) (by omega) (vp_in_nI (n := l) (by show l < 5; omega) (by decide)) ?_
              refine go_mem (mo_setA 5 (by decide) _ _) ?_
              rw [nI_clamp (by omega)]
              refine go_mem (f' := (mo G m0 q (upd F2 27 (nI (35 + 3 * l + 1))) (tkA 18 5 l (35 + 3 * l) A2) L (some (q + 18)))) rfl ?_
              refine go_aload_n dX12_carryAll_152 rfl ?_
              refine go_get dX12_carryAll_153 fl_X12_25_12 mo_obj hq (by omega) rfl ?_
              refine go_iload_n dX12_carryAll_156 rfl ?_
              refine go_aload_n dX12_carryAll_157 rfl ?_
              refine go_aload_n dX12_carryAll_158 rfl ?_
              refine go_get dX12_carryAll_159 fl_X12_25_12 mo_obj hq (by omega) rfl ?_
              refine go_iload_n dX12_carryAll_162 rfl ?_
              refine go_iald dX12_carryAll_163 (mo_arr 6 (by decide)) (by omega) (by omega) (vp_in_nI (n := l) (by show l < 5; omega) (by decide)) ?_
              refine go_tp (z := (tkA 18 5 l (35 + 3 * l) A2) 6 l) (by rw [nI_clamp (by omega)]) ?_
              refine go_V [.int ((tkA 18 5 l (35 + 3 * l) A2) 6 l)] [.int (nI l), .ref (q + 6)] dX12_carryAll_164 vl_X12_202 ⟨by decide, by decide⟩ (e_X12_carry_18T (F := (upd F2 27 (nI (35 + 3 * l + 1)))) (A := (tkA 18 5 l (35 + 3 * l) A2)) (L := L) hq hn (i := 35 + 3 * l + 1) (by omega) (by first | rfl | exact h28 | (simp [upd]; done) | (simp [upd, h28]; done)) rfl) mo_obj hq (by omega) rfl rfl (Nat.le_of_ble_eq_true rfl) (Nat.le_of_ble_eq_true rfl) (Nat.le_of_ble_eq_true rfl) (fun r164 f164 n164 h164 => ?_)
              obtain ⟨rfl, rfl, hn164⟩ := h164
              subst n164
              refine go_iast dX12_carryAll_167 (mo_arr 6 (by decide)) (by omega) (by omega) (vp_in_nI (n := l) (by show l < 5; omega) (by decide)) ?_
              refine go_mem (mo_setA 6 (by decide) _ _) ?_
              rw [nI_clamp (by omega)]
              refine go_mem (f' := (mo G m0 q (upd (upd F2 27 (nI (35 + 3 * l + 1))) 27 (nI (35 + 3 * l + 1 + 1))) (tkA 18 6 l (35 + 3 * l + 1) (tkA 18 5 l (35 + 3 * l) A2)) L (some (q + 18)))) rfl ?_
              refine go_aload_n dX12_carryAll_168 rfl ?_
              refine go_get dX12_carryAll_169 fl_X12_28_12 mo_obj hq (by omega) rfl ?_
              refine go_iload_n dX12_carryAll_172 rfl ?_
              refine go_aload_n dX12_carryAll_173 rfl ?_
              refine go_aload_n dX12_carryAll_174 rfl ?_
              refine go_get dX12_carryAll_175 fl_X12_28_12 mo_obj hq (by omega) rfl ?_
              refine go_iload_n dX12_carryAll_178 rfl ?_
              refine go_iald dX12_carryAll_179 (mo_arr 7 (by decide)) (by omega) (by omega) (vp_in_nI (n := l) (by show l < 5; omega) (by decide)) ?_
              refine go_tp (z := (tkA 18 6 l (35 + 3 * l + 1) (tkA 18 5 l (35 + 3 * l) A2)) 7 l) (by rw [nI_clamp (by omega)]) ?_
              refine go_V [.int ((tkA 18 6 l (35 + 3 * l + 1) (tkA 18 5 l (35 + 3 * l) A2)) 7 l)] [.int (nI l), .ref (q + 7)] dX12_carryAll_180 vl_X12_202 ⟨by decide, by decide⟩ (e_X12_carry_18T (F := (upd (upd F2 27 (nI (35 + 3 * l + 1))) 27 (nI (35 + 3 * l + 1 + 1)))) (A := (tkA 18 6 l (35 + 3 * l + 1) (tkA 18 5 l (35 + 3 * l) A2))) (L := L) hq hn (i := 35 + 3 * l + 1 + 1) (by omega) (by first | rfl | exact h28 | (simp [upd]; done) | (simp [upd, h28]; done)) rfl) mo_obj hq (by omega) rfl rfl (Nat.le_of_ble_eq_true rfl) (Nat.le_of_ble_eq_true rfl) (Nat.le_of_ble_eq_true rfl) (fun r180 f180 n180 h180 => ?_)
              obtain ⟨rfl, rfl, hn180⟩ := h180
              subst n180
              refine go_iast dX12_carryAll_183 (mo_arr 7 (by decide)) (by omega) (by omega) (vp_in_nI (n := l) (by show l < 5; omega) (by decide)) ?_
              refine go_mem (mo_setA 7 (by decide) _ _) ?_
              rw [nI_clamp (by omega)]
              refine go_mem (f' := (mo G m0 q (upd (upd (upd F2 27 (nI (35 + 3 * l + 1))) 27 (nI (35 + 3 * l + 1 + 1))) 27 (nI (35 + 3 * l + 1 + 1 + 1))) (tkA 18 7 l (35 + 3 * l + 1 + 1) (tkA 18 6 l (35 + 3 * l + 1) (tkA 18 5 l (35 + 3 * l) A2))) L (some (q + 18)))) rfl ?_
              refine go_iinc (v := nI (l + 1)) (ls' := [some (.ref q), none, none, some (.int (nI (l + 1)))]) dX12_carryAll_184 rfl (nI_1 (l)) ⟨by decide, rfl, rfl⟩ ?_
              refine go_goto dX12_carryAll_187 ?_
              have ht := tk3 (F := F) (by omega) hA hJ
              exact ih_lp1 (l + 1) (upd (upd (upd F2 27 (nI (35 + 3 * l + 1))) 27 (nI (35 + 3 * l + 1 + 1))) 27 (nI (35 + 3 * l + 1 + 1 + 1))) (tkA 18 7 l (35 + 3 * l + 1 + 1) (tkA 18 6 l (35 + 3 * l + 1) (tkA 18 5 l (35 + 3 * l) A2))) (by omega) (by omega) (fun k h1 h2 => by rw [← hF k h1 h2]; simp [upd, h1]) (by simp [upd, h28]) rfl ht.1 ht.2
        obtain rfl : p = 8 := by omega
        exact lp1 6 0 _ _ (by omega) (by omega) hF h28 h27 hA hJ
      · have c56n := mt (nI_leI (a := 8) (b := p) (by omega) (by omega)).mpr c56
        have c56n := Nat.lt_of_not_le c56n
        have c56 := Int32.not_le.mp c56
        refine go_aload_n dX12_carryAll_59 rfl ?_
        refine go_get dX12_carryAll_60 fl_X12_7_12 mo_obj hq (by omega) rfl ?_
        refine go_iload_n dX12_carryAll_63 rfl ?_
        refine go_aload_n dX12_carryAll_64 rfl ?_
        refine go_aload_n dX12_carryAll_65 rfl ?_
        refine go_get dX12_carryAll_66 fl_X12_7_12 mo_obj hq (by omega) rfl ?_
        refine go_iload_n dX12_carryAll_69 rfl ?_
        refine go_iald dX12_carryAll_70 (mo_arr 1 (by decide)) (by omega) (by omega) (vp_in_nI (n := p) (by show p < 8; omega) (by decide)) ?_
        refine go_tp (z := A1 1 p) (by rw [nI_clamp (by omega)]) ?_
        refine go_V [.int (A1 1 p)] [.int (nI p), .ref (q + 1)] dX12_carryAll_71 vl_X12_202 ⟨by decide, by decide⟩ (e_X12_carry_18T (F := F1) (A := A1) (L := L) hq hn (i := 3 + 4 * p) (by omega) (by first | rfl | exact h28 | (simp [upd]; done) | (simp [upd, h28]; done)) h27) mo_obj hq (by omega) rfl rfl (Nat.le_of_ble_eq_true rfl) (Nat.le_of_ble_eq_true rfl) (Nat.le_of_ble_eq_true rfl) (fun r71 f71 n71 h71 => ?_)
        obtain ⟨rfl, rfl, hn71⟩ := h71
        subst n71
        refine go_iast dX12_carryAll_74 (mo_arr 1 (by decide)) (by omega) (by omega) (vp_in_nI (n := p) (by show p < 8; omega) (by decide)) ?_
        refine go_mem (mo_setA 1 (by decide) _ _) ?_
        rw [nI_clamp (by omega)]
        refine go_mem (f' := (mo G m0 q (upd F1 27 (nI (3 + 4 * p + 1))) (tkA 18 1 p (3 + 4 * p) A1) L (some (q + 18)))) rfl ?_
        refine go_aload_n dX12_carryAll_75 rfl ?_
        refine go_get dX12_carryAll_76 fl_X12_13_12 mo_obj hq (by omega) rfl ?_
        refine go_iload_n dX12_carryAll_79 rfl ?_
        refine go_aload_n dX12_carryAll_80 rfl ?_
        refine go_aload_n dX12_carryAll_81 rfl ?_
        refine go_get dX12_carryAll_82 fl_X12_13_12 mo_obj hq (by omega) rfl ?_
        refine go_iload_n dX12_carryAll_85 rfl ?_
        refine go_iald dX12_carryAll_86 (mo_arr 2 (by decide)) (by omega) (by omega) (vp_in_nI (n := p) (by show p < 8; omega) (by decide)) ?_
        refine go_tp (z := (tkA 18 1 p (3 + 4 * p) A1) 2 p) (by rw [nI_clamp (by omega)]) ?_
        refine go_V [.int ((tkA 18 1 p (3 + 4 * p) A1) 2 p)] [.int (nI p), .ref (q + 2)] dX12_carryAll_87 vl_X12_202 ⟨by decide, by decide⟩ (e_X12_carry_18T (F := (upd F1 27 (nI (3 + 4 * p + 1)))) (A := (tkA 18 1 p (3 + 4 * p) A1)) (L := L) hq hn (i := 3 + 4 * p + 1) (by omega) (by first | rfl | exact h28 | (simp [upd]; done) | (simp [upd, h28]; done)) rfl) mo_obj hq (by omega) rfl rfl (Nat.le_of_ble_eq_true rfl) (Nat.le_of_ble_eq_true rfl) (Nat.le_of_ble_eq_true rfl) (fun r87 f87 n87 h87 => ?_)
        obtain ⟨rfl, rfl, hn87⟩ := h87
        subst n87
        refine go_iast dX12_carryAll_90 (mo_arr 2 (by decide)) (by omega) (by omega) (vp_in_nI (n := p) (by show p < 8; omega) (by decide)) ?_
        refine go_mem (mo_setA 2 (by decide) _ _) ?_
        rw [nI_clamp (by omega)]
        refine go_mem (f' := (mo G m0 q (upd (upd F1 27 (nI (3 + 4 * p + 1))) 27 (nI (3 + 4 * p + 1 + 1))) (tkA 18 2 p (3 + 4 * p + 1) (tkA 18 1 p (3 + 4 * p) A1)) L (some (q + 18)))) rfl ?_
        refine go_aload_n dX12_carryAll_91 rfl ?_
        refine go_get dX12_carryAll_92 fl_X12_16_12 mo_obj hq (by omega) rfl ?_
        refine go_iload_n dX12_carryAll_95 rfl ?_
        refine go_aload_n dX12_carryAll_96 rfl ?_
        refine go_aload_n dX12_carryAll_97 rfl ?_
        refine go_get dX12_carryAll_98 fl_X12_16_12 mo_obj hq (by omega) rfl ?_
        refine go_iload_n dX12_carryAll_101 rfl ?_
        refine go_iald dX12_carryAll_102 (mo_arr 3 (by decide)) (by omega) (by omega) (vp_in_nI (n := p) (by show p < 8; omega) (by decide)) ?_
        refine go_tp (z := (tkA 18 2 p (3 + 4 * p + 1) (tkA 18 1 p (3 + 4 * p) A1)) 3 p) (by rw [nI_clamp (by omega)]) ?_
        refine go_V [.int ((tkA 18 2 p (3 + 4 * p + 1) (tkA 18 1 p (3 + 4 * p) A1)) 3 p)] [.int (nI p), .ref (q + 3)] dX12_carryAll_103 vl_X12_202 ⟨by decide, by decide⟩ (e_X12_carry_18T (F := (upd (upd F1 27 (nI (3 + 4 * p + 1))) 27 (nI (3 + 4 * p + 1 + 1)))) (A := (tkA 18 2 p (3 + 4 * p + 1) (tkA 18 1 p (3 + 4 * p) A1))) (L := L) hq hn (i := 3 + 4 * p + 1 + 1) (by omega) (by first | rfl | exact h28 | (simp [upd]; done) | (simp [upd, h28]; done)) rfl) mo_obj hq (by omega) rfl rfl (Nat.le_of_ble_eq_true rfl) (Nat.le_of_ble_eq_true rfl) (Nat.le_of_ble_eq_true rfl) (fun r103 f103 n103 h103 => ?_)
        obtain ⟨rfl, rfl, hn103⟩ := h103
        subst n103
        refine go_iast dX12_carryAll_106 (mo_arr 3 (by decide)) (by omega) (by omega) (vp_in_nI (n := p) (by show p < 8; omega) (by decide)) ?_
        refine go_mem (mo_setA 3 (by decide) _ _) ?_
        rw [nI_clamp (by omega)]
        refine go_mem (f' := (mo G m0 q (upd (upd (upd F1 27 (nI (3 + 4 * p + 1))) 27 (nI (3 + 4 * p + 1 + 1))) 27 (nI (3 + 4 * p + 1 + 1 + 1))) (tkA 18 3 p (3 + 4 * p + 1 + 1) (tkA 18 2 p (3 + 4 * p + 1) (tkA 18 1 p (3 + 4 * p) A1))) L (some (q + 18)))) rfl ?_
        refine go_aload_n dX12_carryAll_107 rfl ?_
        refine go_get dX12_carryAll_108 fl_X12_19_12 mo_obj hq (by omega) rfl ?_
        refine go_iload_n dX12_carryAll_111 rfl ?_
        refine go_aload_n dX12_carryAll_112 rfl ?_
        refine go_aload_n dX12_carryAll_113 rfl ?_
        refine go_get dX12_carryAll_114 fl_X12_19_12 mo_obj hq (by omega) rfl ?_
        refine go_iload_n dX12_carryAll_117 rfl ?_
        refine go_iald dX12_carryAll_118 (mo_arr 4 (by decide)) (by omega) (by omega) (vp_in_nI (n := p) (by show p < 8; omega) (by decide)) ?_
        refine go_tp (z := (tkA 18 3 p (3 + 4 * p + 1 + 1) (tkA 18 2 p (3 + 4 * p + 1) (tkA 18 1 p (3 + 4 * p) A1))) 4 p) (by rw [nI_clamp (by omega)]) ?_
        refine go_V [.int ((tkA 18 3 p (3 + 4 * p + 1 + 1) (tkA 18 2 p (3 + 4 * p + 1) (tkA 18 1 p (3 + 4 * p) A1))) 4 p)] [.int (nI p), .ref (q + 4)] dX12_carryAll_119 vl_X12_202 ⟨by decide, by decide⟩ (e_X12_carry_18T (F := (upd (upd (upd F1 27 (nI (3 + 4 * p + 1))) 27 (nI (3 + 4 * p + 1 + 1))) 27 (nI (3 + 4 * p + 1 + 1 + 1)))) (A := (tkA 18 3 p (3 + 4 * p + 1 + 1) (tkA 18 2 p (3 + 4 * p + 1) (tkA 18 1 p (3 + 4 * p) A1)))) (L := L) hq hn (i := 3 + 4 * p + 1 + 1 + 1) (by omega) (by first | rfl | exact h28 | (simp [upd]; done) | (simp [upd, h28]; done)) rfl) mo_obj hq (by omega) rfl rfl (Nat.le_of_ble_eq_true rfl) (Nat.le_of_ble_eq_true rfl) (Nat.le_of_ble_eq_true rfl) (fun r119 f119 n119 h119 => ?_)
        obtain ⟨rfl, rfl, hn119⟩ := h119
        subst n119
        refine go_iast dX12_carryAll_122 (mo_arr 4 (by decide)) (by omega) (by omega) (vp_in_nI (n := p) (by show p < 8; omega) (by decide)) ?_
        refine go_mem (mo_setA 4 (by decide) _ _) ?_
        rw [nI_clamp (by omega)]
        refine go_mem (f' := (mo G m0 q (upd (upd (upd (upd F1 27 (nI (3 + 4 * p + 1))) 27 (nI (3 + 4 * p + 1 + 1))) 27 (nI (3 + 4 * p + 1 + 1 + 1))) 27 (nI (3 + 4 * p + 1 + 1 + 1 + 1))) (tkA 18 4 p (3 + 4 * p + 1 + 1 + 1) (tkA 18 3 p (3 + 4 * p + 1 + 1) (tkA 18 2 p (3 + 4 * p + 1) (tkA 18 1 p (3 + 4 * p) A1)))) L (some (q + 18)))) rfl ?_
        refine go_iinc (v := nI (p + 1)) (ls' := [some (.ref q), none, none, some (.int (nI (p + 1)))]) dX12_carryAll_123 rfl (nI_1 (p)) ⟨by decide, rfl, rfl⟩ ?_
        refine go_goto dX12_carryAll_126 ?_
        have ht := tk4 (F := F) (by omega) (by omega) hA hJ
        exact ih_lp0 (p + 1) (upd (upd (upd (upd F1 27 (nI (3 + 4 * p + 1))) 27 (nI (3 + 4 * p + 1 + 1))) 27 (nI (3 + 4 * p + 1 + 1 + 1))) 27 (nI (3 + 4 * p + 1 + 1 + 1 + 1))) (tkA 18 4 p (3 + 4 * p + 1 + 1 + 1) (tkA 18 3 p (3 + 4 * p + 1 + 1) (tkA 18 2 p (3 + 4 * p + 1) (tkA 18 1 p (3 + 4 * p) A1)))) (by omega) (by omega) (fun k h1 h2 => by rw [← hF k h1 h2]; simp [upd, h1]) (by simp [upd, h28]) rfl ht.1 ht.2
  refine go_weak (ls' := [some (.ref q), none, none, some (.int 0)]) ⟨rfl, rfl, trivial⟩ ?_
  exact lp0 9 0 (upd (upd (upd (upd (upd (upd (upd (upd F 28 (1)) 27 (0)) 27 (nI (0 + 1))) 0 (F 0)) 27 (nI (0 + 1 + 1))) 5 (F 5)) 27 (nI (0 + 1 + 1 + 1))) 9 (F 9)) (upA (upA (upA A 18 0 (F 0)) 18 (0 + 1) (F 5)) 18 (0 + 1 + 1) (F 9)) (by omega) (by omega) (by intro k h1 h2; simp only [upd]; by_cases e0 : k = 0 <;> by_cases e5 : k = 5 <;> by_cases e9 : k = 9 <;> simp_all) rfl rfl (fun r hr => by rw [upA_n _ hr, upA_n _ hr, upA_n _ hr]) (fun i hi => by simp only [upA_s]; match i, hi with | 0, _ => rfl | 1, _ => rfl | 2, _ => rfl)
set_option maxHeartbeats 4000000 in
set_option maxRecDepth 100000 in
theorem e_X12_carryAll_18F (hq : G.2.1 ≤ q) (hn : q + 25 ≤ n) : Ev G mX12_carryAll 2 0 0 [.ref q, .ref (q + 18), .int 0] (mo G m0 q F A L K) n (fun r f1 n1 => r = none ∧ (∃ F' A', clR 18 F A F' A' ∧ f1 = mo G m0 q F' A' L (some (q + 18))) ∧ n1 = n) := by
  generalize hQ9 : (fun r f1 n1 => r = none ∧ (∃ F' A', clR 18 F A F' A' ∧ f1 = mo G m0 q F' A' L (some (q + 18))) ∧ n1 = n : RQ) = Q9
  refine ev_of (by decide) (Nat.le_of_ble_eq_true rfl) (ls := [some (.ref q), some (.ref (q + 18)), some (.int 0), none]) rfl (fun hb => ?_)
  refine go_aload_n dX12_carryAll_0 rfl ?_
  refine go_aload_n dX12_carryAll_1 rfl ?_
  refine go_put dX12_carryAll_2 fp_X12_196_12 (Or.inr (fun _ _ _ h => by cases h; rfl)) mo_obj hq (by omega) (rfl) rfl (Nat.le_of_ble_eq_true rfl) ?_
  refine go_mem (mo_setO (F' := F) (K' := (some (q + 18))) rfl) ?_
  refine go_aload_n dX12_carryAll_5 rfl ?_
  refine go_iload_n dX12_carryAll_6 rfl ?_
  refine go_put dX12_carryAll_7 fp_X12_193_12 (Or.inr (fun _ _ _ h => by cases h; rfl)) mo_obj hq (by omega) (rfl) rfl (Nat.le_of_ble_eq_true rfl) ?_
  refine go_mem (mo_setO (F' := (upd F 28 (0))) (K' := (some (q + 18))) rfl) ?_
  refine go_aload_n dX12_carryAll_10 rfl ?_
  refine go_iconst (v := 0) dX12_carryAll_11 rfl ?_
  refine go_put dX12_carryAll_12 fp_X12_199_12 (Or.inr (fun _ _ _ h => by cases h; rfl)) mo_obj hq (by omega) (rfl) rfl (Nat.le_of_ble_eq_true rfl) ?_
  refine go_mem (mo_setO (F' := (upd (upd F 28 (0)) 27 (0))) (K' := (some (q + 18))) rfl) ?_
  refine go_aload_n dX12_carryAll_15 rfl ?_
  refine go_aload_n dX12_carryAll_16 rfl ?_
  refine go_aload_n dX12_carryAll_17 rfl ?_
  refine go_get dX12_carryAll_18 fl_X12_87_12 mo_obj hq (by omega) rfl ?_
  refine go_tp (z := F 0) (rfl) ?_
  refine go_V [.int (F 0)] [.ref q] dX12_carryAll_21 vl_X12_202 ⟨by decide, by decide⟩ (e_X12_carry_18F (F := (upd (upd F 28 (0)) 27 (0))) (A := A) (L := L) hq hn (i := 0) (by omega) (by first | rfl | exact h28 | (simp [upd]; done) | (simp [upd, h28]; done)) rfl) mo_obj hq (by omega) rfl rfl (Nat.le_of_ble_eq_true rfl) (Nat.le_of_ble_eq_true rfl) (Nat.le_of_ble_eq_true rfl) (fun r21 f21 n21 h21 => ?_)
  obtain ⟨rfl, rfl, hn21⟩ := h21
  subst n21
  refine go_put dX12_carryAll_24 fp_X12_87_12 (Or.inr (fun _ _ _ h => by cases h; rfl)) mo_obj hq (by omega) (rfl) rfl (Nat.le_of_ble_eq_true rfl) ?_
  refine go_mem (mo_setO (F' := (upd (upd (upd (upd F 28 (0)) 27 (0)) 27 (nI (0 + 1))) 0 (A 18 0))) (K' := (some (q + 18))) rfl) ?_
  refine go_aload_n dX12_carryAll_27 rfl ?_
  refine go_aload_n dX12_carryAll_28 rfl ?_
  refine go_aload_n dX12_carryAll_29 rfl ?_
  refine go_get dX12_carryAll_30 fl_X12_94_12 mo_obj hq (by omega) rfl ?_
  refine go_tp (z := F 5) (rfl) ?_
  refine go_V [.int (F 5)] [.ref q] dX12_carryAll_33 vl_X12_202 ⟨by decide, by decide⟩ (e_X12_carry_18F (F := (upd (upd (upd (upd F 28 (0)) 27 (0)) 27 (nI (0 + 1))) 0 (A 18 0))) (A := A) (L := L) hq hn (i := 0 + 1) (by omega) (by first | rfl | exact h28 | (simp [upd]; done) | (simp [upd, h28]; done)) rfl) mo_obj hq (by omega) rfl rfl (Nat.le_of_ble_eq_true rfl) (Nat.le_of_ble_eq_true rfl) (Nat.le_of_ble_eq_true rfl) (fun r33 f33 n33 h33 => ?_)
  obtain ⟨rfl, rfl, hn33⟩ := h33
  subst n33
  refine go_put dX12_carryAll_36 fp_X12_94_12 (Or.inr (fun _ _ _ h => by cases h; rfl)) mo_obj hq (by omega) (rfl) rfl (Nat.le_of_ble_eq_true rfl) ?_
  refine go_mem (mo_setO (F' := (upd (upd (upd (upd (upd (upd F 28 (0)) 27 (0)) 27 (nI (0 + 1))) 0 (A 18 0)) 27 (nI (0 + 1 + 1))) 5 (A 18 (0 + 1)))) (K' := (some (q + 18))) rfl) ?_
  refine go_aload_n dX12_carryAll_39 rfl ?_
  refine go_aload_n dX12_carryAll_40 rfl ?_
  refine go_aload_n dX12_carryAll_41 rfl ?_
  refine go_get dX12_carryAll_42 fl_X12_154_12 mo_obj hq (by omega) rfl ?_
  refine go_tp (z := F 9) (rfl) ?_
  refine go_V [.int (F 9)] [.ref q] dX12_carryAll_45 vl_X12_202 ⟨by decide, by decide⟩ (e_X12_carry_18F (F := (upd (upd (upd (upd (upd (upd F 28 (0)) 27 (0)) 27 (nI (0 + 1))) 0 (A 18 0)) 27 (nI (0 + 1 + 1))) 5 (A 18 (0 + 1)))) (A := A) (L := L) hq hn (i := 0 + 1 + 1) (by omega) (by first | rfl | exact h28 | (simp [upd]; done) | (simp [upd, h28]; done)) rfl) mo_obj hq (by omega) rfl rfl (Nat.le_of_ble_eq_true rfl) (Nat.le_of_ble_eq_true rfl) (Nat.le_of_ble_eq_true rfl) (fun r45 f45 n45 h45 => ?_)
  obtain ⟨rfl, rfl, hn45⟩ := h45
  subst n45
  refine go_put dX12_carryAll_48 fp_X12_154_12 (Or.inr (fun _ _ _ h => by cases h; rfl)) mo_obj hq (by omega) (rfl) rfl (Nat.le_of_ble_eq_true rfl) ?_
  refine go_mem (mo_setO (F' := (upd (upd (upd (upd (upd (upd (upd (upd F 28 (0)) 27 (0)) 27 (nI (0 + 1))) 0 (A 18 0)) 27 (nI (0 + 1 + 1))) 5 (A 18 (0 + 1))) 27 (nI (0 + 1 + 1 + 1))) 9 (A 18 (0 + 1 + 1)))) (K' := (some (q + 18))) rfl) ?_
  refine go_iconst (v := 0) dX12_carryAll_51 rfl ?_
  refine go_istore_n (ls' := [some (.ref q), some (.ref (q + 18)), some (.int 0), some (.int 0)]) dX12_carryAll_52 ⟨by decide, rfl, rfl⟩ ?_
  have lp0 : ∀ (μ_lp0 : Nat) (p : Nat) (F1 : Nat → Int32) (A1 : Nat → Nat → Int32) (hp : p ≤ 8) (hmp : 9 ≤ p + μ_lp0) (hF : ∀ k, k ≠ 0 → k ≠ 5 → k ≠ 9 → k ≠ 27 → k ≠ 28 → F1 k = F k) (hf0 : F1 0 = A 18 0) (hf5 : F1 5 = A 18 1) (hf9 : F1 9 = A 18 2) (h28 : F1 28 = 0) (h27 : F1 27 = nI (3 + 4 * p)) (hg : cgA 18 p A A1), Go G mX12_carryAll 2 0 0 Q9 0 0 53 [some (.ref q), none, none, some (.int (nI p))] [] (mo G m0 q F1 A1 L (some (q + 18))) n := by
    intro μ_lp0
    induction μ_lp0 with
    | zero =>
      intro p F1 A1 hp hmp hF hf0 hf5 hf9 h28 h27 hg
      exact absurd hmp (by omega)
    | succ μ_lp0 ih_lp0 =>
      intro p F1 A1 hp hmp hF hf0 hf5 hf9 h28 h27 hg
      refine go_iload_n dX12_carryAll_53 rfl ?_
      refine go_bipush (v := 8) dX12_carryAll_54 rfl ?_
      refine go_icmp_ge dX12_carryAll_56 (fun c56 => ?_) (fun c56 => ?_)
      · have c56n := (nI_leI (a := 8) (b := p) (by omega) (by omega)).mp c56
        have c56n := Nat.not_lt.mpr c56n
        have c56 := Int32.not_lt.mpr c56
        refine go_iconst (v := 0) dX12_carryAll_129 rfl ?_
        refine go_istore_n (ls' := [some (.ref q), none, none, some (.int 0)]) dX12_carryAll_130 ⟨by decide, rfl, rfl⟩ ?_
        have lp1 : ∀ (μ_lp1 : Nat) (l : Nat) (F2 : Nat → Int32) (A2 : Nat → Nat → Int32) (hl : l ≤ 5) (hml : 6 ≤ l + μ_lp1) (hF : ∀ k, k ≠ 0 → k ≠ 5 → k ≠ 9 → k ≠ 27 → k ≠ 28 → F2 k = F k) (hf0 : F2 0 = A 18 0) (hf5 : F2 5 = A 18 1) (hf9 : F2 9 = A 18 2) (h28 : F2 28 = 0) (h27 : F2 27 = nI (35 + 3 * l)) (hg : cgB 18 l A A2), Go G mX12_carryAll 2 0 0 Q9 0 0 131 [some (.ref q), none, none, some (.int (nI l))] [] (mo G m0 q F2 A2 L (some (q + 18))) n := by
          intro μ_lp1
          induction μ_lp1 with
          | zero =>
            intro l F2 A2 hl hml hF hf0 hf5 hf9 h28 h27 hg
            exact absurd hml (by omega)
          | succ μ_lp1 ih_lp1 =>
            intro l F2 A2 hl hml hF hf0 hf5 hf9 h28 h27 hg
            refine go_iload_n dX12_carryAll_131 rfl ?_
            refine go_iconst (v := 5) dX12_carryAll_132 rfl ?_
            refine go_icmp_ge dX12_carryAll_133 (fun c133 => ?_) (fun c133 => ?_)
            · have c133n := (nI_leI (a := 5) (b := l) (by omega) (by omega)).mp c133
              have c133n := Nat.not_lt.mpr c133n
              have c133 := Int32.not_lt.mpr c133
              exact go_vret dX12_carryAll_190 rfl (Nat.le_of_ble_eq_true rfl) (Nat.le_of_ble_eq_true rfl) (hQ9 ▸ ⟨rfl, ⟨_, _, ⟨hF, hf0, hf5, hf9, hg.1, hg.2.1, fun c x hc => by rw [hg.2.2 c x hc, show l = 5 by omega]⟩, rfl⟩, rfl⟩)
            · have c133n := mt (nI_leI (a := 5) (b := l) (by omega) (by omega)).mpr c133
              have c133n := Nat.lt_of_not_le c133n
              have c133 := Int32.not_le.mp c133
              refine go_aload_n dX12_carryAll_136 rfl ?_
              refine go_get dX12_carryAll_137 fl_X12_22_12 mo_obj hq (by omega) rfl ?_
              refine go_iload_n dX12_carryAll_140 rfl ?_
              refine go_aload_n dX12_carryAll_141 rfl ?_
              refine go_aload_n dX12_carryAll_142 rfl ?_
              refine go_get dX12_carryAll_143 fl_X12_22_12 mo_obj hq (by omega) rfl ?_
              refine go_iload_n dX12_carryAll_146 rfl ?_
              refine go_iald dX12_carryAll_147 (mo_arr 5 (by decide)) (by omega) (by omega) (vp_in_nI (n := l) (by show l < 5; omega) (by decide)) ?_
              refine go_tp (z := A2 5 l) (by rw [nI_clamp (by omega)]) ?_
              refine go_V [.int (A2 5 l)] [.int (nI l), .ref (q + 5)] dX12_carryAll_148 vl_X12_202 ⟨by decide, by decide⟩ (e_X12_carry_18F (F := F2) (A := A2) (L := L) hq hn (i := 35 + 3 * l) (by omega) (by first | rfl | exact h28 | (simp [upd]; done) | (simp [upd, h28]; done)) h27) mo_obj hq (by omega) rfl rfl (Nat.le_of_ble_eq_true rfl) (Nat.le_of_ble_eq_true rfl) (Nat.le_of_ble_eq_true rfl) (fun r148 f148 n148 h148 => ?_)
              obtain ⟨rfl, rfl, hn148⟩ := h148
              subst n148
              refine go_iast dX12_carryAll_151 (mo_arr 5 (by decide)) (by omega) (by omega) (vp_in_nI (n := l) (by show l < 5; omega) (by decide)) ?_
              refine go_mem (mo_setA 5 (by decide) _ _) ?_
              rw [nI_clamp (by omega)]
              refine go_aload_n dX12_carryAll_152 rfl ?_
              refine go_get dX12_carryAll_153 fl_X12_25_12 mo_obj hq (by omega) rfl ?_
              refine go_iload_n dX12_carryAll_156 rfl ?_
              refine go_aload_n dX12_carryAll_157 rfl ?_
              refine go_aload_n dX12_carryAll_158 rfl ?_
              refine go_get dX12_carryAll_159 fl_X12_25_12 mo_obj hq (by omega) rfl ?_
              refine go_iload_n dX12_carryAll_162 rfl ?_
              refine go_iald dX12_carryAll_163 (mo_arr 6 (by decide)) (by omega) (by omega) (vp_in_nI (n := l) (by show l < 5; omega) (by decide)) ?_
              refine go_tp (z := A2 6 l) (by rw [nI_clamp (by omega)]; rfl) ?_
              refine go_V [.int (A2 6 l)] [.int (nI l), .ref (q + 6)] dX12_carryAll_164 vl_X12_202 ⟨by decide, by decide⟩ (e_X12_carry_18F (F := (upd F2 27 (nI (35 + 3 * l + 1)))) (A := (upA A2 5 l (A2 18 (35 + 3 * l)))) (L := L) hq hn (i := 35 + 3 * l + 1) (by omega) (by first | rfl | exact h28 | (simp [upd]; done) | (simp [upd, h28]; done)) rfl) mo_obj hq (by omega) rfl rfl (Nat.le_of_ble_eq_true rfl) (Nat.le_of_ble_eq_true rfl) (Nat.le_of_ble_eq_true rfl) (fun r164 f164 n164 h164 => ?_)
              obtain ⟨rfl, rfl, hn164⟩ := h164
              subst n164
              refine go_tp (z := A2 18 (35 + 3 * l + 1)) rfl ?_
              refine go_iast dX12_carryAll_167 (mo_arr 6 (by decide)) (by omega) (by omega) (vp_in_nI (n := l) (by show l < 5; omega) (by decide)) ?_
              refine go_mem (mo_setA 6 (by decide) _ _) ?_
              rw [nI_clamp (by omega)]
              refine go_aload_n dX12_carryAll_168 rfl ?_
              refine go_get dX12_carryAll_169 fl_X12_28_12 mo_obj hq (by omega) rfl ?_
              refine go_iload_n dX12_carryAll_172 rfl ?_
              refine go_aload_n dX12_carryAll_173 rfl ?_
              refine go_aload_n dX12_carryAll_174 rfl ?_
              refine go_get dX12_carryAll_175 fl_X12_28_12 mo_obj hq (by omega) rfl ?_
              refine go_iload_n dX12_carryAll_178 rfl ?_
              refine go_iald dX12_carryAll_179 (mo_arr 7 (by decide)) (by omega) (by omega) (vp_in_nI (n := l) (by show l < 5; omega) (by decide)) ?_
              refine go_tp (z := A2 7 l) (by rw [nI_clamp (by omega)]; rfl) ?_
              refine go_V [.int (A2 7 l)] [.int (nI l), .ref (q + 7)] dX12_carryAll_180 vl_X12_202 ⟨by decide, by decide⟩ (e_X12_carry_18F (F := (upd (upd F2 27 (nI (35 + 3 * l + 1))) 27 (nI (35 + 3 * l + 1 + 1)))) (A := (upA (upA A2 5 l (A2 18 (35 + 3 * l))) 6 l (A2 18 (35 + 3 * l + 1)))) (L := L) hq hn (i := 35 + 3 * l + 1 + 1) (by omega) (by first | rfl | exact h28 | (simp [upd]; done) | (simp [upd, h28]; done)) rfl) mo_obj hq (by omega) rfl rfl (Nat.le_of_ble_eq_true rfl) (Nat.le_of_ble_eq_true rfl) (Nat.le_of_ble_eq_true rfl) (fun r180 f180 n180 h180 => ?_)
              obtain ⟨rfl, rfl, hn180⟩ := h180
              subst n180
              refine go_tp (z := A2 18 (35 + 3 * l + 1 + 1)) rfl ?_
              refine go_iast dX12_carryAll_183 (mo_arr 7 (by decide)) (by omega) (by omega) (vp_in_nI (n := l) (by show l < 5; omega) (by decide)) ?_
              refine go_mem (mo_setA 7 (by decide) _ _) ?_
              rw [nI_clamp (by omega)]
              refine go_iinc (v := nI (l + 1)) (ls' := [some (.ref q), none, none, some (.int (nI (l + 1)))]) dX12_carryAll_184 rfl (nI_1 (l)) ⟨by decide, rfl, rfl⟩ ?_
              refine go_goto dX12_carryAll_187 ?_
              exact ih_lp1 (l + 1) (upd (upd (upd F2 27 (nI (35 + 3 * l + 1))) 27 (nI (35 + 3 * l + 1 + 1))) 27 (nI (35 + 3 * l + 1 + 1 + 1))) (upA (upA (upA A2 5 l (A2 18 (35 + 3 * l))) 6 l (A2 18 (35 + 3 * l + 1))) 7 l (A2 18 (35 + 3 * l + 1 + 1))) (by omega) (by omega) (fun k z0 z5 z9 h1 h2 => by rw [← hF k z0 z5 z9 h1 h2]; simp [upd, h1]) (by simp [upd, hf0]) (by simp [upd, hf5]) (by simp [upd, hf9]) (by simp [upd, h28]) rfl (cgB_s (by omega) hg)
        obtain rfl : p = 8 := by omega
        exact lp1 6 0 _ _ (by omega) (by omega) hF hf0 hf5 hf9 h28 h27 (cgB_0 hg)
      · have c56n := mt (nI_leI (a := 8) (b := p) (by omega) (by omega)).mpr c56
        have c56n := Nat.lt_of_not_le c56n
        have c56 := Int32.not_le.mp c56
        refine go_aload_n dX12_carryAll_59 rfl ?_
        refine go_get dX12_carryAll_60 fl_X12_7_12 mo_obj hq (by omega) rfl ?_
        refine go_iload_n dX12_carryAll_63 rfl ?_
        refine go_aload_n dX12_carryAll_64 rfl ?_
        refine go_aload_n dX12_carryAll_65 rfl ?_
        refine go_get dX12_carryAll_66 fl_X12_7_12 mo_obj hq (by omega) rfl ?_
        refine go_iload_n dX12_carryAll_69 rfl ?_
        refine go_iald dX12_carryAll_70 (mo_arr 1 (by decide)) (by omega) (by omega) (vp_in_nI (n := p) (by show p < 8; omega) (by decide)) ?_
        refine go_tp (z := A1 1 p) (by rw [nI_clamp (by omega)]) ?_
        refine go_V [.int (A1 1 p)] [.int (nI p), .ref (q + 1)] dX12_carryAll_71 vl_X12_202 ⟨by decide, by decide⟩ (e_X12_carry_18F (F := F1) (A := A1) (L := L) hq hn (i := 3 + 4 * p) (by omega) (by first | rfl | exact h28 | (simp [upd]; done) | (simp [upd, h28]; done)) h27) mo_obj hq (by omega) rfl rfl (Nat.le_of_ble_eq_true rfl) (Nat.le_of_ble_eq_true rfl) (Nat.le_of_ble_eq_true rfl) (fun r71 f71 n71 h71 => ?_)
        obtain ⟨rfl, rfl, hn71⟩ := h71
        subst n71
        refine go_iast dX12_carryAll_74 (mo_arr 1 (by decide)) (by omega) (by omega) (vp_in_nI (n := p) (by show p < 8; omega) (by decide)) ?_
        refine go_mem (mo_setA 1 (by decide) _ _) ?_
        rw [nI_clamp (by omega)]
        refine go_aload_n dX12_carryAll_75 rfl ?_
        refine go_get dX12_carryAll_76 fl_X12_13_12 mo_obj hq (by omega) rfl ?_
        refine go_iload_n dX12_carryAll_79 rfl ?_
        refine go_aload_n dX12_carryAll_80 rfl ?_
        refine go_aload_n dX12_carryAll_81 rfl ?_
        refine go_get dX12_carryAll_82 fl_X12_13_12 mo_obj hq (by omega) rfl ?_
        refine go_iload_n dX12_carryAll_85 rfl ?_
        refine go_iald dX12_carryAll_86 (mo_arr 2 (by decide)) (by omega) (by omega) (vp_in_nI (n := p) (by show p < 8; omega) (by decide)) ?_
        refine go_tp (z := A1 2 p) (by rw [nI_clamp (by omega)]; rfl) ?_
        refine go_V [.int (A1 2 p)] [.int (nI p), .ref (q + 2)] dX12_carryAll_87 vl_X12_202 ⟨by decide, by decide⟩ (e_X12_carry_18F (F := (upd F1 27 (nI (3 + 4 * p + 1)))) (A := (upA A1 1 p (A1 18 (3 + 4 * p)))) (L := L) hq hn (i := 3 + 4 * p + 1) (by omega) (by first | rfl | exact h28 | (simp [upd]; done) | (simp [upd, h28]; done)) rfl) mo_obj hq (by omega) rfl rfl (Nat.le_of_ble_eq_true rfl) (Nat.le_of_ble_eq_true rfl) (Nat.le_of_ble_eq_true rfl) (fun r87 f87 n87 h87 => ?_)
        obtain ⟨rfl, rfl, hn87⟩ := h87
        subst n87
        refine go_tp (z := A1 18 (3 + 4 * p + 1)) rfl ?_
        refine go_iast dX12_carryAll_90 (mo_arr 2 (by decide)) (by omega) (by omega) (vp_in_nI (n := p) (by show p < 8; omega) (by decide)) ?_
        refine go_mem (mo_setA 2 (by decide) _ _) ?_
        rw [nI_clamp (by omega)]
        refine go_aload_n dX12_carryAll_91 rfl ?_
        refine go_get dX12_carryAll_92 fl_X12_16_12 mo_obj hq (by omega) rfl ?_
        refine go_iload_n dX12_carryAll_95 rfl ?_
        refine go_aload_n dX12_carryAll_96 rfl ?_
        refine go_aload_n dX12_carryAll_97 rfl ?_
        refine go_get dX12_carryAll_98 fl_X12_16_12 mo_obj hq (by omega) rfl ?_
        refine go_iload_n dX12_carryAll_101 rfl ?_
        refine go_iald dX12_carryAll_102 (mo_arr 3 (by decide)) (by omega) (by omega) (vp_in_nI (n := p) (by show p < 8; omega) (by decide)) ?_
        refine go_tp (z := A1 3 p) (by rw [nI_clamp (by omega)]; rfl) ?_
        refine go_V [.int (A1 3 p)] [.int (nI p), .ref (q + 3)] dX12_carryAll_103 vl_X12_202 ⟨by decide, by decide⟩ (e_X12_carry_18F (F := (upd (upd F1 27 (nI (3 + 4 * p + 1))) 27 (nI (3 + 4 * p + 1 + 1)))) (A := (upA (upA A1 1 p (A1 18 (3 + 4 * p))) 2 p (A1 18 (3 + 4 * p + 1)))) (L := L) hq hn (i := 3 + 4 * p + 1 + 1) (by omega) (by first | rfl | exact h28 | (simp [upd]; done) | (simp [upd, h28]; done)) rfl) mo_obj hq (by omega) rfl rfl (Nat.le_of_ble_eq_true rfl) (Nat.le_of_ble_eq_true rfl) (Nat.le_of_ble_eq_true rfl) (fun r103 f103 n103 h103 => ?_)
        obtain ⟨rfl, rfl, hn103⟩ := h103
        subst n103
        refine go_tp (z := A1 18 (3 + 4 * p + 1 + 1)) rfl ?_
        refine go_iast dX12_carryAll_106 (mo_arr 3 (by decide)) (by omega) (by omega) (vp_in_nI (n := p) (by show p < 8; omega) (by decide)) ?_
        refine go_mem (mo_setA 3 (by decide) _ _) ?_
        rw [nI_clamp (by omega)]
        refine go_aload_n dX12_carryAll_107 rfl ?_
        refine go_get dX12_carryAll_108 fl_X12_19_12 mo_obj hq (by omega) rfl ?_
        refine go_iload_n dX12_carryAll_111 rfl ?_
        refine go_aload_n dX12_carryAll_112 rfl ?_
        refine go_aload_n dX12_carryAll_113 rfl ?_
        refine go_get dX12_carryAll_114 fl_X12_19_12 mo_obj hq (by omega) rfl ?_
        refine go_iload_n dX12_carryAll_117 rfl ?_
        refine go_iald dX12_carryAll_118 (mo_arr 4 (by decide)) (by omega) (by omega) (vp_in_nI (n := p) (by show p < 8; omega) (by decide)) ?_
        refine go_tp (z := A1 4 p) (by rw [nI_clamp (by omega)]; rfl) ?_
        refine go_V [.int (A1 4 p)] [.int (nI p), .ref (q + 4)] dX12_carryAll_119 vl_X12_202 ⟨by decide, by decide⟩ (e_X12_carry_18F (F := (upd (upd (upd F1 27 (nI (3 + 4 * p + 1))) 27 (nI (3 + 4 * p + 1 + 1))) 27 (nI (3 + 4 * p + 1 + 1 + 1)))) (A := (upA (upA (upA A1 1 p (A1 18 (3 + 4 * p))) 2 p (A1 18 (3 + 4 * p + 1))) 3 p (A1 18 (3 + 4 * p + 1 + 1)))) (L := L) hq hn (i := 3 + 4 * p + 1 + 1 + 1) (by omega) (by first | rfl | exact h28 | (simp [upd]; done) | (simp [upd, h28]; done)) rfl) mo_obj hq (by omega) rfl rfl (Nat.le_of_ble_eq_true rfl) (Nat.le_of_ble_eq_true rfl) (Nat.le_of_ble_eq_true rfl) (fun r119 f119 n119 h119 => ?_)
        obtain ⟨rfl, rfl, hn119⟩ := h119
        subst n119
        refine go_tp (z := A1 18 (3 + 4 * p + 1 + 1 + 1)) rfl ?_
        refine go_iast dX12_carryAll_122 (mo_arr 4 (by decide)) (by omega) (by omega) (vp_in_nI (n := p) (by show p < 8; omega) (by decide)) ?_
        refine go_mem (mo_setA 4 (by decide) _ _) ?_
        rw [nI_clamp (by omega)]
        refine go_iinc (v := nI (p + 1)) (ls' := [some (.ref q), none, none, some (.int (nI (p + 1)))]) dX12_carryAll_123 rfl (nI_1 (p)) ⟨by decide, rfl, rfl⟩ ?_
        refine go_goto dX12_carryAll_126 ?_
        exact ih_lp0 (p + 1) (upd (upd (upd (upd F1 27 (nI (3 + 4 * p + 1))) 27 (nI (3 + 4 * p + 1 + 1))) 27 (nI (3 + 4 * p + 1 + 1 + 1))) 27 (nI (3 + 4 * p + 1 + 1 + 1 + 1))) (upA (upA (upA (upA A1 1 p (A1 18 (3 + 4 * p))) 2 p (A1 18 (3 + 4 * p + 1))) 3 p (A1 18 (3 + 4 * p + 1 + 1))) 4 p (A1 18 (3 + 4 * p + 1 + 1 + 1))) (by omega) (by omega) (fun k z0 z5 z9 h1 h2 => by rw [← hF k z0 z5 z9 h1 h2]; simp [upd, h1]) (by simp [upd, hf0]) (by simp [upd, hf5]) (by simp [upd, hf9]) (by simp [upd, h28]) rfl (cgA_s (by omega) hg)
  refine go_weak (ls' := [some (.ref q), none, none, some (.int 0)]) ⟨rfl, rfl, trivial⟩ ?_
  exact lp0 9 0 (upd (upd (upd (upd (upd (upd (upd (upd F 28 (0)) 27 (0)) 27 (nI (0 + 1))) 0 (A 18 0)) 27 (nI (0 + 1 + 1))) 5 (A 18 (0 + 1))) 27 (nI (0 + 1 + 1 + 1))) 9 (A 18 (0 + 1 + 1))) A (by omega) (by omega) (fun k z0 z5 z9 h1 h2 => by simp [upd, z0, z5, z9, h1, h2]) rfl rfl rfl rfl rfl cgA_0
set_option maxHeartbeats 4000000 in
set_option maxRecDepth 100000 in
theorem e_X12_open (hq : G.2.1 ≤ q) (hn : q + 25 ≤ n) : Ev G mX12_open 3 0 0 [.ref q] (mo G m0 q F A L K) n (fun r f1 n1 => r = none ∧ (∃ F' A', opR 17 F A F' A' ∧ f1 = mo G m0 q F' A' L (some (q + 17))) ∧ n1 = n) := by
  generalize hQ9 : (fun r f1 n1 => r = none ∧ (∃ F' A', opR 17 F A F' A' ∧ f1 = mo G m0 q F' A' L (some (q + 17))) ∧ n1 = n : RQ) = Q9
  refine ev_of (by decide) (Nat.le_of_ble_eq_true rfl) (ls := [some (.ref q)]) rfl (fun hb => ?_)
  refine go_aload_n dX12_open_0 rfl ?_
  refine go_aload_n dX12_open_1 rfl ?_
  refine go_get dX12_open_2 fl_X12_59_12 mo_obj hq (by omega) rfl ?_
  refine go_iconst (v := 1) dX12_open_5 rfl ?_
  refine go_V [.ref (q + 17), .int 1] [] dX12_open_6 vl_X12_205 ⟨by decide, by decide⟩ (e_X12_carryAll_17T (F := F) (A := A) (L := L) (K := K) hq hn) mo_obj hq (by omega) rfl rfl (Nat.le_of_ble_eq_true rfl) (Nat.le_of_ble_eq_true rfl) (Nat.le_of_ble_eq_true rfl) (fun r6 f6 n6 h6 => ?_)
  obtain ⟨rfl, ⟨F6, A6, hc6, rfl⟩, hn6⟩ := h6
  subst n6
  exact go_vret dX12_open_9 rfl (Nat.le_of_ble_eq_true rfl) (Nat.le_of_ble_eq_true rfl) (hQ9 ▸ ⟨rfl, ⟨_, _, hc6, rfl⟩, rfl⟩)
set_option maxHeartbeats 4000000 in
set_option maxRecDepth 100000 in
theorem e_X12_close (hq : G.2.1 ≤ q) (hn : q + 25 ≤ n) : Ev G mX12_close 3 0 0 [.ref q] (mo G m0 q F A L K) n (fun r f1 n1 => r = none ∧ (∃ F' A', clR 17 F A F' A' ∧ f1 = mo G m0 q F' A' L (some (q + 17))) ∧ n1 = n) := by
  generalize hQ9 : (fun r f1 n1 => r = none ∧ (∃ F' A', clR 17 F A F' A' ∧ f1 = mo G m0 q F' A' L (some (q + 17))) ∧ n1 = n : RQ) = Q9
  refine ev_of (by decide) (Nat.le_of_ble_eq_true rfl) (ls := [some (.ref q)]) rfl (fun hb => ?_)
  refine go_aload_n dX12_close_0 rfl ?_
  refine go_aload_n dX12_close_1 rfl ?_
  refine go_get dX12_close_2 fl_X12_59_12 mo_obj hq (by omega) rfl ?_
  refine go_iconst (v := 0) dX12_close_5 rfl ?_
  refine go_V [.ref (q + 17), .int 0] [] dX12_close_6 vl_X12_205 ⟨by decide, by decide⟩ (e_X12_carryAll_17F (F := F) (A := A) (L := L) (K := K) hq hn) mo_obj hq (by omega) rfl rfl (Nat.le_of_ble_eq_true rfl) (Nat.le_of_ble_eq_true rfl) (Nat.le_of_ble_eq_true rfl) (fun r6 f6 n6 h6 => ?_)
  obtain ⟨rfl, ⟨F6, A6, hc6, rfl⟩, hn6⟩ := h6
  subst n6
  exact go_vret dX12_close_9 rfl (Nat.le_of_ble_eq_true rfl) (Nat.le_of_ble_eq_true rfl) (hQ9 ▸ ⟨rfl, ⟨_, _, hc6, rfl⟩, rfl⟩)
set_option maxHeartbeats 4000000 in
set_option maxRecDepth 100000 in
theorem e_X12_image (hq : G.2.1 ≤ q) (hn : q + 25 ≤ n) : Ev G mX12_image 3 0 0 [.ref q] (mo G m0 q F A L K) n (fun r f1 n1 => r = some (.int (F 9)) ∧ (∃ F' A', opR 18 (upd (upd F 16 0) 26 1) A F' A' ∧ f1 = mo G m0 q F' A' L (some (q + 18))) ∧ n1 = n) := by
  generalize hQ9 : (fun r f1 n1 => r = some (.int (F 9)) ∧ (∃ F' A', opR 18 (upd (upd F 16 0) 26 1) A F' A' ∧ f1 = mo G m0 q F' A' L (some (q + 18))) ∧ n1 = n : RQ) = Q9
  refine ev_of (by decide) (Nat.le_of_ble_eq_true rfl) (ls := [some (.ref q)]) rfl (fun hb => ?_)
  refine go_aload_n dX12_image_0 rfl ?_
  refine go_iconst (v := 0) dX12_image_1 rfl ?_
  refine go_put dX12_image_2 fp_X12_83_12 (Or.inr (fun _ _ _ h => by cases h; rfl)) mo_obj hq (by omega) (rfl) rfl (Nat.le_of_ble_eq_true rfl) ?_
  refine go_mem (mo_setO (F' := (upd F 16 (0))) (K' := K) rfl) ?_
  refine go_aload_n dX12_image_5 rfl ?_
  refine go_iconst (v := 1) dX12_image_6 rfl ?_
  refine go_put dX12_image_7 fp_X12_209_12 (Or.inr (fun _ _ _ h => by cases h; rfl)) mo_obj hq (by omega) (rfl) rfl (Nat.le_of_ble_eq_true rfl) ?_
  refine go_mem (mo_setO (F' := (upd (upd F 16 (0)) 26 (1))) (K' := K) rfl) ?_
  refine go_aload_n dX12_image_10 rfl ?_
  refine go_aload_n dX12_image_11 rfl ?_
  refine go_get dX12_image_12 fl_X12_62_12 mo_obj hq (by omega) rfl ?_
  refine go_iconst (v := 1) dX12_image_15 rfl ?_
  refine go_V [.ref (q + 18), .int 1] [] dX12_image_16 vl_X12_205 ⟨by decide, by decide⟩ (e_X12_carryAll_18T (F := (upd (upd F 16 (0)) 26 (1))) (A := A) (L := L) (K := K) hq hn) mo_obj hq (by omega) rfl rfl (Nat.le_of_ble_eq_true rfl) (Nat.le_of_ble_eq_true rfl) (Nat.le_of_ble_eq_true rfl) (fun r16 f16 n16 h16 => ?_)
  obtain ⟨rfl, ⟨F16, A16, hc16, rfl⟩, hn16⟩ := h16
  subst n16
  refine go_aload_n dX12_image_19 rfl ?_
  refine go_get dX12_image_20 fl_X12_154_12 mo_obj hq (by omega) rfl ?_
  exact go_iret dX12_image_23 rfl (Nat.le_of_ble_eq_true rfl) (Nat.le_of_ble_eq_true rfl) (hQ9 ▸ ⟨rd_i (by rw [hc16.1 9 (by decide) (by decide)]; rfl), ⟨_, _, hc16, rfl⟩, rfl⟩)
set_option maxHeartbeats 4000000 in
set_option maxRecDepth 100000 in
theorem e_X12_restore (hq : G.2.1 ≤ q) (hn : q + 25 ≤ n) : Ev G mX12_restore 3 0 0 [.ref q] (mo G m0 q F A L K) n (fun r f1 n1 => r = some (.int (if F 26 = 0 then -3 else A 18 2)) ∧ (∃ F' A' K', (F 26 = 0 → F' = upd F 16 0 ∧ A' = A) ∧ (¬ F 26 = 0 → clR 18 (upd F 16 0) A F' A') ∧ f1 = mo G m0 q F' A' L K') ∧ n1 = n) := by
  generalize hQ9 : (fun r f1 n1 => r = some (.int (if F 26 = 0 then -3 else A 18 2)) ∧ (∃ F' A' K', (F 26 = 0 → F' = upd F 16 0 ∧ A' = A) ∧ (¬ F 26 = 0 → clR 18 (upd F 16 0) A F' A') ∧ f1 = mo G m0 q F' A' L K') ∧ n1 = n : RQ) = Q9
  refine ev_of (by decide) (Nat.le_of_ble_eq_true rfl) (ls := [some (.ref q)]) rfl (fun hb => ?_)
  refine go_aload_n dX12_restore_0 rfl ?_
  refine go_iconst (v := 0) dX12_restore_1 rfl ?_
  refine go_put dX12_restore_2 fp_X12_83_12 (Or.inr (fun _ _ _ h => by cases h; rfl)) mo_obj hq (by omega) (rfl) rfl (Nat.le_of_ble_eq_true rfl) ?_
  refine go_mem (mo_setO (F' := (upd F 16 (0))) (K' := K) rfl) ?_
  refine go_aload_n dX12_restore_5 rfl ?_
  refine go_get dX12_restore_6 fl_X12_209_12 mo_obj hq (by omega) rfl ?_
  refine go_tp (z := F 26) (rfl) ?_
  refine go_if_ne dX12_restore_9 (fun c9 => ?_) (fun c9 => ?_)
  · refine go_aload_n dX12_restore_15 rfl ?_
    refine go_aload_n dX12_restore_16 rfl ?_
    refine go_get dX12_restore_17 fl_X12_62_12 mo_obj hq (by omega) rfl ?_
    refine go_iconst (v := 0) dX12_restore_20 rfl ?_
    refine go_V [.ref (q + 18), .int 0] [] dX12_restore_21 vl_X12_205 ⟨by decide, by decide⟩ (e_X12_carryAll_18F (F := (upd F 16 (0))) (A := A) (L := L) (K := K) hq hn) mo_obj hq (by omega) rfl rfl (Nat.le_of_ble_eq_true rfl) (Nat.le_of_ble_eq_true rfl) (Nat.le_of_ble_eq_true rfl) (fun r21 f21 n21 h21 => ?_)
    obtain ⟨rfl, ⟨F21, A21, hc21, rfl⟩, hn21⟩ := h21
    subst n21
    refine go_aload_n dX12_restore_24 rfl ?_
    refine go_get dX12_restore_25 fl_X12_154_12 mo_obj hq (by omega) rfl ?_
    exact go_iret dX12_restore_28 rfl (Nat.le_of_ble_eq_true rfl) (Nat.le_of_ble_eq_true rfl) (hQ9 ▸ ⟨rd_i (by rw [if_neg c9, hc21.2.2.2.1]), ⟨_, _, _, fun z => absurd z c9, fun _ => hc21, rfl⟩, rfl⟩)
  · refine go_bipush (v := (-3)) dX12_restore_12 rfl ?_
    exact go_iret dX12_restore_14 rfl (Nat.le_of_ble_eq_true rfl) (Nat.le_of_ble_eq_true rfl) (hQ9 ▸ ⟨rd_i (by rw [if_pos c9]), ⟨_, _, _, fun _ => ⟨rfl, rfl⟩, fun z => absurd c9 z, rfl⟩, rfl⟩)
end M13
