section M12
variable {G : GX} {m0 f : Mem} {q n N M : Nat} {F : Nat → Int32} {A : Nat → Nat → Int32} {L : Nat → Nat → Int64} {K : Option Nat}
set_option maxHeartbeats 4000000 in
set_option maxRecDepth 100000 in
theorem e_X12_best (hq : G.2.1 ≤ q) (hn : q + 25 ≤ n) (hN : F 0 = nI N) (hN8 : N ≤ 8) {i : Int32} : Ev G mX12_best 6 0 0 [.ref q, .int i] (mo G m0 q F A L K) n (fun r f1 n1 => r = some (.int (besS N A i)) ∧ f1 = mo G m0 q (upd F 16 0) (if okm N i then lbA N A (bsM N A) else A) L K ∧ n1 = n) := by
  generalize hQ9 : (fun r f1 n1 => r = some (.int (besS N A i)) ∧ f1 = mo G m0 q (upd F 16 0) (if okm N i then lbA N A (bsM N A) else A) L K ∧ n1 = n : RQ) = Q9
  refine ev_of (by decide) (Nat.le_of_ble_eq_true rfl) (ls := [some (.ref q), some (.int i)]) rfl (fun hb => ?_)
  have hp2 := pw8 hN8
  have hp1 := pw1 N
  refine go_aload_n dX12_best_0 rfl ?_
  refine go_iconst (v := 0) dX12_best_1 rfl ?_
  refine go_put dX12_best_2 fp_X12_83_12 (Or.inr (fun _ _ _ h => by cases h; rfl)) mo_obj hq (by omega) (rfl) rfl (Nat.le_of_ble_eq_true rfl) ?_
  refine go_mem (mo_setO (F' := (upd F 16 (0))) (K' := K) rfl) ?_
  refine go_iload_n dX12_best_5 rfl ?_
  refine go_i2l dX12_best_6 ?_
  refine go_ldc2 (v := -1) dX12_best_7 wm_1404 ?_
  refine go_aload_n dX12_best_10 rfl ?_
  refine go_get dX12_best_11 fl_X12_87_12 mo_obj hq (by omega) rfl ?_
  refine go_tp (z := nI N) (hN) ?_
  refine go_iconst (v := 1) dX12_best_14 rfl ?_
  refine go_isub dX12_best_15 ?_
  refine go_i2l dX12_best_16 ?_
  refine go_Sr [.long (i).toInt64, .long (-1), .long (((nI N) - 1).toInt64)] [] dX12_best_17 sl_X12_90 ⟨by decide, by decide⟩ (e_X12_lies) rfl rfl (Nat.le_of_ble_eq_true rfl) (Nat.le_of_ble_eq_true rfl) (Nat.le_of_ble_eq_true rfl) ?_
  refine go_tp (z := if okm N (i) then 1 else 0) (ite_c (li_okm (by omega))) ?_
  refine go_if_ne dX12_best_20 (fun c20 => ?_) (fun c20 => ?_)
  · have c20 := bz_t c20
    refine go_aload_n dX12_best_25 rfl ?_
    refine go_V [] [] dX12_best_26 vl_X12_262 ⟨by decide, by decide⟩ (e_X12_layBest (F := (upd F 16 (0))) (A := A) (L := L) (K := K) hq hn hN hN8) mo_obj hq (by omega) rfl rfl (Nat.le_of_ble_eq_true rfl) (Nat.le_of_ble_eq_true rfl) (Nat.le_of_ble_eq_true rfl) (fun r26 f26 n26 h26 => ?_)
    obtain ⟨⟨rfl, rfl, hn26⟩, hmt26⟩ := h26
    subst n26
    refine go_iload_n dX12_best_29 rfl ?_
    refine go_if_ge dX12_best_30 (fun c30 => ?_) (fun c30 => ?_)
    · have c30 := Int32.not_lt.mpr c30
      obtain ⟨j, hj, rfl⟩ := okm_nI c20 c30 (by omega)
      have kj : (nI j).toNatClampNeg = j := nI_clamp (by omega)
      refine go_aload_n dX12_best_49 rfl ?_
      refine go_get dX12_best_50 fl_X12_65_12 mo_obj hq (by omega) rfl ?_
      refine go_iload_n dX12_best_53 rfl ?_
      refine go_iald dX12_best_54 (mo_arr 19 (by decide)) (by omega) (by omega) (vp_in_nI (n := j) (by show j < 8; omega) (by decide)) ?_
      refine go_tp (z := (bsM N A) j) (by rw [nI_clamp (by omega)]; rfl) ?_
      exact go_iret dX12_best_55 rfl (Nat.le_of_ble_eq_true rfl) (Nat.le_of_ble_eq_true rfl) (hQ9 ▸ ⟨rd_i (a := (bsM N A) j) (by simp [besS, c20, c30, kj]), by simp [c20, c30], rfl⟩)
    · have c30 := Int32.not_le.mp c30
      refine go_aload_n dX12_best_33 rfl ?_
      refine go_get dX12_best_34 fl_X12_68_12 mo_obj hq (by omega) rfl ?_
      refine go_iconst (v := 1) dX12_best_37 rfl ?_
      refine go_aload_n dX12_best_38 rfl ?_
      refine go_get dX12_best_39 fl_X12_87_12 mo_obj hq (by omega) rfl ?_
      refine go_tp (z := nI N) (hN) ?_
      refine go_ishl dX12_best_42 ?_
      refine go_tp (z := nI (2 ^ N)) (sh1 N (by omega)) ?_
      refine go_iconst (v := 1) dX12_best_43 rfl ?_
      refine go_isub dX12_best_44 ?_
      refine go_tp (z := nI (2 ^ N - 1)) (full_i N (by omega)) ?_
      refine go_iald dX12_best_45 (mo_arr 20 (by decide)) (by omega) (by omega) (vp_in_nI (n := 2 ^ N - 1) (by show 2 ^ N - 1 < 256; omega) (by decide)) ?_
      refine go_tp (z := bsT N A (2 ^ N - 1)) (by rw [nI_clamp (by omega)]; rfl) ?_
      refine go_goto dX12_best_46 ?_
      exact go_iret dX12_best_55 rfl (Nat.le_of_ble_eq_true rfl) (Nat.le_of_ble_eq_true rfl) (hQ9 ▸ ⟨rd_i (a := bsT N A (2 ^ N - 1)) (by simp [besS, c20, c30]), by simp [c20, c30], rfl⟩)
  · have c20 := bz_f c20
    refine go_iconst (v := (-1)) dX12_best_23 rfl ?_
    exact go_iret dX12_best_24 rfl (Nat.le_of_ble_eq_true rfl) (Nat.le_of_ble_eq_true rfl) (hQ9 ▸ ⟨rd_i (a := (-1)) (by simp [besS, c20]), by simp [c20], rfl⟩)
set_option maxHeartbeats 4000000 in
set_option maxRecDepth 100000 in
theorem e_X12_borneBy (hq : G.2.1 ≤ q) (hn : q + 25 ≤ n) (hN : F 0 = nI N) (hN8 : N ≤ 8) {p : Nat} {z : Int32} (hp : p < N) : Ev G mX12_borneBy 6 0 0 [.ref q, .int (nI p), .int z] (mo G m0 q F A L K) n (fun r f1 n1 => r = some (.int (bbS N A p z)) ∧ f1 = mo G m0 q F (bbA N A p z) L K ∧ n1 = n) := by
  generalize hQ9 : (fun r f1 n1 => r = some (.int (bbS N A p z)) ∧ f1 = mo G m0 q F (bbA N A p z) L K ∧ n1 = n : RQ) = Q9
  refine ev_of (by decide) (Nat.le_of_ble_eq_true rfl) (ls := [some (.ref q), some (.int (nI p)), some (.int z), none]) rfl (fun hb => ?_)
  refine go_aload_n dX12_borneBy_0 rfl ?_
  refine go_get dX12_borneBy_1 fl_X12_13_12 mo_obj hq (by omega) rfl ?_
  refine go_iload_n dX12_borneBy_4 rfl ?_
  refine go_iald dX12_borneBy_5 (mo_arr 2 (by decide)) (by omega) (by omega) (vp_in_nI (n := p) (by show p < 8; omega) (by decide)) ?_
  refine go_tp (z := A 2 p) (by rw [nI_clamp (by omega)]) ?_
  refine go_istore_n (ls' := [some (.ref q), some (.int (nI p)), some (.int z), some (.int (A 2 p))]) dX12_borneBy_6 ⟨by decide, rfl, rfl⟩ ?_
  refine go_aload_n dX12_borneBy_7 rfl ?_
  refine go_get dX12_borneBy_8 fl_X12_13_12 mo_obj hq (by omega) rfl ?_
  refine go_iload_n dX12_borneBy_11 rfl ?_
  refine go_iload_n dX12_borneBy_12 rfl ?_
  refine go_iast dX12_borneBy_13 (mo_arr 2 (by decide)) (by omega) (by omega) (vp_in_nI (n := p) (by show p < 8; omega) (by decide)) ?_
  refine go_mem (mo_setA 2 (by decide) _ _) ?_
  rw [nI_clamp (by omega)]
  refine go_aload_n dX12_borneBy_14 rfl ?_
  refine go_V [] [] dX12_borneBy_15 vl_X12_262 ⟨by decide, by decide⟩ (e_X12_layBest (F := F) (A := (upA A 2 p (z))) (L := L) (K := K) hq hn hN hN8) mo_obj hq (by omega) rfl rfl (Nat.le_of_ble_eq_true rfl) (Nat.le_of_ble_eq_true rfl) (Nat.le_of_ble_eq_true rfl) (fun r15 f15 n15 h15 => ?_)
  obtain ⟨⟨rfl, rfl, hn15⟩, hmt15⟩ := h15
  subst n15
  refine go_aload_n dX12_borneBy_18 rfl ?_
  refine go_get dX12_borneBy_19 fl_X12_13_12 mo_obj hq (by omega) rfl ?_
  refine go_iload_n dX12_borneBy_22 rfl ?_
  refine go_iload_n dX12_borneBy_23 rfl ?_
  refine go_iast dX12_borneBy_24 (mo_arr 2 (by decide)) (by omega) (by omega) (vp_in_nI (n := p) (by show p < 8; omega) (by decide)) ?_
  refine go_mem (mo_setA 2 (by decide) _ _) ?_
  rw [nI_clamp (by omega)]
  refine go_mem (f' := (mo G m0 q F (bbA N A p z) L K)) rfl ?_
  refine go_aload_n dX12_borneBy_25 rfl ?_
  refine go_get dX12_borneBy_26 fl_X12_65_12 mo_obj hq (by omega) rfl ?_
  refine go_iload_n dX12_borneBy_29 rfl ?_
  refine go_iald dX12_borneBy_30 (mo_arr 19 (by decide)) (by omega) (by omega) (vp_in_nI (n := p) (by show p < 8; omega) (by decide)) ?_
  refine go_tp (z := bsM N (upA A 2 p (z)) p) (by rw [nI_clamp (by omega)]; rfl) ?_
  refine go_if_ge dX12_borneBy_31 (fun c31 => ?_) (fun c31 => ?_)
  · have c31 := Int32.not_lt.mpr c31
    obtain ⟨o, ho, eo⟩ := (hmt15 p hp).resolve_left c31
    have ko : (nI o).toNatClampNeg = o := nI_clamp (by omega)
    refine go_aload_n dX12_borneBy_38 rfl ?_
    refine go_iload_n dX12_borneBy_39 rfl ?_
    refine go_aload_n dX12_borneBy_40 rfl ?_
    refine go_get dX12_borneBy_41 fl_X12_65_12 mo_obj hq (by omega) rfl ?_
    refine go_iload_n dX12_borneBy_44 rfl ?_
    refine go_iald dX12_borneBy_45 (mo_arr 19 (by decide)) (by omega) (by omega) (vp_in_nI (n := p) (by show p < 8; omega) (by decide)) ?_
    refine go_tp (z := bsM N (upA A 2 p (z)) p) (by rw [nI_clamp (by omega)]; rfl) ?_
    refine go_tp (z := nI o) eo ?_
    refine go_Vr [.int (nI p), .int (nI o)] [] dX12_borneBy_46 vl_X12_108 ⟨by decide, by decide⟩ (e_X12_bearsOf (F := F) (A := (bbA N A p z)) (L := L) (K := K) hq hn (by omega) (by omega)) mo_obj hq (by omega) rfl rfl (Nat.le_of_ble_eq_true rfl) (Nat.le_of_ble_eq_true rfl) (Nat.le_of_ble_eq_true rfl) ?_
    refine go_tp (z := brS A p o) (brS_rows (A := A) (A' := bbA N A p z) (bbA_row (by decide) (by decide)) (bbA_row (by decide) (by decide)) p o) ?_
    exact go_iret dX12_borneBy_49 rfl (Nat.le_of_ble_eq_true rfl) (Nat.le_of_ble_eq_true rfl) (hQ9 ▸ ⟨rd_i (by unfold bbS; rw [if_neg c31, eo, ko]), rfl, rfl⟩)
  · have c31 := Int32.not_le.mp c31
    refine go_iconst (v := 0) dX12_borneBy_34 rfl ?_
    refine go_goto dX12_borneBy_35 ?_
    exact go_iret dX12_borneBy_49 rfl (Nat.le_of_ble_eq_true rfl) (Nat.le_of_ble_eq_true rfl) (hQ9 ▸ ⟨rd_i (by unfold bbS; rw [if_pos c31]), rfl, rfl⟩)
set_option maxHeartbeats 4000000 in
set_option maxRecDepth 100000 in
theorem e_X12_otherwise (hq : G.2.1 ≤ q) (hn : q + 25 ≤ n) (hN : F 0 = nI N) (hN8 : N ≤ 8) {p : Int32} : Ev G mX12_otherwise 7 0 0 [.ref q, .int p] (mo G m0 q F A L K) n (fun r f1 n1 => r = some (.int (othS N A p)) ∧ (∃ A', (∀ j, j ≠ 19 → j ≠ 20 → A' j = A j) ∧ f1 = mo G m0 q (upd F 16 0) A' L K) ∧ n1 = n) := by
  generalize hQ9 : (fun r f1 n1 => r = some (.int (othS N A p)) ∧ (∃ A', (∀ j, j ≠ 19 → j ≠ 20 → A' j = A j) ∧ f1 = mo G m0 q (upd F 16 0) A' L K) ∧ n1 = n : RQ) = Q9
  refine ev_of (by decide) (Nat.le_of_ble_eq_true rfl) (ls := [some (.ref q), some (.int p), none, none, none, none]) rfl (fun hb => ?_)
  refine go_aload_n dX12_otherwise_0 rfl ?_
  refine go_iconst (v := 0) dX12_otherwise_1 rfl ?_
  refine go_put dX12_otherwise_2 fp_X12_83_12 (Or.inr (fun _ _ _ h => by cases h; rfl)) mo_obj hq (by omega) (rfl) rfl (Nat.le_of_ble_eq_true rfl) ?_
  refine go_mem (mo_setO (F' := (upd F 16 (0))) (K' := K) rfl) ?_
  refine go_aload_n dX12_otherwise_5 rfl ?_
  refine go_iload_n dX12_otherwise_6 rfl ?_
  refine go_Vr [.int p] [] dX12_otherwise_7 vl_X12_165 ⟨by decide, by decide⟩ (e_X12_isPupil (F := (upd F 16 (0))) (A := A) (L := L) (K := K) hq hn hN hN8) mo_obj hq (by omega) rfl rfl (Nat.le_of_ble_eq_true rfl) (Nat.le_of_ble_eq_true rfl) (Nat.le_of_ble_eq_true rfl) ?_
  refine go_if_ne dX12_otherwise_10 (fun c10 => ?_) (fun c10 => ?_)
  · have c10 := bz_t c10
    obtain ⟨jp, hjp, rfl⟩ := okp_nI c10 (by omega)
    have kjp : (nI jp).toNatClampNeg = jp := nI_clamp (by omega)
    refine go_aload_n dX12_otherwise_15 rfl ?_
    refine go_iload_n dX12_otherwise_16 rfl ?_
    refine go_aload_n dX12_otherwise_17 rfl ?_
    refine go_get dX12_otherwise_18 fl_X12_13_12 mo_obj hq (by omega) rfl ?_
    refine go_iload_n dX12_otherwise_21 rfl ?_
    refine go_iald dX12_otherwise_22 (mo_arr 2 (by decide)) (by omega) (by omega) (vp_in_nI (n := jp) (by show jp < 8; omega) (by decide)) ?_
    refine go_tp (z := A 2 jp) (by rw [nI_clamp (by omega)]) ?_
    refine go_V [.int (nI jp), .int (A 2 jp)] [] dX12_otherwise_23 vl_X12_306 ⟨by decide, by decide⟩ (e_X12_borneBy (F := (upd F 16 (0))) (A := A) (L := L) (K := K) hq hn hN hN8 (by omega)) mo_obj hq (by omega) rfl rfl (Nat.le_of_ble_eq_true rfl) (Nat.le_of_ble_eq_true rfl) (Nat.le_of_ble_eq_true rfl) (fun r23 f23 n23 h23 => ?_)
    obtain ⟨rfl, rfl, hn23⟩ := h23
    subst n23
    refine go_istore_n (ls' := [some (.ref q), some (.int (nI jp)), some (.int (bbS N A jp (A 2 jp))), none, none, none]) dX12_otherwise_26 ⟨by decide, rfl, rfl⟩ ?_
    refine go_bipush (v := (-4)) dX12_otherwise_27 rfl ?_
    refine go_istore_n (ls' := [some (.ref q), some (.int (nI jp)), some (.int (bbS N A jp (A 2 jp))), some (.int (-4)), none, none]) dX12_otherwise_29 ⟨by decide, rfl, rfl⟩ ?_
    refine go_iconst (v := 0) dX12_otherwise_30 rfl ?_
    refine go_istore (ls' := [some (.ref q), some (.int (nI jp)), some (.int (bbS N A jp (A 2 jp))), some (.int (-4)), some (.int 0), none]) dX12_otherwise_31 ⟨by decide, rfl, rfl⟩ ?_
    have lp0 : ∀ (μ_lp0 : Nat) (i : Nat) (x y : Int32) (A1 : Nat → Nat → Int32) (hi : i ≤ 10) (hmi : 11 ≤ i + μ_lp0) (hy : y = othB N A jp i) (hx : x = othM N A jp i) (hA : ∀ j, j ≠ 19 → j ≠ 20 → A1 j = A j), Go G mX12_otherwise 7 0 0 Q9 0 0 33 [some (.ref q), some (.int (nI jp)), some (.int x), some (.int y), some (.int (nI i)), none] [] (mo G m0 q (upd F 16 (0)) A1 L K) n := by
      intro μ_lp0
      induction μ_lp0 with
      | zero =>
        intro i x y A1 hi hmi hy hx hA
        exact absurd hmi (by omega)
      | succ μ_lp0 ih_lp0 =>
        intro i x y A1 hi hmi hy hx hA
        refine go_iload dX12_otherwise_33 rfl ?_
        refine go_bipush (v := 9) dX12_otherwise_35 rfl ?_
        refine go_icmp_gt dX12_otherwise_37 (fun c37 => ?_) (fun c37 => ?_)
        · have c37n := (nI_ltI (a := 9) (b := i) (by omega) (by omega)).mp c37
          refine go_iload_n dX12_otherwise_75 rfl ?_
          exact go_iret dX12_otherwise_76 rfl (Nat.le_of_ble_eq_true rfl) (Nat.le_of_ble_eq_true rfl) (hQ9 ▸ ⟨rd_i (by unfold othS; rw [if_pos c10, kjp, hy, show i = 10 by omega]), ⟨_, hA, rfl⟩, rfl⟩)
        · have c37n := mt (nI_ltI (a := 9) (b := i) (by omega) (by omega)).mpr c37
          refine go_aload_n dX12_otherwise_40 rfl ?_
          refine go_iload_n dX12_otherwise_41 rfl ?_
          refine go_iload dX12_otherwise_42 rfl ?_
          refine go_V [.int (nI jp), .int (nI i)] [] dX12_otherwise_44 vl_X12_306 ⟨by decide, by decide⟩ (e_X12_borneBy (F := (upd F 16 (0))) (A := A1) (L := L) (K := K) hq hn hN hN8 (by omega)) mo_obj hq (by omega) rfl rfl (Nat.le_of_ble_eq_true rfl) (Nat.le_of_ble_eq_true rfl) (Nat.le_of_ble_eq_true rfl) (fun r44 f44 n44 h44 => ?_)
          obtain ⟨rfl, rfl, hn44⟩ := h44
          subst n44
          refine go_istore (ls' := [some (.ref q), some (.int (nI jp)), some (.int x), some (.int y), some (.int (nI i)), some (.int (bbS N A1 jp (nI i)))]) dX12_otherwise_47 ⟨by decide, rfl, rfl⟩ ?_
          refine go_iload dX12_otherwise_49 rfl ?_
          refine go_iload_n dX12_otherwise_51 rfl ?_
          refine go_icmp_le dX12_otherwise_52 (fun c52 => ?_) (fun c52 => ?_)
          · have c52 := Int32.not_lt.mpr c52
            refine go_iload_n dX12_otherwise_60 rfl ?_
            refine go_istore_n (ls' := [some (.ref q), some (.int (nI jp)), some (.int x), some (.int y), some (.int (nI i)), some (.int (bbS N A1 jp (nI i)))]) dX12_otherwise_61 ⟨by decide, rfl, rfl⟩ ?_
            refine go_iload_n dX12_otherwise_62 rfl ?_
            refine go_iload dX12_otherwise_63 rfl ?_
            refine go_Sr [.int x, .int (bbS N A1 jp (nI i))] [] dX12_otherwise_65 sl_X12_105 ⟨by decide, by decide⟩ (e_X12_greater) rfl rfl (Nat.le_of_ble_eq_true rfl) (Nat.le_of_ble_eq_true rfl) (Nat.le_of_ble_eq_true rfl) ?_
            refine go_istore_n (ls' := [some (.ref q), some (.int (nI jp)), some (.int (grS (x) (bbS N A1 jp (nI i)))), some (.int y), some (.int (nI i)), some (.int (bbS N A1 jp (nI i)))]) dX12_otherwise_68 ⟨by decide, rfl, rfl⟩ ?_
            refine go_iinc (v := nI (i + 1)) (ls' := [some (.ref q), some (.int (nI jp)), some (.int (grS (x) (bbS N A1 jp (nI i)))), some (.int y), some (.int (nI (i + 1))), some (.int (bbS N A1 jp (nI i)))]) dX12_otherwise_69 rfl (nI_1 (i)) ⟨by decide, rfl, rfl⟩ ?_
            refine go_goto dX12_otherwise_72 ?_
            refine go_weak (ls' := [some (.ref q), some (.int (nI jp)), some (.int (grS (x) (bbS N A1 jp (nI i)))), some (.int y), some (.int (nI (i + 1))), none]) ⟨rfl, rfl, rfl, rfl, rfl, trivial⟩ ?_
            have hb : bbS N A1 jp (nI i) = bbS N A jp (nI i) := bbS_rows hN8 hjp (hA 1 (by decide) (by decide)) (hA 2 (by decide) (by decide))
            exact ih_lp0 (i + 1) _ _ _ (by omega) (by omega) (by unfold othB; rw [← hx, ← hy, ← hb]; simp [c52]) (by unfold othM; rw [← hx, ← hb]) (fun j h1 h2 => by rw [bbA_row h1 h2]; exact hA j h1 h2)
          · have c52 := Int32.not_le.mp c52
            refine go_iload dX12_otherwise_55 rfl ?_
            refine go_goto dX12_otherwise_57 ?_
            refine go_istore_n (ls' := [some (.ref q), some (.int (nI jp)), some (.int x), some (.int (nI i)), some (.int (nI i)), some (.int (bbS N A1 jp (nI i)))]) dX12_otherwise_61 ⟨by decide, rfl, rfl⟩ ?_
            refine go_iload_n dX12_otherwise_62 rfl ?_
            refine go_iload dX12_otherwise_63 rfl ?_
            refine go_Sr [.int x, .int (bbS N A1 jp (nI i))] [] dX12_otherwise_65 sl_X12_105 ⟨by decide, by decide⟩ (e_X12_greater) rfl rfl (Nat.le_of_ble_eq_true rfl) (Nat.le_of_ble_eq_true rfl) (Nat.le_of_ble_eq_true rfl) ?_
            refine go_istore_n (ls' := [some (.ref q), some (.int (nI jp)), some (.int (grS (x) (bbS N A1 jp (nI i)))), some (.int (nI i)), some (.int (nI i)), some (.int (bbS N A1 jp (nI i)))]) dX12_otherwise_68 ⟨by decide, rfl, rfl⟩ ?_
            refine go_iinc (v := nI (i + 1)) (ls' := [some (.ref q), some (.int (nI jp)), some (.int (grS (x) (bbS N A1 jp (nI i)))), some (.int (nI i)), some (.int (nI (i + 1))), some (.int (bbS N A1 jp (nI i)))]) dX12_otherwise_69 rfl (nI_1 (i)) ⟨by decide, rfl, rfl⟩ ?_
            refine go_goto dX12_otherwise_72 ?_
            refine go_weak (ls' := [some (.ref q), some (.int (nI jp)), some (.int (grS (x) (bbS N A1 jp (nI i)))), some (.int (nI i)), some (.int (nI (i + 1))), none]) ⟨rfl, rfl, rfl, rfl, rfl, trivial⟩ ?_
            have hb : bbS N A1 jp (nI i) = bbS N A jp (nI i) := bbS_rows hN8 hjp (hA 1 (by decide) (by decide)) (hA 2 (by decide) (by decide))
            exact ih_lp0 (i + 1) _ _ _ (by omega) (by omega) (by unfold othB; rw [← hx, ← hy, ← hb]; simp [c52]) (by unfold othM; rw [← hx, ← hb]) (fun j h1 h2 => by rw [bbA_row h1 h2]; exact hA j h1 h2)
    exact lp0 11 0 _ _ _ (by omega) (by omega) rfl rfl (fun j h1 h2 => by rw [bbA_row h1 h2])
  · have c10 := bz_f c10
    refine go_iconst (v := (-1)) dX12_otherwise_13 rfl ?_
    exact go_iret dX12_otherwise_14 rfl (Nat.le_of_ble_eq_true rfl) (Nat.le_of_ble_eq_true rfl) (hQ9 ▸ ⟨rd_i (by unfold othS; rw [if_neg c10]), ⟨_, fun _ _ _ => rfl, rfl⟩, rfl⟩)
end M12
