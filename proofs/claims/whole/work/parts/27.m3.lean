section M3
variable {G : GX} {m0 f : Mem} {q n N M : Nat} {F : Nat → Int32} {A : Nat → Nat → Int32} {L : Nat → Nat → Int64} {K : Option Nat}
set_option maxHeartbeats 4000000 in
set_option maxRecDepth 100000 in
theorem e_X12_costOf {k fg : Int32} : Ev G mX12_costOf 1 0 0 [.int k, .int fg] f n (RD (.int (costS k fg)) f n) := by
  generalize hQ9 : (RD (.int (costS k fg)) f n : RQ) = Q9
  refine ev_of (by decide) (Nat.le_of_ble_eq_true rfl) (ls := [some (.int k), some (.int fg), none]) rfl (fun hb => ?_)
  refine go_iconst (v := 3) dX12_costOf_0 rfl ?_
  refine go_iload_n dX12_costOf_1 rfl ?_
  refine go_iadd dX12_costOf_2 ?_
  refine go_istore_n (ls' := [some (.int k), some (.int fg), some (.int (3 + fg))]) dX12_costOf_3 ⟨by decide, rfl, rfl⟩ ?_
  refine go_iload_n dX12_costOf_4 rfl ?_
  by_cases e5_0 : (k : Int32) = 0
  · refine go_tp e5_0 ?_
    refine go_tableIn (off := 43) (tgt := 48) dX12_costOf_5 (by decide) (by decide) (by decide) (by decide) ?_
    refine go_iconst (v := 3) dX12_costOf_48 rfl ?_
    exact go_iret dX12_costOf_49 rfl (Nat.le_of_ble_eq_true rfl) (Nat.le_of_ble_eq_true rfl) ((hQ9 ▸ ⟨rd_i (a := 3) (by simp [costS, e5_0]), rfl, rfl⟩))
  · by_cases e5_1 : (k : Int32) = 1
    · refine go_tp e5_1 ?_
      refine go_tableIn (off := 45) (tgt := 50) dX12_costOf_5 (by decide) (by decide) (by decide) (by decide) ?_
      refine go_iconst (v := 5) dX12_costOf_50 rfl ?_
      exact go_iret dX12_costOf_51 rfl (Nat.le_of_ble_eq_true rfl) (Nat.le_of_ble_eq_true rfl) ((hQ9 ▸ ⟨rd_i (a := 5) (by simp [costS, e5_0, e5_1]), rfl, rfl⟩))
    · by_cases e5_2 : (k : Int32) = 2
      · refine go_tp e5_2 ?_
        refine go_tableIn (off := 47) (tgt := 52) dX12_costOf_5 (by decide) (by decide) (by decide) (by decide) ?_
        refine go_iload_n dX12_costOf_52 rfl ?_
        exact go_iret dX12_costOf_53 rfl (Nat.le_of_ble_eq_true rfl) (Nat.le_of_ble_eq_true rfl) ((hQ9 ▸ ⟨rd_i (a := 3 + fg) (by simp [costS, e5_0, e5_1, e5_2]), rfl, rfl⟩))
      · by_cases e5_3 : (k : Int32) = 3
        · refine go_tp e5_3 ?_
          refine go_tableIn (off := 49) (tgt := 54) dX12_costOf_5 (by decide) (by decide) (by decide) (by decide) ?_
          refine go_iconst (v := 4) dX12_costOf_54 rfl ?_
          exact go_iret dX12_costOf_55 rfl (Nat.le_of_ble_eq_true rfl) (Nat.le_of_ble_eq_true rfl) ((hQ9 ▸ ⟨rd_i (a := 4) (by simp [costS, e5_0, e5_1, e5_2, e5_3]), rfl, rfl⟩))
        · by_cases e5_4 : (k : Int32) = 4
          · refine go_tp e5_4 ?_
            refine go_tableIn (off := 51) (tgt := 56) dX12_costOf_5 (by decide) (by decide) (by decide) (by decide) ?_
            refine go_iconst (v := 2) dX12_costOf_56 rfl ?_
            refine go_iload_n dX12_costOf_57 rfl ?_
            refine go_imul dX12_costOf_58 ?_
            exact go_iret dX12_costOf_59 rfl (Nat.le_of_ble_eq_true rfl) (Nat.le_of_ble_eq_true rfl) ((hQ9 ▸ ⟨rd_i (a := 2 * (3 + fg)) (by simp [costS, e5_0, e5_1, e5_2, e5_3, e5_4]), rfl, rfl⟩))
          · by_cases e5_5 : (k : Int32) = 5
            · refine go_tp e5_5 ?_
              refine go_tableIn (off := 55) (tgt := 60) dX12_costOf_5 (by decide) (by decide) (by decide) (by decide) ?_
              refine go_iconst (v := 2) dX12_costOf_60 rfl ?_
              exact go_iret dX12_costOf_61 rfl (Nat.le_of_ble_eq_true rfl) (Nat.le_of_ble_eq_true rfl) ((hQ9 ▸ ⟨rd_i (a := 2) (by simp [costS, e5_0, e5_1, e5_2, e5_3, e5_4, e5_5]), rfl, rfl⟩))
            · by_cases e5_6 : (k : Int32) = 6
              · refine go_tp e5_6 ?_
                refine go_tableIn (off := 57) (tgt := 62) dX12_costOf_5 (by decide) (by decide) (by decide) (by decide) ?_
                refine go_iload_n dX12_costOf_62 rfl ?_
                refine go_iconst (v := 2) dX12_costOf_63 rfl ?_
                refine go_iadd dX12_costOf_64 ?_
                exact go_iret dX12_costOf_65 rfl (Nat.le_of_ble_eq_true rfl) (Nat.le_of_ble_eq_true rfl) ((hQ9 ▸ ⟨rd_i (a := (3 + fg) + 2) (by simp [costS, e5_0, e5_1, e5_2, e5_3, e5_4, e5_5, e5_6]), rfl, rfl⟩))
              · refine go_tableOut dX12_costOf_5 (tgt := 66) (by have := i32_ne (v := 0) (k := 0) rfl e5_0; have := i32_ne (v := 1) (k := 1) rfl e5_1; have := i32_ne (v := 2) (k := 2) rfl e5_2; have := i32_ne (v := 3) (k := 3) rfl e5_3; have := i32_ne (v := 4) (k := 4) rfl e5_4; have := i32_ne (v := 5) (k := 5) rfl e5_5; have := i32_ne (v := 6) (k := 6) rfl e5_6; omega) (by decide) ?_
                refine go_iconst (v := 4) dX12_costOf_66 rfl ?_
                refine go_iload_n dX12_costOf_67 rfl ?_
                refine go_iadd dX12_costOf_68 ?_
                exact go_iret dX12_costOf_69 rfl (Nat.le_of_ble_eq_true rfl) (Nat.le_of_ble_eq_true rfl) ((hQ9 ▸ ⟨rd_i (a := 4 + fg) (by simp [costS, e5_0, e5_1, e5_2, e5_3, e5_4, e5_5, e5_6]), rfl, rfl⟩))
set_option maxHeartbeats 4000000 in
set_option maxRecDepth 100000 in
theorem e_X12_narrowed {v s : Int32} : Ev G mX12_narrowed 1 0 0 [.int v, .int s] f n (RD (.long (nrS v s)) f n) := by
  generalize hQ9 : (RD (.long (nrS v s)) f n : RQ) = Q9
  refine ev_of (by decide) (Nat.le_of_ble_eq_true rfl) (ls := [some (.int v), some (.int s)]) rfl (fun hb => ?_)
  refine go_iload_n dX12_narrowed_0 rfl ?_
  refine go_if_ne dX12_narrowed_1 (fun c1 => ?_) (fun c1 => ?_)
  · refine go_iload_n dX12_narrowed_10 rfl ?_
    refine go_iconst (v := 1) dX12_narrowed_11 rfl ?_
    refine go_icmp_ne dX12_narrowed_12 (fun c12 => ?_) (fun c12 => ?_)
    · refine go_iload_n dX12_narrowed_21 rfl ?_
      refine go_i2l dX12_narrowed_22 ?_
      exact go_lret dX12_narrowed_23 rfl (Nat.le_of_ble_eq_true rfl) (Nat.le_of_ble_eq_true rfl) ((hQ9 ▸ ⟨rd_l (a := (v).toInt64) (by simp [nrS, c1, c12]), rfl, rfl⟩))
    · subst c12
      refine go_iload_n dX12_narrowed_15 rfl ?_
      refine go_i2s dX12_narrowed_16 ?_
      refine go_i2l dX12_narrowed_17 ?_
      refine go_goto dX12_narrowed_18 ?_
      exact go_lret dX12_narrowed_23 rfl (Nat.le_of_ble_eq_true rfl) (Nat.le_of_ble_eq_true rfl) ((hQ9 ▸ ⟨rd_l (a := ((v).toInt16.toInt32).toInt64) (by simp [nrS, c1]), rfl, rfl⟩))
  · subst c1
    refine go_iload_n dX12_narrowed_4 rfl ?_
    refine go_i2b dX12_narrowed_5 ?_
    refine go_i2l dX12_narrowed_6 ?_
    refine go_goto dX12_narrowed_7 ?_
    exact go_lret dX12_narrowed_23 rfl (Nat.le_of_ble_eq_true rfl) (Nat.le_of_ble_eq_true rfl) ((hQ9 ▸ ⟨rd_l (a := ((v).toInt8.toInt32).toInt64) (by simp [nrS]), rfl, rfl⟩))
set_option maxHeartbeats 4000000 in
set_option maxRecDepth 100000 in
theorem e_X12_skipped (hq : G.2.1 ≤ q) (hn : q + 25 ≤ n) {d : Nat} (hd : d < 8) : Ev G mX12_skipped 1 0 0 [.ref q, .int (nI d)] (mo G m0 q F A L K) n (RD (.long (skS (A 11 d))) (mo G m0 q F A L K) n) := by
  generalize hQ9 : (RD (.long (skS (A 11 d))) (mo G m0 q F A L K) n : RQ) = Q9
  refine ev_of (by decide) (Nat.le_of_ble_eq_true rfl) (ls := [some (.ref q), some (.int (nI d))]) rfl (fun hb => ?_)
  refine go_aload_n dX12_skipped_0 rfl ?_
  refine go_get dX12_skipped_1 fl_X12_40_12 mo_obj hq (by omega) rfl ?_
  refine go_iload_n dX12_skipped_4 rfl ?_
  refine go_iald dX12_skipped_5 (mo_arr 11 (by decide)) (by omega) (by omega) (vp_in_nI (n := d) (by show d < 8; omega) (by decide)) ?_
  refine go_tp (z := A 11 d) (by rw [nI_clamp (by omega)]) ?_
  refine go_if_ne dX12_skipped_6 (fun c6 => ?_) (fun c6 => ?_)
  · refine go_aload_n dX12_skipped_15 rfl ?_
    refine go_get dX12_skipped_16 fl_X12_40_12 mo_obj hq (by omega) rfl ?_
    refine go_iload_n dX12_skipped_19 rfl ?_
    refine go_iald dX12_skipped_20 (mo_arr 11 (by decide)) (by omega) (by omega) (vp_in_nI (n := d) (by show d < 8; omega) (by decide)) ?_
    refine go_tp (z := A 11 d) (by rw [nI_clamp (by omega)]) ?_
    refine go_iconst (v := 1) dX12_skipped_21 rfl ?_
    refine go_icmp_ne dX12_skipped_22 (fun c22 => ?_) (fun c22 => ?_)
    · refine go_ldc2 (v := -2147483648) dX12_skipped_31 wm_1584 ?_
      exact go_lret dX12_skipped_34 rfl (Nat.le_of_ble_eq_true rfl) (Nat.le_of_ble_eq_true rfl) ((hQ9 ▸ ⟨rd_l (a := (-2147483648)) (by simp [skS, c6, c22]), rfl, rfl⟩))
    · refine go_ldc2 (v := -32768) dX12_skipped_25 wm_1583 ?_
      refine go_goto dX12_skipped_28 ?_
      exact go_lret dX12_skipped_34 rfl (Nat.le_of_ble_eq_true rfl) (Nat.le_of_ble_eq_true rfl) ((hQ9 ▸ ⟨rd_l (a := (-32768)) (by simp [skS, c6, c22]), rfl, rfl⟩))
  · refine go_ldc2 (v := -128) dX12_skipped_9 wm_1582 ?_
    refine go_goto dX12_skipped_12 ?_
    exact go_lret dX12_skipped_34 rfl (Nat.le_of_ble_eq_true rfl) (Nat.le_of_ble_eq_true rfl) ((hQ9 ▸ ⟨rd_l (a := (-128)) (by simp [skS, c6]), rfl, rfl⟩))
set_option maxHeartbeats 4000000 in
set_option maxRecDepth 100000 in
theorem e_X12_areTwo (hq : G.2.1 ≤ q) (hn : q + 25 ≤ n) (hN : F 0 = nI N) (hN8 : N ≤ 8) {a b : Int32} : Ev G mX12_areTwo 3 0 0 [.ref q, .int a, .int b] (mo G m0 q F A L K) n (RD (.int (if twoS N a b then 1 else 0)) (mo G m0 q F A L K) n) := by
  generalize hQ9 : (RD (.int (if twoS N a b then 1 else 0)) (mo G m0 q F A L K) n : RQ) = Q9
  refine ev_of (by decide) (Nat.le_of_ble_eq_true rfl) (ls := [some (.ref q), some (.int a), some (.int b)]) rfl (fun hb => ?_)
  refine go_aload_n dX12_areTwo_0 rfl ?_
  refine go_iload_n dX12_areTwo_1 rfl ?_
  refine go_Vr [.int a] [] dX12_areTwo_2 vl_X12_165 ⟨by decide, by decide⟩ (e_X12_isPupil (F := F) (A := A) (L := L) (K := K) hq hn hN hN8) mo_obj hq (by omega) rfl rfl (Nat.le_of_ble_eq_true rfl) (Nat.le_of_ble_eq_true rfl) (Nat.le_of_ble_eq_true rfl) ?_
  refine go_if_eq dX12_areTwo_5 (fun c5 => ?_) (fun c5 => ?_)
  · have c5 := bz_f c5
    refine go_iconst (v := 0) dX12_areTwo_25 rfl ?_
    exact go_zret dX12_areTwo_26 rfl (Nat.le_of_ble_eq_true rfl) (Nat.le_of_ble_eq_true rfl) (rfl) ((hQ9 ▸ ⟨rd_i (a := 0) (by simp [twoS, c5]), rfl, rfl⟩))
  · have c5 := bz_t c5
    obtain ⟨ja, hja, rfl⟩ := okp_nI c5 (by omega)
    have kja : (nI ja).toNatClampNeg = ja := nI_clamp (by omega)
    refine go_aload_n dX12_areTwo_8 rfl ?_
    refine go_iload_n dX12_areTwo_9 rfl ?_
    refine go_Vr [.int b] [] dX12_areTwo_10 vl_X12_165 ⟨by decide, by decide⟩ (e_X12_isPupil (F := F) (A := A) (L := L) (K := K) hq hn hN hN8) mo_obj hq (by omega) rfl rfl (Nat.le_of_ble_eq_true rfl) (Nat.le_of_ble_eq_true rfl) (Nat.le_of_ble_eq_true rfl) ?_
    refine go_if_eq dX12_areTwo_13 (fun c13 => ?_) (fun c13 => ?_)
    · have c13 := bz_f c13
      refine go_iconst (v := 0) dX12_areTwo_25 rfl ?_
      exact go_zret dX12_areTwo_26 rfl (Nat.le_of_ble_eq_true rfl) (Nat.le_of_ble_eq_true rfl) (rfl) ((hQ9 ▸ ⟨rd_i (a := 0) (by simp [twoS, c5, kja, c13]), rfl, rfl⟩))
    · have c13 := bz_t c13
      obtain ⟨jb, hjb, rfl⟩ := okp_nI c13 (by omega)
      have kjb : (nI jb).toNatClampNeg = jb := nI_clamp (by omega)
      refine go_iload_n dX12_areTwo_16 rfl ?_
      refine go_iload_n dX12_areTwo_17 rfl ?_
      refine go_icmp_eq dX12_areTwo_18 (fun c18 => ?_) (fun c18 => ?_)
      · have c18n := (nI_eq (a := ja) (b := jb) (by omega) (by omega)).mp c18
        refine go_iconst (v := 0) dX12_areTwo_25 rfl ?_
        exact go_zret dX12_areTwo_26 rfl (Nat.le_of_ble_eq_true rfl) (Nat.le_of_ble_eq_true rfl) (rfl) ((hQ9 ▸ ⟨rd_i (a := 0) (by first | (simp [twoS, c5, kja, c13, kjb, c18]; done) | (simp [twoS, c5, kja, c13, kjb, c18, c18n]; done)), rfl, rfl⟩))
      · have c18n := mt (nI_eq (a := ja) (b := jb) (by omega) (by omega)).mpr c18
        refine go_iconst (v := 1) dX12_areTwo_21 rfl ?_
        refine go_goto dX12_areTwo_22 ?_
        exact go_zret dX12_areTwo_26 rfl (Nat.le_of_ble_eq_true rfl) (Nat.le_of_ble_eq_true rfl) (rfl) ((hQ9 ▸ ⟨rd_i (a := 1) (by simp [twoS, c5, kja, c13, kjb, c18, c18n]), rfl, rfl⟩))
set_option maxHeartbeats 4000000 in
set_option maxRecDepth 100000 in
theorem e_X12_pupilComes (hq : G.2.1 ≤ q) (hn : q + 25 ≤ n) (hN : F 0 = nI N) (hN8 : N ≤ 8) {k fg h : Int32} : Ev G mX12_pupilComes 1 0 0 [.ref q, .int k, .int fg, .int h] (mo G m0 q F A L K) n (fun r f1 n1 => r = some (.int (if pcC N k h then 1 else 0)) ∧ f1 = (if pcC N k h then (mo G m0 q (upd F 0 (nI (N + 1))) (pcA N A k fg h) L K) else (mo G m0 q F A L K)) ∧ n1 = n) := by
  generalize hQ9 : (fun r f1 n1 => r = some (.int (if pcC N k h then 1 else 0)) ∧ f1 = (if pcC N k h then (mo G m0 q (upd F 0 (nI (N + 1))) (pcA N A k fg h) L K) else (mo G m0 q F A L K)) ∧ n1 = n : RQ) = Q9
  refine ev_of (by decide) (Nat.le_of_ble_eq_true rfl) (ls := [some (.ref q), some (.int k), some (.int fg), some (.int h), none]) rfl (fun hb => ?_)
  refine go_iload_n dX12_pupilComes_0 rfl ?_
  refine go_bipush (v := 8) dX12_pupilComes_1 rfl ?_
  refine go_icmp_ge dX12_pupilComes_3 (fun c3 => ?_) (fun c3 => ?_)
  · have c3 := Int32.not_lt.mpr c3
    refine go_iconst (v := 0) dX12_pupilComes_25 rfl ?_
    refine go_istore (ls' := [some (.ref q), some (.int k), some (.int fg), some (.int h), some (.int 0)]) dX12_pupilComes_26 ⟨by decide, rfl, rfl⟩ ?_
    refine go_iload dX12_pupilComes_28 rfl ?_
    refine go_if_eq dX12_pupilComes_30 (fun c30 => ?_) (fun c30 => ?_)
    · have c30n := (n0_eq (a := 0) (by omega)).mp c30
      refine go_iload dX12_pupilComes_84 rfl ?_
      exact go_zret dX12_pupilComes_86 rfl (Nat.le_of_ble_eq_true rfl) (Nat.le_of_ble_eq_true rfl) (rfl) (hQ9 ▸ ⟨rd_i (a := 0) (by simp [pcC, pcA, c3]), by simp [pcC, pcA, c3], rfl⟩)
    · have c30n := mt (n0_eq (a := 0) (by omega)).mpr c30
      first | exact absurd c30n (by decide) | exact absurd (by decide) c30n | exact absurd rfl c30n | omega
  · have c3 := Int32.not_le.mp c3
    refine go_iload_n dX12_pupilComes_6 rfl ?_
    refine go_bipush (v := 6) dX12_pupilComes_7 rfl ?_
    refine go_icmp_ge dX12_pupilComes_9 (fun c9 => ?_) (fun c9 => ?_)
    · have c9 := Int32.not_lt.mpr c9
      refine go_iconst (v := 0) dX12_pupilComes_25 rfl ?_
      refine go_istore (ls' := [some (.ref q), some (.int k), some (.int fg), some (.int h), some (.int 0)]) dX12_pupilComes_26 ⟨by decide, rfl, rfl⟩ ?_
      refine go_iload dX12_pupilComes_28 rfl ?_
      refine go_if_eq dX12_pupilComes_30 (fun c30 => ?_) (fun c30 => ?_)
      · have c30n := (n0_eq (a := 0) (by omega)).mp c30
        refine go_iload dX12_pupilComes_84 rfl ?_
        exact go_zret dX12_pupilComes_86 rfl (Nat.le_of_ble_eq_true rfl) (Nat.le_of_ble_eq_true rfl) (rfl) (hQ9 ▸ ⟨rd_i (a := 0) (by simp [pcC, pcA, c3, c9]), by simp [pcC, pcA, c3, c9], rfl⟩)
      · have c30n := mt (n0_eq (a := 0) (by omega)).mpr c30
        first | exact absurd c30n (by decide) | exact absurd (by decide) c30n | exact absurd rfl c30n | omega
    · have c9 := Int32.not_le.mp c9
      refine go_aload_n dX12_pupilComes_12 rfl ?_
      refine go_get dX12_pupilComes_13 fl_X12_87_12 mo_obj hq (by omega) rfl ?_
      refine go_tp (z := nI N) (hN) ?_
      refine go_bipush (v := 8) dX12_pupilComes_16 rfl ?_
      refine go_icmp_ge dX12_pupilComes_18 (fun c18 => ?_) (fun c18 => ?_)
      · have c18n := (nI_leI (a := 8) (b := N) (by omega) (by omega)).mp c18
        have c18n := Nat.not_lt.mpr c18n
        have c18 := Int32.not_lt.mpr c18
        refine go_iconst (v := 0) dX12_pupilComes_25 rfl ?_
        refine go_istore (ls' := [some (.ref q), some (.int k), some (.int fg), some (.int h), some (.int 0)]) dX12_pupilComes_26 ⟨by decide, rfl, rfl⟩ ?_
        refine go_iload dX12_pupilComes_28 rfl ?_
        refine go_if_eq dX12_pupilComes_30 (fun c30 => ?_) (fun c30 => ?_)
        · have c30n := (n0_eq (a := 0) (by omega)).mp c30
          refine go_iload dX12_pupilComes_84 rfl ?_
          exact go_zret dX12_pupilComes_86 rfl (Nat.le_of_ble_eq_true rfl) (Nat.le_of_ble_eq_true rfl) (rfl) (hQ9 ▸ ⟨rd_i (a := 0) (by simp [pcC, pcA, c3, c9, c18, c18n]), by simp [pcC, pcA, c3, c9, c18, c18n], rfl⟩)
        · have c30n := mt (n0_eq (a := 0) (by omega)).mpr c30
          first | exact absurd c30n (by decide) | exact absurd (by decide) c30n | exact absurd rfl c30n | omega
      · have c18n := mt (nI_leI (a := 8) (b := N) (by omega) (by omega)).mpr c18
        have c18n := Nat.lt_of_not_le c18n
        have c18 := Int32.not_le.mp c18
        refine go_iconst (v := 1) dX12_pupilComes_21 rfl ?_
        refine go_goto dX12_pupilComes_22 ?_
        refine go_istore (ls' := [some (.ref q), some (.int k), some (.int fg), some (.int h), some (.int 1)]) dX12_pupilComes_26 ⟨by decide, rfl, rfl⟩ ?_
        refine go_iload dX12_pupilComes_28 rfl ?_
        refine go_if_eq dX12_pupilComes_30 (fun c30 => ?_) (fun c30 => ?_)
        · have c30n := (n0_eq (a := 1) (by omega)).mp c30
          first | exact absurd c30n (by decide) | exact absurd (by decide) c30n | exact absurd rfl c30n | omega
        · have c30n := mt (n0_eq (a := 1) (by omega)).mpr c30
          refine go_aload_n dX12_pupilComes_33 rfl ?_
          refine go_get dX12_pupilComes_34 fl_X12_7_12 mo_obj hq (by omega) rfl ?_
          refine go_aload_n dX12_pupilComes_37 rfl ?_
          refine go_get dX12_pupilComes_38 fl_X12_87_12 mo_obj hq (by omega) rfl ?_
          refine go_tp (z := nI N) (hN) ?_
          refine go_iload_n dX12_pupilComes_41 rfl ?_
          refine go_iast dX12_pupilComes_42 (mo_arr 1 (by decide)) (by omega) (by omega) (vp_in_nI (n := N) (by show N < 8; omega) (by decide)) ?_
          refine go_mem (mo_setA 1 (by decide) _ _) ?_
          rw [nI_clamp (by omega)]
          refine go_aload_n dX12_pupilComes_43 rfl ?_
          refine go_get dX12_pupilComes_44 fl_X12_13_12 mo_obj hq (by omega) rfl ?_
          refine go_aload_n dX12_pupilComes_47 rfl ?_
          refine go_get dX12_pupilComes_48 fl_X12_87_12 mo_obj hq (by omega) rfl ?_
          refine go_tp (z := nI N) (hN) ?_
          refine go_iload_n dX12_pupilComes_51 rfl ?_
          refine go_iast dX12_pupilComes_52 (mo_arr 2 (by decide)) (by omega) (by omega) (vp_in_nI (n := N) (by show N < 8; omega) (by decide)) ?_
          refine go_mem (mo_setA 2 (by decide) _ _) ?_
          rw [nI_clamp (by omega)]
          refine go_aload_n dX12_pupilComes_53 rfl ?_
          refine go_get dX12_pupilComes_54 fl_X12_16_12 mo_obj hq (by omega) rfl ?_
          refine go_aload_n dX12_pupilComes_57 rfl ?_
          refine go_get dX12_pupilComes_58 fl_X12_87_12 mo_obj hq (by omega) rfl ?_
          refine go_tp (z := nI N) (hN) ?_
          refine go_iload_n dX12_pupilComes_61 rfl ?_
          refine go_iast dX12_pupilComes_62 (mo_arr 3 (by decide)) (by omega) (by omega) (vp_in_nI (n := N) (by show N < 8; omega) (by decide)) ?_
          refine go_mem (mo_setA 3 (by decide) _ _) ?_
          rw [nI_clamp (by omega)]
          refine go_aload_n dX12_pupilComes_63 rfl ?_
          refine go_get dX12_pupilComes_64 fl_X12_19_12 mo_obj hq (by omega) rfl ?_
          refine go_aload_n dX12_pupilComes_67 rfl ?_
          refine go_get dX12_pupilComes_68 fl_X12_87_12 mo_obj hq (by omega) rfl ?_
          refine go_tp (z := nI N) (hN) ?_
          refine go_bipush (v := 9) dX12_pupilComes_71 rfl ?_
          refine go_iast dX12_pupilComes_73 (mo_arr 4 (by decide)) (by omega) (by omega) (vp_in_nI (n := N) (by show N < 8; omega) (by decide)) ?_
          refine go_mem (mo_setA 4 (by decide) _ _) ?_
          rw [nI_clamp (by omega)]
          refine go_aload_n dX12_pupilComes_74 rfl ?_
          refine go_dup dX12_pupilComes_75 rfl ?_
          refine go_get dX12_pupilComes_76 fl_X12_87_12 mo_obj hq (by omega) rfl ?_
          refine go_tp (z := nI N) (hN) ?_
          refine go_iconst (v := 1) dX12_pupilComes_79 rfl ?_
          refine go_iadd dX12_pupilComes_80 ?_
          refine go_tp (z := nI (N + 1)) (nI_add N 1) ?_
          refine go_put dX12_pupilComes_81 fp_X12_87_12 (Or.inr (fun _ _ _ h => by cases h; rfl)) mo_obj hq (by omega) (rfl) rfl (Nat.le_of_ble_eq_true rfl) ?_
          refine go_mem (mo_setO (F' := (upd F 0 (nI (N + 1)))) (K' := K) rfl) ?_
          refine go_iload dX12_pupilComes_84 rfl ?_
          exact go_zret dX12_pupilComes_86 rfl (Nat.le_of_ble_eq_true rfl) (Nat.le_of_ble_eq_true rfl) (rfl) (hQ9 ▸ ⟨rd_i (a := 1) (by simp [pcC, pcA, c3, c9, c18, c18n]), by simp [pcC, pcA, c3, c9, c18, c18n], rfl⟩)
set_option maxHeartbeats 4000000 in
set_option maxRecDepth 100000 in
theorem e_X12_lockerComes (hq : G.2.1 ≤ q) (hn : q + 25 ≤ n) (hM : F 5 = nI M) (hM5 : M ≤ 5) {far ab : Int32} : Ev G mX12_lockerComes 1 0 0 [.ref q, .int far, .int ab] (mo G m0 q F A L K) n (fun r f1 n1 => r = some (.int (if lcC M ab then 1 else 0)) ∧ f1 = (if lcC M ab then (mo G m0 q (upd F 5 (nI (M + 1))) (lcA M A far ab) L K) else (mo G m0 q F A L K)) ∧ n1 = n) := by
  generalize hQ9 : (fun r f1 n1 => r = some (.int (if lcC M ab then 1 else 0)) ∧ f1 = (if lcC M ab then (mo G m0 q (upd F 5 (nI (M + 1))) (lcA M A far ab) L K) else (mo G m0 q F A L K)) ∧ n1 = n : RQ) = Q9
  refine ev_of (by decide) (Nat.le_of_ble_eq_true rfl) (ls := [some (.ref q), some (.int far), some (.int ab), none]) rfl (fun hb => ?_)
  refine go_iload_n dX12_lockerComes_0 rfl ?_
  refine go_iconst (v := 2) dX12_lockerComes_1 rfl ?_
  refine go_icmp_ge dX12_lockerComes_2 (fun c2 => ?_) (fun c2 => ?_)
  · have c2 := Int32.not_lt.mpr c2
    refine go_iconst (v := 0) dX12_lockerComes_17 rfl ?_
    refine go_istore_n (ls' := [some (.ref q), some (.int far), some (.int ab), some (.int 0)]) dX12_lockerComes_18 ⟨by decide, rfl, rfl⟩ ?_
    refine go_iload_n dX12_lockerComes_19 rfl ?_
    refine go_if_eq dX12_lockerComes_20 (fun c20 => ?_) (fun c20 => ?_)
    · have c20n := (n0_eq (a := 0) (by omega)).mp c20
      refine go_iload_n dX12_lockerComes_63 rfl ?_
      exact go_zret dX12_lockerComes_64 rfl (Nat.le_of_ble_eq_true rfl) (Nat.le_of_ble_eq_true rfl) (rfl) (hQ9 ▸ ⟨rd_i (a := 0) (by simp [lcC, lcA, c2]), by simp [lcC, lcA, c2], rfl⟩)
    · have c20n := mt (n0_eq (a := 0) (by omega)).mpr c20
      first | exact absurd c20n (by decide) | exact absurd (by decide) c20n | exact absurd rfl c20n | omega
  · have c2 := Int32.not_le.mp c2
    refine go_aload_n dX12_lockerComes_5 rfl ?_
    refine go_get dX12_lockerComes_6 fl_X12_94_12 mo_obj hq (by omega) rfl ?_
    refine go_tp (z := nI M) (hM) ?_
    refine go_iconst (v := 5) dX12_lockerComes_9 rfl ?_
    refine go_icmp_ge dX12_lockerComes_10 (fun c10 => ?_) (fun c10 => ?_)
    · have c10n := (nI_leI (a := 5) (b := M) (by omega) (by omega)).mp c10
      have c10n := Nat.not_lt.mpr c10n
      have c10 := Int32.not_lt.mpr c10
      refine go_iconst (v := 0) dX12_lockerComes_17 rfl ?_
      refine go_istore_n (ls' := [some (.ref q), some (.int far), some (.int ab), some (.int 0)]) dX12_lockerComes_18 ⟨by decide, rfl, rfl⟩ ?_
      refine go_iload_n dX12_lockerComes_19 rfl ?_
      refine go_if_eq dX12_lockerComes_20 (fun c20 => ?_) (fun c20 => ?_)
      · have c20n := (n0_eq (a := 0) (by omega)).mp c20
        refine go_iload_n dX12_lockerComes_63 rfl ?_
        exact go_zret dX12_lockerComes_64 rfl (Nat.le_of_ble_eq_true rfl) (Nat.le_of_ble_eq_true rfl) (rfl) (hQ9 ▸ ⟨rd_i (a := 0) (by simp [lcC, lcA, c2, c10, c10n]), by simp [lcC, lcA, c2, c10, c10n], rfl⟩)
      · have c20n := mt (n0_eq (a := 0) (by omega)).mpr c20
        first | exact absurd c20n (by decide) | exact absurd (by decide) c20n | exact absurd rfl c20n | omega
    · have c10n := mt (nI_leI (a := 5) (b := M) (by omega) (by omega)).mpr c10
      have c10n := Nat.lt_of_not_le c10n
      have c10 := Int32.not_le.mp c10
      refine go_iconst (v := 1) dX12_lockerComes_13 rfl ?_
      refine go_goto dX12_lockerComes_14 ?_
      refine go_istore_n (ls' := [some (.ref q), some (.int far), some (.int ab), some (.int 1)]) dX12_lockerComes_18 ⟨by decide, rfl, rfl⟩ ?_
      refine go_iload_n dX12_lockerComes_19 rfl ?_
      refine go_if_eq dX12_lockerComes_20 (fun c20 => ?_) (fun c20 => ?_)
      · have c20n := (n0_eq (a := 1) (by omega)).mp c20
        first | exact absurd c20n (by decide) | exact absurd (by decide) c20n | exact absurd rfl c20n | omega
      · have c20n := mt (n0_eq (a := 1) (by omega)).mpr c20
        refine go_aload_n dX12_lockerComes_23 rfl ?_
        refine go_get dX12_lockerComes_24 fl_X12_22_12 mo_obj hq (by omega) rfl ?_
        refine go_aload_n dX12_lockerComes_27 rfl ?_
        refine go_get dX12_lockerComes_28 fl_X12_94_12 mo_obj hq (by omega) rfl ?_
        refine go_tp (z := nI M) (hM) ?_
        refine go_iload_n dX12_lockerComes_31 rfl ?_
        refine go_iast dX12_lockerComes_32 (mo_arr 5 (by decide)) (by omega) (by omega) (vp_in_nI (n := M) (by show M < 5; omega) (by decide)) ?_
        refine go_mem (mo_setA 5 (by decide) _ _) ?_
        rw [nI_clamp (by omega)]
        refine go_aload_n dX12_lockerComes_33 rfl ?_
        refine go_get dX12_lockerComes_34 fl_X12_25_12 mo_obj hq (by omega) rfl ?_
        refine go_aload_n dX12_lockerComes_37 rfl ?_
        refine go_get dX12_lockerComes_38 fl_X12_94_12 mo_obj hq (by omega) rfl ?_
        refine go_tp (z := nI M) (hM) ?_
        refine go_iload_n dX12_lockerComes_41 rfl ?_
        refine go_iast dX12_lockerComes_42 (mo_arr 6 (by decide)) (by omega) (by omega) (vp_in_nI (n := M) (by show M < 5; omega) (by decide)) ?_
        refine go_mem (mo_setA 6 (by decide) _ _) ?_
        rw [nI_clamp (by omega)]
        refine go_aload_n dX12_lockerComes_43 rfl ?_
        refine go_get dX12_lockerComes_44 fl_X12_28_12 mo_obj hq (by omega) rfl ?_
        refine go_aload_n dX12_lockerComes_47 rfl ?_
        refine go_get dX12_lockerComes_48 fl_X12_94_12 mo_obj hq (by omega) rfl ?_
        refine go_tp (z := nI M) (hM) ?_
        refine go_iconst (v := 2) dX12_lockerComes_51 rfl ?_
        refine go_iast dX12_lockerComes_52 (mo_arr 7 (by decide)) (by omega) (by omega) (vp_in_nI (n := M) (by show M < 5; omega) (by decide)) ?_
        refine go_mem (mo_setA 7 (by decide) _ _) ?_
        rw [nI_clamp (by omega)]
        refine go_aload_n dX12_lockerComes_53 rfl ?_
        refine go_dup dX12_lockerComes_54 rfl ?_
        refine go_get dX12_lockerComes_55 fl_X12_94_12 mo_obj hq (by omega) rfl ?_
        refine go_tp (z := nI M) (hM) ?_
        refine go_iconst (v := 1) dX12_lockerComes_58 rfl ?_
        refine go_iadd dX12_lockerComes_59 ?_
        refine go_tp (z := nI (M + 1)) (nI_add M 1) ?_
        refine go_put dX12_lockerComes_60 fp_X12_94_12 (Or.inr (fun _ _ _ h => by cases h; rfl)) mo_obj hq (by omega) (rfl) rfl (Nat.le_of_ble_eq_true rfl) ?_
        refine go_mem (mo_setO (F' := (upd F 5 (nI (M + 1)))) (K' := K) rfl) ?_
        refine go_iload_n dX12_lockerComes_63 rfl ?_
        exact go_zret dX12_lockerComes_64 rfl (Nat.le_of_ble_eq_true rfl) (Nat.le_of_ble_eq_true rfl) (rfl) (hQ9 ▸ ⟨rd_i (a := 1) (by simp [lcC, lcA, c2, c10, c10n]), by simp [lcC, lcA, c2, c10, c10n], rfl⟩)
set_option maxHeartbeats 4000000 in
set_option maxRecDepth 100000 in
theorem e_X12_makesKeys (hq : G.2.1 ≤ q) (hn : q + 25 ≤ n) (hM : F 5 = nI M) (hM5 : M ≤ 5) {P : Int32} (hP : F 9 = P) {l : Int32} : Ev G mX12_makesKeys 3 0 0 [.ref q, .int l] (mo G m0 q F A L K) n (fun r f1 n1 => r = some (.int (if mkC M P l then 1 else 0)) ∧ f1 = (if mkC M P l then (mo G m0 q (upd F 9 (P + 5)) (mkA A l) L K) else (mo G m0 q F A L K)) ∧ n1 = n) := by
  generalize hQ9 : (fun r f1 n1 => r = some (.int (if mkC M P l then 1 else 0)) ∧ f1 = (if mkC M P l then (mo G m0 q (upd F 9 (P + 5)) (mkA A l) L K) else (mo G m0 q F A L K)) ∧ n1 = n : RQ) = Q9
  refine ev_of (by decide) (Nat.le_of_ble_eq_true rfl) (ls := [some (.ref q), some (.int l), none]) rfl (fun hb => ?_)
  refine go_aload_n dX12_makesKeys_0 rfl ?_
  refine go_iload_n dX12_makesKeys_1 rfl ?_
  refine go_Vr [.int l] [] dX12_makesKeys_2 vl_X12_151 ⟨by decide, by decide⟩ (e_X12_isLocker (F := F) (A := A) (L := L) (K := K) hq hn hM hM5) mo_obj hq (by omega) rfl rfl (Nat.le_of_ble_eq_true rfl) (Nat.le_of_ble_eq_true rfl) (Nat.le_of_ble_eq_true rfl) ?_
  refine go_if_eq dX12_makesKeys_5 (fun c5 => ?_) (fun c5 => ?_)
  · have c5 := bz_f c5
    refine go_iconst (v := 0) dX12_makesKeys_24 rfl ?_
    refine go_istore_n (ls' := [some (.ref q), some (.int l), some (.int 0)]) dX12_makesKeys_25 ⟨by decide, rfl, rfl⟩ ?_
    refine go_iload_n dX12_makesKeys_26 rfl ?_
    refine go_if_eq dX12_makesKeys_27 (fun c27 => ?_) (fun c27 => ?_)
    · have c27n := (n0_eq (a := 0) (by omega)).mp c27
      refine go_iload_n dX12_makesKeys_47 rfl ?_
      exact go_zret dX12_makesKeys_48 rfl (Nat.le_of_ble_eq_true rfl) (Nat.le_of_ble_eq_true rfl) (rfl) (hQ9 ▸ ⟨rd_i (a := 0) (by simp [mkC, mkA, c5]), by simp [mkC, mkA, c5], rfl⟩)
    · have c27n := mt (n0_eq (a := 0) (by omega)).mpr c27
      first | exact absurd c27n (by decide) | exact absurd (by decide) c27n | exact absurd rfl c27n | omega
  · have c5 := bz_t c5
    obtain ⟨jl, hjl, rfl⟩ := okp_nI c5 (by omega)
    have kjl : (nI jl).toNatClampNeg = jl := nI_clamp (by omega)
    refine go_aload_n dX12_makesKeys_8 rfl ?_
    refine go_get dX12_makesKeys_9 fl_X12_154_12 mo_obj hq (by omega) rfl ?_
    refine go_tp (z := P) (hP) ?_
    refine go_iconst (v := 5) dX12_makesKeys_12 rfl ?_
    refine go_iadd dX12_makesKeys_13 ?_
    refine go_sipush (v := 9999) dX12_makesKeys_14 rfl ?_
    refine go_icmp_gt dX12_makesKeys_17 (fun c17 => ?_) (fun c17 => ?_)
    · refine go_iconst (v := 0) dX12_makesKeys_24 rfl ?_
      refine go_istore_n (ls' := [some (.ref q), some (.int (nI jl)), some (.int 0)]) dX12_makesKeys_25 ⟨by decide, rfl, rfl⟩ ?_
      refine go_iload_n dX12_makesKeys_26 rfl ?_
      refine go_if_eq dX12_makesKeys_27 (fun c27 => ?_) (fun c27 => ?_)
      · have c27n := (n0_eq (a := 0) (by omega)).mp c27
        refine go_iload_n dX12_makesKeys_47 rfl ?_
        exact go_zret dX12_makesKeys_48 rfl (Nat.le_of_ble_eq_true rfl) (Nat.le_of_ble_eq_true rfl) (rfl) (hQ9 ▸ ⟨rd_i (a := 0) (by simp [mkC, mkA, c5, kjl, c17]), by simp [mkC, mkA, c5, kjl, c17], rfl⟩)
      · have c27n := mt (n0_eq (a := 0) (by omega)).mpr c27
        first | exact absurd c27n (by decide) | exact absurd (by decide) c27n | exact absurd rfl c27n | omega
    · refine go_iconst (v := 1) dX12_makesKeys_20 rfl ?_
      refine go_goto dX12_makesKeys_21 ?_
      refine go_istore_n (ls' := [some (.ref q), some (.int (nI jl)), some (.int 1)]) dX12_makesKeys_25 ⟨by decide, rfl, rfl⟩ ?_
      refine go_iload_n dX12_makesKeys_26 rfl ?_
      refine go_if_eq dX12_makesKeys_27 (fun c27 => ?_) (fun c27 => ?_)
      · have c27n := (n0_eq (a := 1) (by omega)).mp c27
        first | exact absurd c27n (by decide) | exact absurd (by decide) c27n | exact absurd rfl c27n | omega
      · have c27n := mt (n0_eq (a := 1) (by omega)).mpr c27
        refine go_aload_n dX12_makesKeys_30 rfl ?_
        refine go_get dX12_makesKeys_31 fl_X12_28_12 mo_obj hq (by omega) rfl ?_
        refine go_iload_n dX12_makesKeys_34 rfl ?_
        refine go_iconst (v := 2) dX12_makesKeys_35 rfl ?_
        refine go_iast dX12_makesKeys_36 (mo_arr 7 (by decide)) (by omega) (by omega) (vp_in_nI (n := jl) (by show jl < 5; omega) (by decide)) ?_
        refine go_mem (mo_setA 7 (by decide) _ _) ?_
        rw [nI_clamp (by omega)]
        refine go_aload_n dX12_makesKeys_37 rfl ?_
        refine go_dup dX12_makesKeys_38 rfl ?_
        refine go_get dX12_makesKeys_39 fl_X12_154_12 mo_obj hq (by omega) rfl ?_
        refine go_tp (z := P) (hP) ?_
        refine go_iconst (v := 5) dX12_makesKeys_42 rfl ?_
        refine go_iadd dX12_makesKeys_43 ?_
        refine go_put dX12_makesKeys_44 fp_X12_154_12 (Or.inr (fun _ _ _ h => by cases h; rfl)) mo_obj hq (by omega) (rfl) rfl (Nat.le_of_ble_eq_true rfl) ?_
        refine go_mem (mo_setO (F' := (upd F 9 (P + 5))) (K' := K) rfl) ?_
        refine go_iload_n dX12_makesKeys_47 rfl ?_
        exact go_zret dX12_makesKeys_48 rfl (Nat.le_of_ble_eq_true rfl) (Nat.le_of_ble_eq_true rfl) (rfl) (hQ9 ▸ ⟨rd_i (a := 1) (by simp [mkC, mkA, c5, kjl, c17]), by simp [mkC, mkA, c5, kjl, c17], rfl⟩)
set_option maxHeartbeats 4000000 in
set_option maxRecDepth 100000 in
theorem e_X12_pupil (hq : G.2.1 ≤ q) (hn : q + 25 ≤ n) (hN : F 0 = nI N) (hN8 : N ≤ 8) {p what : Int32} : Ev G mX12_pupil 3 0 0 [.ref q, .int p, .int what] (mo G m0 q F A L K) n (fun r f1 n1 => r = some (.int (pupS N A p what)) ∧ f1 = (mo G m0 q (upd F 16 (0)) A L K) ∧ n1 = n) := by
  generalize hQ9 : (fun r f1 n1 => r = some (.int (pupS N A p what)) ∧ f1 = (mo G m0 q (upd F 16 (0)) A L K) ∧ n1 = n : RQ) = Q9
  refine ev_of (by decide) (Nat.le_of_ble_eq_true rfl) (ls := [some (.ref q), some (.int p), some (.int what)]) rfl (fun hb => ?_)
  refine go_aload_n dX12_pupil_0 rfl ?_
  refine go_iconst (v := 0) dX12_pupil_1 rfl ?_
  refine go_put dX12_pupil_2 fp_X12_83_12 (Or.inr (fun _ _ _ h => by cases h; rfl)) mo_obj hq (by omega) (rfl) rfl (Nat.le_of_ble_eq_true rfl) ?_
  refine go_mem (mo_setO (F' := (upd F 16 (0))) (K' := K) rfl) ?_
  refine go_aload_n dX12_pupil_5 rfl ?_
  refine go_iload_n dX12_pupil_6 rfl ?_
  refine go_Vr [.int p] [] dX12_pupil_7 vl_X12_165 ⟨by decide, by decide⟩ (e_X12_isPupil (F := (upd F 16 (0))) (A := A) (L := L) (K := K) hq hn hN hN8) mo_obj hq (by omega) rfl rfl (Nat.le_of_ble_eq_true rfl) (Nat.le_of_ble_eq_true rfl) (Nat.le_of_ble_eq_true rfl) ?_
  refine go_if_ne dX12_pupil_10 (fun c10 => ?_) (fun c10 => ?_)
  · have c10 := bz_t c10
    obtain ⟨jp, hjp, rfl⟩ := okp_nI c10 (by omega)
    have kjp : (nI jp).toNatClampNeg = jp := nI_clamp (by omega)
    refine go_iload_n dX12_pupil_15 rfl ?_
    by_cases e16_0 : (what : Int32) = 0
    · refine go_tp e16_0 ?_
      refine go_tableIn (off := 44) (tgt := 60) dX12_pupil_16 (by decide) (by decide) (by decide) (by decide) ?_
      refine go_aload_n dX12_pupil_60 rfl ?_
      refine go_get dX12_pupil_61 fl_X12_7_12 mo_obj hq (by omega) rfl ?_
      refine go_iload_n dX12_pupil_64 rfl ?_
      refine go_iald dX12_pupil_65 (mo_arr 1 (by decide)) (by omega) (by omega) (vp_in_nI (n := jp) (by show jp < 8; omega) (by decide)) ?_
      refine go_tp (z := A 1 jp) (by rw [nI_clamp (by omega)]) ?_
      exact go_iret dX12_pupil_66 rfl (Nat.le_of_ble_eq_true rfl) (Nat.le_of_ble_eq_true rfl) (hQ9 ▸ ⟨rd_i (a := A 1 jp) (by simp [pupS, c10, kjp, e16_0]), rfl, rfl⟩)
    · by_cases e16_1 : (what : Int32) = 1
      · refine go_tp e16_1 ?_
        refine go_tableIn (off := 51) (tgt := 67) dX12_pupil_16 (by decide) (by decide) (by decide) (by decide) ?_
        refine go_aload_n dX12_pupil_67 rfl ?_
        refine go_get dX12_pupil_68 fl_X12_13_12 mo_obj hq (by omega) rfl ?_
        refine go_iload_n dX12_pupil_71 rfl ?_
        refine go_iald dX12_pupil_72 (mo_arr 2 (by decide)) (by omega) (by omega) (vp_in_nI (n := jp) (by show jp < 8; omega) (by decide)) ?_
        refine go_tp (z := A 2 jp) (by rw [nI_clamp (by omega)]) ?_
        exact go_iret dX12_pupil_73 rfl (Nat.le_of_ble_eq_true rfl) (Nat.le_of_ble_eq_true rfl) (hQ9 ▸ ⟨rd_i (a := A 2 jp) (by simp [pupS, c10, kjp, e16_0, e16_1]), rfl, rfl⟩)
      · by_cases e16_2 : (what : Int32) = 2
        · refine go_tp e16_2 ?_
          refine go_tableIn (off := 58) (tgt := 74) dX12_pupil_16 (by decide) (by decide) (by decide) (by decide) ?_
          refine go_aload_n dX12_pupil_74 rfl ?_
          refine go_get dX12_pupil_75 fl_X12_16_12 mo_obj hq (by omega) rfl ?_
          refine go_iload_n dX12_pupil_78 rfl ?_
          refine go_iald dX12_pupil_79 (mo_arr 3 (by decide)) (by omega) (by omega) (vp_in_nI (n := jp) (by show jp < 8; omega) (by decide)) ?_
          refine go_tp (z := A 3 jp) (by rw [nI_clamp (by omega)]) ?_
          exact go_iret dX12_pupil_80 rfl (Nat.le_of_ble_eq_true rfl) (Nat.le_of_ble_eq_true rfl) (hQ9 ▸ ⟨rd_i (a := A 3 jp) (by simp [pupS, c10, kjp, e16_0, e16_1, e16_2]), rfl, rfl⟩)
        · by_cases e16_3 : (what : Int32) = 3
          · refine go_tp e16_3 ?_
            refine go_tableIn (off := 65) (tgt := 81) dX12_pupil_16 (by decide) (by decide) (by decide) (by decide) ?_
            refine go_aload_n dX12_pupil_81 rfl ?_
            refine go_get dX12_pupil_82 fl_X12_19_12 mo_obj hq (by omega) rfl ?_
            refine go_iload_n dX12_pupil_85 rfl ?_
            refine go_iald dX12_pupil_86 (mo_arr 4 (by decide)) (by omega) (by omega) (vp_in_nI (n := jp) (by show jp < 8; omega) (by decide)) ?_
            refine go_tp (z := A 4 jp) (by rw [nI_clamp (by omega)]) ?_
            exact go_iret dX12_pupil_87 rfl (Nat.le_of_ble_eq_true rfl) (Nat.le_of_ble_eq_true rfl) (hQ9 ▸ ⟨rd_i (a := A 4 jp) (by simp [pupS, c10, kjp, e16_0, e16_1, e16_2, e16_3]), rfl, rfl⟩)
          · by_cases e16_4 : (what : Int32) = 4
            · refine go_tp e16_4 ?_
              refine go_tableIn (off := 72) (tgt := 88) dX12_pupil_16 (by decide) (by decide) (by decide) (by decide) ?_
              refine go_aload_n dX12_pupil_88 rfl ?_
              refine go_iload_n dX12_pupil_89 rfl ?_
              refine go_Vr [.int (nI jp)] [] dX12_pupil_90 vl_X12_97 ⟨by decide, by decide⟩ (e_X12_dampOf (F := (upd F 16 (0))) (A := A) (L := L) (K := K) hq hn (by omega)) mo_obj hq (by omega) rfl rfl (Nat.le_of_ble_eq_true rfl) (Nat.le_of_ble_eq_true rfl) (Nat.le_of_ble_eq_true rfl) ?_
              exact go_iret dX12_pupil_93 rfl (Nat.le_of_ble_eq_true rfl) (Nat.le_of_ble_eq_true rfl) (hQ9 ▸ ⟨rd_i (a := dampS (A 1 jp)) (by simp [pupS, c10, kjp, e16_0, e16_1, e16_2, e16_3, e16_4]), rfl, rfl⟩)
            · by_cases e16_5 : (what : Int32) = 5
              · refine go_tp e16_5 ?_
                refine go_tableIn (off := 78) (tgt := 94) dX12_pupil_16 (by decide) (by decide) (by decide) (by decide) ?_
                refine go_aload_n dX12_pupil_94 rfl ?_
                refine go_iload_n dX12_pupil_95 rfl ?_
                refine go_Vr [.int (nI jp)] [] dX12_pupil_96 vl_X12_212 ⟨by decide, by decide⟩ (e_X12_roomOf (F := (upd F 16 (0))) (A := A) (L := L) (K := K) hq hn (by omega)) mo_obj hq (by omega) rfl rfl (Nat.le_of_ble_eq_true rfl) (Nat.le_of_ble_eq_true rfl) (Nat.le_of_ble_eq_true rfl) ?_
                exact go_iret dX12_pupil_99 rfl (Nat.le_of_ble_eq_true rfl) (Nat.le_of_ble_eq_true rfl) (hQ9 ▸ ⟨rd_i (a := roomS (A 1 jp)) (by simp [pupS, c10, kjp, e16_0, e16_1, e16_2, e16_3, e16_4, e16_5]), rfl, rfl⟩)
              · by_cases e16_6 : (what : Int32) = 6
                · refine go_tp e16_6 ?_
                  refine go_tableIn (off := 84) (tgt := 100) dX12_pupil_16 (by decide) (by decide) (by decide) (by decide) ?_
                  refine go_aload_n dX12_pupil_100 rfl ?_
                  refine go_iload_n dX12_pupil_101 rfl ?_
                  refine go_Vr [.int (nI jp)] [] dX12_pupil_102 vl_X12_111 ⟨by decide, by decide⟩ (e_X12_mateOf (F := (upd F 16 (0))) (A := A) (L := L) (K := K) hq hn hN hN8 (by omega)) mo_obj hq (by omega) rfl rfl (Nat.le_of_ble_eq_true rfl) (Nat.le_of_ble_eq_true rfl) (Nat.le_of_ble_eq_true rfl) ?_
                  exact go_iret dX12_pupil_105 rfl (Nat.le_of_ble_eq_true rfl) (Nat.le_of_ble_eq_true rfl) (hQ9 ▸ ⟨rd_i (a := mateS N (A 4) jp) (by simp [pupS, c10, kjp, e16_0, e16_1, e16_2, e16_3, e16_4, e16_5, e16_6]), rfl, rfl⟩)
                · refine go_tableOut dX12_pupil_16 (tgt := 106) (by have := i32_ne (v := 0) (k := 0) rfl e16_0; have := i32_ne (v := 1) (k := 1) rfl e16_1; have := i32_ne (v := 2) (k := 2) rfl e16_2; have := i32_ne (v := 3) (k := 3) rfl e16_3; have := i32_ne (v := 4) (k := 4) rfl e16_4; have := i32_ne (v := 5) (k := 5) rfl e16_5; have := i32_ne (v := 6) (k := 6) rfl e16_6; omega) (by decide) ?_
                  refine go_iconst (v := (-1)) dX12_pupil_106 rfl ?_
                  exact go_iret dX12_pupil_107 rfl (Nat.le_of_ble_eq_true rfl) (Nat.le_of_ble_eq_true rfl) (hQ9 ▸ ⟨rd_i (a := (-1)) (by simp [pupS, c10, kjp, e16_0, e16_1, e16_2, e16_3, e16_4, e16_5, e16_6]), rfl, rfl⟩)
  · have c10 := bz_f c10
    refine go_iconst (v := (-1)) dX12_pupil_13 rfl ?_
    exact go_iret dX12_pupil_14 rfl (Nat.le_of_ble_eq_true rfl) (Nat.le_of_ble_eq_true rfl) (hQ9 ▸ ⟨rd_i (a := (-1)) (by simp [pupS, c10]), rfl, rfl⟩)
set_option maxHeartbeats 4000000 in
set_option maxRecDepth 100000 in
theorem e_X12_locker (hq : G.2.1 ≤ q) (hn : q + 25 ≤ n) (hN : F 0 = nI N) (hN8 : N ≤ 8) (hM : F 5 = nI M) (hM5 : M ≤ 5) {l what : Int32} : Ev G mX12_locker 3 0 0 [.ref q, .int l, .int what] (mo G m0 q F A L K) n (fun r f1 n1 => r = some (.int (lockS N M A l what)) ∧ f1 = (mo G m0 q (upd F 16 (0)) A L K) ∧ n1 = n) := by
  generalize hQ9 : (fun r f1 n1 => r = some (.int (lockS N M A l what)) ∧ f1 = (mo G m0 q (upd F 16 (0)) A L K) ∧ n1 = n : RQ) = Q9
  refine ev_of (by decide) (Nat.le_of_ble_eq_true rfl) (ls := [some (.ref q), some (.int l), some (.int what)]) rfl (fun hb => ?_)
  refine go_aload_n dX12_locker_0 rfl ?_
  refine go_iconst (v := 0) dX12_locker_1 rfl ?_
  refine go_put dX12_locker_2 fp_X12_83_12 (Or.inr (fun _ _ _ h => by cases h; rfl)) mo_obj hq (by omega) (rfl) rfl (Nat.le_of_ble_eq_true rfl) ?_
  refine go_mem (mo_setO (F' := (upd F 16 (0))) (K' := K) rfl) ?_
  refine go_aload_n dX12_locker_5 rfl ?_
  refine go_iload_n dX12_locker_6 rfl ?_
  refine go_Vr [.int l] [] dX12_locker_7 vl_X12_151 ⟨by decide, by decide⟩ (e_X12_isLocker (F := (upd F 16 (0))) (A := A) (L := L) (K := K) hq hn hM hM5) mo_obj hq (by omega) rfl rfl (Nat.le_of_ble_eq_true rfl) (Nat.le_of_ble_eq_true rfl) (Nat.le_of_ble_eq_true rfl) ?_
  refine go_if_eq dX12_locker_10 (fun c10 => ?_) (fun c10 => ?_)
  · have c10 := bz_f c10
    refine go_iconst (v := (-1)) dX12_locker_25 rfl ?_
    exact go_iret dX12_locker_26 rfl (Nat.le_of_ble_eq_true rfl) (Nat.le_of_ble_eq_true rfl) (hQ9 ▸ ⟨rd_i (a := (-1)) (by simp [lockS, c10]), rfl, rfl⟩)
  · have c10 := bz_t c10
    obtain ⟨jl, hjl, rfl⟩ := okp_nI c10 (by omega)
    have kjl : (nI jl).toNatClampNeg = jl := nI_clamp (by omega)
    refine go_iload_n dX12_locker_13 rfl ?_
    refine go_i2l dX12_locker_14 ?_
    refine go_lconst (v := 0) dX12_locker_15 rfl ?_
    refine go_ldc2 (v := 3) dX12_locker_16 wm_1314 ?_
    refine go_Sr [.long (what).toInt64, .long 0, .long 3] [] dX12_locker_19 sl_X12_90 ⟨by decide, by decide⟩ (e_X12_lies) rfl rfl (Nat.le_of_ble_eq_true rfl) (Nat.le_of_ble_eq_true rfl) (Nat.le_of_ble_eq_true rfl) ?_
    refine go_tp (z := if okr what 0 3 then 1 else 0) (ite_c (li_okr rfl rfl)) ?_
    refine go_if_ne dX12_locker_22 (fun c22 => ?_) (fun c22 => ?_)
    · have c22 := bz_t c22
      refine go_iload_n dX12_locker_27 rfl ?_
      refine go_if_ne dX12_locker_28 (fun c28 => ?_) (fun c28 => ?_)
      · refine go_iload_n dX12_locker_40 rfl ?_
        refine go_iconst (v := 1) dX12_locker_41 rfl ?_
        refine go_icmp_ne dX12_locker_42 (fun c42 => ?_) (fun c42 => ?_)
        · refine go_iload_n dX12_locker_54 rfl ?_
          refine go_iconst (v := 2) dX12_locker_55 rfl ?_
          refine go_icmp_ne dX12_locker_56 (fun c56 => ?_) (fun c56 => ?_)
          · refine go_aload_n dX12_locker_68 rfl ?_
            refine go_iload_n dX12_locker_69 rfl ?_
            refine go_Vr [.int (nI jl)] [] dX12_locker_70 vl_X12_120 ⟨by decide, by decide⟩ (e_X12_inside (F := (upd F 16 (0))) (A := A) (L := L) (K := K) hq hn hN hN8) mo_obj hq (by omega) rfl rfl (Nat.le_of_ble_eq_true rfl) (Nat.le_of_ble_eq_true rfl) (Nat.le_of_ble_eq_true rfl) ?_
            exact go_iret dX12_locker_73 rfl (Nat.le_of_ble_eq_true rfl) (Nat.le_of_ble_eq_true rfl) (hQ9 ▸ ⟨rd_i (a := inS N (A 4) (nI jl)) (by simp [lockS, c10, kjl, c22, c28, c42, c56]), rfl, rfl⟩)
          · subst c56
            refine go_aload_n dX12_locker_59 rfl ?_
            refine go_get dX12_locker_60 fl_X12_28_12 mo_obj hq (by omega) rfl ?_
            refine go_iload_n dX12_locker_63 rfl ?_
            refine go_iald dX12_locker_64 (mo_arr 7 (by decide)) (by omega) (by omega) (vp_in_nI (n := jl) (by show jl < 5; omega) (by decide)) ?_
            refine go_tp (z := A 7 jl) (by rw [nI_clamp (by omega)]) ?_
            refine go_goto dX12_locker_65 ?_
            exact go_iret dX12_locker_73 rfl (Nat.le_of_ble_eq_true rfl) (Nat.le_of_ble_eq_true rfl) (hQ9 ▸ ⟨rd_i (a := A 7 jl) (by simp [lockS, c10, kjl, c22, c28, c42]), rfl, rfl⟩)
        · subst c42
          refine go_aload_n dX12_locker_45 rfl ?_
          refine go_get dX12_locker_46 fl_X12_25_12 mo_obj hq (by omega) rfl ?_
          refine go_iload_n dX12_locker_49 rfl ?_
          refine go_iald dX12_locker_50 (mo_arr 6 (by decide)) (by omega) (by omega) (vp_in_nI (n := jl) (by show jl < 5; omega) (by decide)) ?_
          refine go_tp (z := A 6 jl) (by rw [nI_clamp (by omega)]) ?_
          refine go_goto dX12_locker_51 ?_
          exact go_iret dX12_locker_73 rfl (Nat.le_of_ble_eq_true rfl) (Nat.le_of_ble_eq_true rfl) (hQ9 ▸ ⟨rd_i (a := A 6 jl) (by simp [lockS, c10, kjl, c22, c28]), rfl, rfl⟩)
      · subst c28
        refine go_aload_n dX12_locker_31 rfl ?_
        refine go_get dX12_locker_32 fl_X12_22_12 mo_obj hq (by omega) rfl ?_
        refine go_iload_n dX12_locker_35 rfl ?_
        refine go_iald dX12_locker_36 (mo_arr 5 (by decide)) (by omega) (by omega) (vp_in_nI (n := jl) (by show jl < 5; omega) (by decide)) ?_
        refine go_tp (z := A 5 jl) (by rw [nI_clamp (by omega)]) ?_
        refine go_goto dX12_locker_37 ?_
        exact go_iret dX12_locker_73 rfl (Nat.le_of_ble_eq_true rfl) (Nat.le_of_ble_eq_true rfl) (hQ9 ▸ ⟨rd_i (a := A 5 jl) (by simp [lockS, c10, kjl, c22]), rfl, rfl⟩)
    · have c22 := bz_f c22
      refine go_iconst (v := (-1)) dX12_locker_25 rfl ?_
      exact go_iret dX12_locker_26 rfl (Nat.le_of_ble_eq_true rfl) (Nat.le_of_ble_eq_true rfl) (hQ9 ▸ ⟨rd_i (a := (-1)) (by simp [lockS, c10, kjl, c22]), rfl, rfl⟩)
set_option maxHeartbeats 4000000 in
set_option maxRecDepth 100000 in
theorem e_X12_bears (hq : G.2.1 ≤ q) (hn : q + 25 ≤ n) (hN : F 0 = nI N) (hN8 : N ≤ 8) {a b : Int32} : Ev G mX12_bears 4 0 0 [.ref q, .int a, .int b] (mo G m0 q F A L K) n (fun r f1 n1 => r = some (.int (bearsS N A a b)) ∧ f1 = (mo G m0 q (upd F 16 (0)) A L K) ∧ n1 = n) := by
  generalize hQ9 : (fun r f1 n1 => r = some (.int (bearsS N A a b)) ∧ f1 = (mo G m0 q (upd F 16 (0)) A L K) ∧ n1 = n : RQ) = Q9
  refine ev_of (by decide) (Nat.le_of_ble_eq_true rfl) (ls := [some (.ref q), some (.int a), some (.int b)]) rfl (fun hb => ?_)
  refine go_aload_n dX12_bears_0 rfl ?_
  refine go_iconst (v := 0) dX12_bears_1 rfl ?_
  refine go_put dX12_bears_2 fp_X12_83_12 (Or.inr (fun _ _ _ h => by cases h; rfl)) mo_obj hq (by omega) (rfl) rfl (Nat.le_of_ble_eq_true rfl) ?_
  refine go_mem (mo_setO (F' := (upd F 16 (0))) (K' := K) rfl) ?_
  refine go_aload_n dX12_bears_5 rfl ?_
  refine go_iload_n dX12_bears_6 rfl ?_
  refine go_iload_n dX12_bears_7 rfl ?_
  refine go_Vr [.int a, .int b] [] dX12_bears_8 vl_X12_226 ⟨by decide, by decide⟩ (e_X12_areTwo (F := (upd F 16 (0))) (A := A) (L := L) (K := K) hq hn hN hN8) mo_obj hq (by omega) rfl rfl (Nat.le_of_ble_eq_true rfl) (Nat.le_of_ble_eq_true rfl) (Nat.le_of_ble_eq_true rfl) ?_
  refine go_if_eq dX12_bears_11 (fun c11 => ?_) (fun c11 => ?_)
  · have c11 := bz_f c11
    refine go_iconst (v := (-1)) dX12_bears_23 rfl ?_
    exact go_iret dX12_bears_24 rfl (Nat.le_of_ble_eq_true rfl) (Nat.le_of_ble_eq_true rfl) (hQ9 ▸ ⟨rd_i (a := (-1)) (by simp [bearsS, brS, c11]), rfl, rfl⟩)
  · have c11 := bz_t c11
    obtain ⟨ja, hja, rfl⟩ := okp_nI (twoS_i.mp c11).1 (by omega)
    have kja : (nI ja).toNatClampNeg = ja := nI_clamp (by omega)
    obtain ⟨jb, hjb, rfl⟩ := okp_nI (twoS_i.mp c11).2.1 (by omega)
    have kjb : (nI jb).toNatClampNeg = jb := nI_clamp (by omega)
    refine go_aload_n dX12_bears_14 rfl ?_
    refine go_iload_n dX12_bears_15 rfl ?_
    refine go_iload_n dX12_bears_16 rfl ?_
    refine go_Vr [.int (nI ja), .int (nI jb)] [] dX12_bears_17 vl_X12_108 ⟨by decide, by decide⟩ (e_X12_bearsOf (F := (upd F 16 (0))) (A := A) (L := L) (K := K) hq hn (by omega) (by omega)) mo_obj hq (by omega) rfl rfl (Nat.le_of_ble_eq_true rfl) (Nat.le_of_ble_eq_true rfl) (Nat.le_of_ble_eq_true rfl) ?_
    refine go_tp (z := brS A ja jb) (rfl) ?_
    refine go_goto dX12_bears_20 ?_
    exact go_iret dX12_bears_24 rfl (Nat.le_of_ble_eq_true rfl) (Nat.le_of_ble_eq_true rfl) (hQ9 ▸ ⟨rd_i (a := brS A ja jb) (by simp [bearsS, brS, c11, kja, kjb]), rfl, rfl⟩)
set_option maxHeartbeats 4000000 in
set_option maxRecDepth 100000 in
theorem e_X12_trouble (hq : G.2.1 ≤ q) (hn : q + 25 ≤ n) (hN : F 0 = nI N) (hN8 : N ≤ 8) (hM : F 5 = nI M) (hM5 : M ≤ 5) {p l : Int32} : Ev G mX12_trouble 3 0 0 [.ref q, .int p, .int l] (mo G m0 q F A L K) n (fun r f1 n1 => r = some (.int (troubS N M A p l)) ∧ f1 = (mo G m0 q (upd F 16 (0)) A L K) ∧ n1 = n) := by
  generalize hQ9 : (fun r f1 n1 => r = some (.int (troubS N M A p l)) ∧ f1 = (mo G m0 q (upd F 16 (0)) A L K) ∧ n1 = n : RQ) = Q9
  refine ev_of (by decide) (Nat.le_of_ble_eq_true rfl) (ls := [some (.ref q), some (.int p), some (.int l)]) rfl (fun hb => ?_)
  refine go_aload_n dX12_trouble_0 rfl ?_
  refine go_iconst (v := 0) dX12_trouble_1 rfl ?_
  refine go_put dX12_trouble_2 fp_X12_83_12 (Or.inr (fun _ _ _ h => by cases h; rfl)) mo_obj hq (by omega) (rfl) rfl (Nat.le_of_ble_eq_true rfl) ?_
  refine go_mem (mo_setO (F' := (upd F 16 (0))) (K' := K) rfl) ?_
  refine go_aload_n dX12_trouble_5 rfl ?_
  refine go_iload_n dX12_trouble_6 rfl ?_
  refine go_Vr [.int p] [] dX12_trouble_7 vl_X12_165 ⟨by decide, by decide⟩ (e_X12_isPupil (F := (upd F 16 (0))) (A := A) (L := L) (K := K) hq hn hN hN8) mo_obj hq (by omega) rfl rfl (Nat.le_of_ble_eq_true rfl) (Nat.le_of_ble_eq_true rfl) (Nat.le_of_ble_eq_true rfl) ?_
  refine go_if_eq dX12_trouble_10 (fun c10 => ?_) (fun c10 => ?_)
  · have c10 := bz_f c10
    refine go_iconst (v := (-1)) dX12_trouble_30 rfl ?_
    exact go_iret dX12_trouble_31 rfl (Nat.le_of_ble_eq_true rfl) (Nat.le_of_ble_eq_true rfl) (hQ9 ▸ ⟨rd_i (a := (-1)) (by simp [troubS, trS, c10]), rfl, rfl⟩)
  · have c10 := bz_t c10
    obtain ⟨jp, hjp, rfl⟩ := okp_nI c10 (by omega)
    have kjp : (nI jp).toNatClampNeg = jp := nI_clamp (by omega)
    refine go_aload_n dX12_trouble_13 rfl ?_
    refine go_iload_n dX12_trouble_14 rfl ?_
    refine go_Vr [.int l] [] dX12_trouble_15 vl_X12_151 ⟨by decide, by decide⟩ (e_X12_isLocker (F := (upd F 16 (0))) (A := A) (L := L) (K := K) hq hn hM hM5) mo_obj hq (by omega) rfl rfl (Nat.le_of_ble_eq_true rfl) (Nat.le_of_ble_eq_true rfl) (Nat.le_of_ble_eq_true rfl) ?_
    refine go_if_eq dX12_trouble_18 (fun c18 => ?_) (fun c18 => ?_)
    · have c18 := bz_f c18
      refine go_iconst (v := (-1)) dX12_trouble_30 rfl ?_
      exact go_iret dX12_trouble_31 rfl (Nat.le_of_ble_eq_true rfl) (Nat.le_of_ble_eq_true rfl) (hQ9 ▸ ⟨rd_i (a := (-1)) (by simp [troubS, trS, c10, kjp, c18]), rfl, rfl⟩)
    · have c18 := bz_t c18
      obtain ⟨jl, hjl, rfl⟩ := okp_nI c18 (by omega)
      have kjl : (nI jl).toNatClampNeg = jl := nI_clamp (by omega)
      refine go_aload_n dX12_trouble_21 rfl ?_
      refine go_iload_n dX12_trouble_22 rfl ?_
      refine go_iload_n dX12_trouble_23 rfl ?_
      refine go_Vr [.int (nI jp), .int (nI jl)] [] dX12_trouble_24 vl_X12_114 ⟨by decide, by decide⟩ (e_X12_troubleOf (F := (upd F 16 (0))) (A := A) (L := L) (K := K) hq hn (by omega) (by omega)) mo_obj hq (by omega) rfl rfl (Nat.le_of_ble_eq_true rfl) (Nat.le_of_ble_eq_true rfl) (Nat.le_of_ble_eq_true rfl) ?_
      refine go_tp (z := trS A jp jl) (rfl) ?_
      refine go_goto dX12_trouble_27 ?_
      exact go_iret dX12_trouble_31 rfl (Nat.le_of_ble_eq_true rfl) (Nat.le_of_ble_eq_true rfl) (hQ9 ▸ ⟨rd_i (a := trS A jp jl) (by simp [troubS, trS, c10, kjp, c18, kjl]), rfl, rfl⟩)
set_option maxHeartbeats 4000000 in
set_option maxRecDepth 100000 in
theorem e_X12_content (hq : G.2.1 ≤ q) (hn : q + 25 ≤ n) (hN : F 0 = nI N) (hN8 : N ≤ 8) (hM5 : M ≤ 5) (hI : insOK N M (A 4)) {p : Int32} : Ev G mX12_content 4 0 0 [.ref q, .int p] (mo G m0 q F A L K) n (fun r f1 n1 => r = some (.int (contS N A p)) ∧ f1 = (mo G m0 q (upd F 16 (0)) A L K) ∧ n1 = n) := by
  generalize hQ9 : (fun r f1 n1 => r = some (.int (contS N A p)) ∧ f1 = (mo G m0 q (upd F 16 (0)) A L K) ∧ n1 = n : RQ) = Q9
  refine ev_of (by decide) (Nat.le_of_ble_eq_true rfl) (ls := [some (.ref q), some (.int p)]) rfl (fun hb => ?_)
  refine go_aload_n dX12_content_0 rfl ?_
  refine go_iconst (v := 0) dX12_content_1 rfl ?_
  refine go_put dX12_content_2 fp_X12_83_12 (Or.inr (fun _ _ _ h => by cases h; rfl)) mo_obj hq (by omega) (rfl) rfl (Nat.le_of_ble_eq_true rfl) ?_
  refine go_mem (mo_setO (F' := (upd F 16 (0))) (K' := K) rfl) ?_
  refine go_aload_n dX12_content_5 rfl ?_
  refine go_iload_n dX12_content_6 rfl ?_
  refine go_Vr [.int p] [] dX12_content_7 vl_X12_165 ⟨by decide, by decide⟩ (e_X12_isPupil (F := (upd F 16 (0))) (A := A) (L := L) (K := K) hq hn hN hN8) mo_obj hq (by omega) rfl rfl (Nat.le_of_ble_eq_true rfl) (Nat.le_of_ble_eq_true rfl) (Nat.le_of_ble_eq_true rfl) ?_
  refine go_if_eq dX12_content_10 (fun c10 => ?_) (fun c10 => ?_)
  · have c10 := bz_f c10
    refine go_ldc (v := 1000000001) dX12_content_21 wm_1379 ?_
    exact go_iret dX12_content_23 rfl (Nat.le_of_ble_eq_true rfl) (Nat.le_of_ble_eq_true rfl) (hQ9 ▸ ⟨rd_i (a := 1000000001) (by simp [contS, c10]), rfl, rfl⟩)
  · have c10 := bz_t c10
    obtain ⟨jp, hjp, rfl⟩ := okp_nI c10 (by omega)
    have kjp : (nI jp).toNatClampNeg = jp := nI_clamp (by omega)
    refine go_aload_n dX12_content_13 rfl ?_
    refine go_iload_n dX12_content_14 rfl ?_
    refine go_Vr [.int (nI jp)] [] dX12_content_15 vl_X12_117 ⟨by decide, by decide⟩ (e_X12_contentOf (F := (upd F 16 (0))) (A := A) (L := L) (K := K) hq hn hN hN8 hM5 hI (by omega)) mo_obj hq (by omega) rfl rfl (Nat.le_of_ble_eq_true rfl) (Nat.le_of_ble_eq_true rfl) (Nat.le_of_ble_eq_true rfl) ?_
    refine go_goto dX12_content_18 ?_
    exact go_iret dX12_content_23 rfl (Nat.le_of_ble_eq_true rfl) (Nat.le_of_ble_eq_true rfl) (hQ9 ▸ ⟨rd_i (a := ctS N A jp) (by simp [contS, c10, kjp]), rfl, rfl⟩)
set_option maxHeartbeats 4000000 in
set_option maxRecDepth 100000 in
theorem e_X12_all (hq : G.2.1 ≤ q) (hn : q + 25 ≤ n) (hN : F 0 = nI N) (hN8 : N ≤ 8) (hM5 : M ≤ 5) (hI : insOK N M (A 4)) : Ev G mX12_all 5 0 0 [.ref q] (mo G m0 q F A L K) n (fun r f1 n1 => r = some (.int (alS N A)) ∧ f1 = (mo G m0 q (upd F 16 (0)) A L K) ∧ n1 = n) := by
  generalize hQ9 : (fun r f1 n1 => r = some (.int (alS N A)) ∧ f1 = (mo G m0 q (upd F 16 (0)) A L K) ∧ n1 = n : RQ) = Q9
  refine ev_of (by decide) (Nat.le_of_ble_eq_true rfl) (ls := [some (.ref q)]) rfl (fun hb => ?_)
  refine go_aload_n dX12_all_0 rfl ?_
  refine go_iconst (v := 0) dX12_all_1 rfl ?_
  refine go_put dX12_all_2 fp_X12_83_12 (Or.inr (fun _ _ _ h => by cases h; rfl)) mo_obj hq (by omega) (rfl) rfl (Nat.le_of_ble_eq_true rfl) ?_
  refine go_mem (mo_setO (F' := (upd F 16 (0))) (K' := K) rfl) ?_
  refine go_aload_n dX12_all_5 rfl ?_
  refine go_Vr [] [] dX12_all_6 vl_X12_298 ⟨by decide, by decide⟩ (e_X12_allContent (F := (upd F 16 (0))) (A := A) (L := L) (K := K) hq hn hN hN8 hM5 hI) mo_obj hq (by omega) rfl rfl (Nat.le_of_ble_eq_true rfl) (Nat.le_of_ble_eq_true rfl) (Nat.le_of_ble_eq_true rfl) ?_
  exact go_iret dX12_all_9 rfl (Nat.le_of_ble_eq_true rfl) (Nat.le_of_ble_eq_true rfl) (hQ9 ▸ ⟨rfl, rfl, rfl⟩)
set_option maxHeartbeats 4000000 in
set_option maxRecDepth 100000 in
theorem e_X12_moves (hq : G.2.1 ≤ q) (hn : q + 25 ≤ n) (hN : F 0 = nI N) (hN8 : N ≤ 8) (hM : F 5 = nI M) (hM5 : M ≤ 5) {p l : Int32} : Ev G mX12_moves 3 0 0 [.ref q, .int p, .int l] (mo G m0 q F A L K) n (fun r f1 n1 => r = some (.int (mvR N M A p l)) ∧ f1 = (mo G m0 q (upd F 16 (0)) (mvA N M A p l) L K) ∧ n1 = n) := by
  generalize hQ9 : (fun r f1 n1 => r = some (.int (mvR N M A p l)) ∧ f1 = (mo G m0 q (upd F 16 (0)) (mvA N M A p l) L K) ∧ n1 = n : RQ) = Q9
  refine ev_of (by decide) (Nat.le_of_ble_eq_true rfl) (ls := [some (.ref q), some (.int p), some (.int l), none]) rfl (fun hb => ?_)
  refine go_aload_n dX12_moves_0 rfl ?_
  refine go_iconst (v := 0) dX12_moves_1 rfl ?_
  refine go_put dX12_moves_2 fp_X12_83_12 (Or.inr (fun _ _ _ h => by cases h; rfl)) mo_obj hq (by omega) (rfl) rfl (Nat.le_of_ble_eq_true rfl) ?_
  refine go_mem (mo_setO (F' := (upd F 16 (0))) (K' := K) rfl) ?_
  refine go_aload_n dX12_moves_5 rfl ?_
  refine go_iload_n dX12_moves_6 rfl ?_
  refine go_Vr [.int p] [] dX12_moves_7 vl_X12_165 ⟨by decide, by decide⟩ (e_X12_isPupil (F := (upd F 16 (0))) (A := A) (L := L) (K := K) hq hn hN hN8) mo_obj hq (by omega) rfl rfl (Nat.le_of_ble_eq_true rfl) (Nat.le_of_ble_eq_true rfl) (Nat.le_of_ble_eq_true rfl) ?_
  refine go_if_eq dX12_moves_10 (fun c10 => ?_) (fun c10 => ?_)
  · have c10 := bz_f c10
    refine go_iconst (v := (-1)) dX12_moves_27 rfl ?_
    exact go_iret dX12_moves_28 rfl (Nat.le_of_ble_eq_true rfl) (Nat.le_of_ble_eq_true rfl) (hQ9 ▸ ⟨rd_i (a := (-1)) (by simp [mvR, mvC, c10]), by simp [mvA, mvC, c10], rfl⟩)
  · have c10 := bz_t c10
    obtain ⟨jp, hjp, rfl⟩ := okp_nI c10 (by omega)
    have kjp : (nI jp).toNatClampNeg = jp := nI_clamp (by omega)
    refine go_iload_n dX12_moves_13 rfl ?_
    refine go_bipush (v := 9) dX12_moves_14 rfl ?_
    refine go_icmp_eq dX12_moves_16 (fun c16 => ?_) (fun c16 => ?_)
    · subst c16
      refine go_aload_n dX12_moves_29 rfl ?_
      refine go_iload_n dX12_moves_30 rfl ?_
      refine go_iload_n dX12_moves_31 rfl ?_
      refine go_Vr [.int (nI jp), .int 9] [] dX12_moves_32 vl_X12_168 ⟨by decide, by decide⟩ (e_X12_mayMove (F := (upd F 16 (0))) (A := A) (L := L) (K := K) hq hn hN hN8 (by omega)) mo_obj hq (by omega) rfl rfl (Nat.le_of_ble_eq_true rfl) (Nat.le_of_ble_eq_true rfl) (Nat.le_of_ble_eq_true rfl) ?_
      refine go_if_ne dX12_moves_35 (fun c35 => ?_) (fun c35 => ?_)
      · have c35 := bz_t c35
        refine go_aload_n dX12_moves_41 rfl ?_
        refine go_get dX12_moves_42 fl_X12_19_12 mo_obj hq (by omega) rfl ?_
        refine go_iload_n dX12_moves_45 rfl ?_
        refine go_iald dX12_moves_46 (mo_arr 4 (by decide)) (by omega) (by omega) (vp_in_nI (n := jp) (by show jp < 8; omega) (by decide)) ?_
        refine go_tp (z := A 4 jp) (by rw [nI_clamp (by omega)]) ?_
        refine go_istore_n (ls' := [some (.ref q), some (.int (nI jp)), some (.int 9), some (.int (A 4 jp))]) dX12_moves_47 ⟨by decide, rfl, rfl⟩ ?_
        refine go_aload_n dX12_moves_48 rfl ?_
        refine go_get dX12_moves_49 fl_X12_19_12 mo_obj hq (by omega) rfl ?_
        refine go_iload_n dX12_moves_52 rfl ?_
        refine go_iload_n dX12_moves_53 rfl ?_
        refine go_iast dX12_moves_54 (mo_arr 4 (by decide)) (by omega) (by omega) (vp_in_nI (n := jp) (by show jp < 8; omega) (by decide)) ?_
        refine go_mem (mo_setA 4 (by decide) _ _) ?_
        rw [nI_clamp (by omega)]
        refine go_iload_n dX12_moves_55 rfl ?_
        exact go_iret dX12_moves_56 rfl (Nat.le_of_ble_eq_true rfl) (Nat.le_of_ble_eq_true rfl) (hQ9 ▸ ⟨rd_i (a := A 4 jp) (by simp [mvR, mvC, c10, kjp, c35]), by simp [mvA, mvC, c10, kjp, c35], rfl⟩)
      · have c35 := bz_f c35
        refine go_bipush (v := (-3)) dX12_moves_38 rfl ?_
        exact go_iret dX12_moves_40 rfl (Nat.le_of_ble_eq_true rfl) (Nat.le_of_ble_eq_true rfl) (hQ9 ▸ ⟨rd_i (a := (-3)) (by simp [mvR, mvC, c10, kjp, c35]), by simp [mvA, mvC, c10, kjp, c35], rfl⟩)
    · refine go_aload_n dX12_moves_19 rfl ?_
      refine go_iload_n dX12_moves_20 rfl ?_
      refine go_Vr [.int l] [] dX12_moves_21 vl_X12_151 ⟨by decide, by decide⟩ (e_X12_isLocker (F := (upd F 16 (0))) (A := A) (L := L) (K := K) hq hn hM hM5) mo_obj hq (by omega) rfl rfl (Nat.le_of_ble_eq_true rfl) (Nat.le_of_ble_eq_true rfl) (Nat.le_of_ble_eq_true rfl) ?_
      refine go_if_ne dX12_moves_24 (fun c24 => ?_) (fun c24 => ?_)
      · have c24 := bz_t c24
        obtain ⟨jl, hjl, rfl⟩ := okp_nI c24 (by omega)
        have kjl : (nI jl).toNatClampNeg = jl := nI_clamp (by omega)
        refine go_aload_n dX12_moves_29 rfl ?_
        refine go_iload_n dX12_moves_30 rfl ?_
        refine go_iload_n dX12_moves_31 rfl ?_
        refine go_Vr [.int (nI jp), .int (nI jl)] [] dX12_moves_32 vl_X12_168 ⟨by decide, by decide⟩ (e_X12_mayMove (F := (upd F 16 (0))) (A := A) (L := L) (K := K) hq hn hN hN8 (by omega)) mo_obj hq (by omega) rfl rfl (Nat.le_of_ble_eq_true rfl) (Nat.le_of_ble_eq_true rfl) (Nat.le_of_ble_eq_true rfl) ?_
        refine go_if_ne dX12_moves_35 (fun c35 => ?_) (fun c35 => ?_)
        · have c35 := bz_t c35
          refine go_aload_n dX12_moves_41 rfl ?_
          refine go_get dX12_moves_42 fl_X12_19_12 mo_obj hq (by omega) rfl ?_
          refine go_iload_n dX12_moves_45 rfl ?_
          refine go_iald dX12_moves_46 (mo_arr 4 (by decide)) (by omega) (by omega) (vp_in_nI (n := jp) (by show jp < 8; omega) (by decide)) ?_
          refine go_tp (z := A 4 jp) (by rw [nI_clamp (by omega)]) ?_
          refine go_istore_n (ls' := [some (.ref q), some (.int (nI jp)), some (.int (nI jl)), some (.int (A 4 jp))]) dX12_moves_47 ⟨by decide, rfl, rfl⟩ ?_
          refine go_aload_n dX12_moves_48 rfl ?_
          refine go_get dX12_moves_49 fl_X12_19_12 mo_obj hq (by omega) rfl ?_
          refine go_iload_n dX12_moves_52 rfl ?_
          refine go_iload_n dX12_moves_53 rfl ?_
          refine go_iast dX12_moves_54 (mo_arr 4 (by decide)) (by omega) (by omega) (vp_in_nI (n := jp) (by show jp < 8; omega) (by decide)) ?_
          refine go_mem (mo_setA 4 (by decide) _ _) ?_
          rw [nI_clamp (by omega)]
          refine go_iload_n dX12_moves_55 rfl ?_
          exact go_iret dX12_moves_56 rfl (Nat.le_of_ble_eq_true rfl) (Nat.le_of_ble_eq_true rfl) (hQ9 ▸ ⟨rd_i (a := A 4 jp) (by simp [mvR, mvC, c10, kjp, c16, c24, kjl, c35]), by simp [mvA, mvC, c10, kjp, c16, c24, kjl, c35], rfl⟩)
        · have c35 := bz_f c35
          refine go_bipush (v := (-3)) dX12_moves_38 rfl ?_
          exact go_iret dX12_moves_40 rfl (Nat.le_of_ble_eq_true rfl) (Nat.le_of_ble_eq_true rfl) (hQ9 ▸ ⟨rd_i (a := (-3)) (by simp [mvR, mvC, c10, kjp, c16, c24, kjl, c35]), by simp [mvA, mvC, c10, kjp, c16, c24, kjl, c35], rfl⟩)
      · have c24 := bz_f c24
        refine go_iconst (v := (-1)) dX12_moves_27 rfl ?_
        exact go_iret dX12_moves_28 rfl (Nat.le_of_ble_eq_true rfl) (Nat.le_of_ble_eq_true rfl) (hQ9 ▸ ⟨rd_i (a := (-1)) (by simp [mvR, mvC, c10, kjp, c16, c24]), by simp [mvA, mvC, c10, kjp, c16, c24], rfl⟩)
set_option maxHeartbeats 4000000 in
set_option maxRecDepth 100000 in
theorem e_X12_changes (hq : G.2.1 ≤ q) (hn : q + 25 ≤ n) (hN : F 0 = nI N) (hN8 : N ≤ 8) {a b : Int32} : Ev G mX12_changes 3 0 0 [.ref q, .int a, .int b] (mo G m0 q F A L K) n (fun r f1 n1 => r = some (.int (chR N A a b)) ∧ f1 = (mo G m0 q (upd F 16 (0)) (chA N A a b) L K) ∧ n1 = n) := by
  generalize hQ9 : (fun r f1 n1 => r = some (.int (chR N A a b)) ∧ f1 = (mo G m0 q (upd F 16 (0)) (chA N A a b) L K) ∧ n1 = n : RQ) = Q9
  refine ev_of (by decide) (Nat.le_of_ble_eq_true rfl) (ls := [some (.ref q), some (.int a), some (.int b), none]) rfl (fun hb => ?_)
  refine go_aload_n dX12_changes_0 rfl ?_
  refine go_iconst (v := 0) dX12_changes_1 rfl ?_
  refine go_put dX12_changes_2 fp_X12_83_12 (Or.inr (fun _ _ _ h => by cases h; rfl)) mo_obj hq (by omega) (rfl) rfl (Nat.le_of_ble_eq_true rfl) ?_
  refine go_mem (mo_setO (F' := (upd F 16 (0))) (K' := K) rfl) ?_
  refine go_aload_n dX12_changes_5 rfl ?_
  refine go_iload_n dX12_changes_6 rfl ?_
  refine go_Vr [.int a] [] dX12_changes_7 vl_X12_165 ⟨by decide, by decide⟩ (e_X12_isPupil (F := (upd F 16 (0))) (A := A) (L := L) (K := K) hq hn hN hN8) mo_obj hq (by omega) rfl rfl (Nat.le_of_ble_eq_true rfl) (Nat.le_of_ble_eq_true rfl) (Nat.le_of_ble_eq_true rfl) ?_
  refine go_if_eq dX12_changes_10 (fun c10 => ?_) (fun c10 => ?_)
  · have c10 := bz_f c10
    refine go_iconst (v := (-1)) dX12_changes_26 rfl ?_
    exact go_iret dX12_changes_27 rfl (Nat.le_of_ble_eq_true rfl) (Nat.le_of_ble_eq_true rfl) (hQ9 ▸ ⟨rd_i (a := (-1)) (by simp [chR, twoS, c10]), by simp [chA, twoS, c10], rfl⟩)
  · have c10 := bz_t c10
    obtain ⟨ja, hja, rfl⟩ := okp_nI c10 (by omega)
    have kja : (nI ja).toNatClampNeg = ja := nI_clamp (by omega)
    refine go_aload_n dX12_changes_13 rfl ?_
    refine go_iload_n dX12_changes_14 rfl ?_
    refine go_Vr [.int b] [] dX12_changes_15 vl_X12_165 ⟨by decide, by decide⟩ (e_X12_isPupil (F := (upd F 16 (0))) (A := A) (L := L) (K := K) hq hn hN hN8) mo_obj hq (by omega) rfl rfl (Nat.le_of_ble_eq_true rfl) (Nat.le_of_ble_eq_true rfl) (Nat.le_of_ble_eq_true rfl) ?_
    refine go_if_eq dX12_changes_18 (fun c18 => ?_) (fun c18 => ?_)
    · have c18 := bz_f c18
      refine go_iconst (v := (-1)) dX12_changes_26 rfl ?_
      exact go_iret dX12_changes_27 rfl (Nat.le_of_ble_eq_true rfl) (Nat.le_of_ble_eq_true rfl) (hQ9 ▸ ⟨rd_i (a := (-1)) (by simp [chR, twoS, c10, kja, c18]), by simp [chA, twoS, c10, kja, c18], rfl⟩)
    · have c18 := bz_t c18
      obtain ⟨jb, hjb, rfl⟩ := okp_nI c18 (by omega)
      have kjb : (nI jb).toNatClampNeg = jb := nI_clamp (by omega)
      refine go_iload_n dX12_changes_21 rfl ?_
      refine go_iload_n dX12_changes_22 rfl ?_
      refine go_icmp_ne dX12_changes_23 (fun c23 => ?_) (fun c23 => ?_)
      · have c23n := mt (nI_eq (a := ja) (b := jb) (by omega) (by omega)).mpr c23
        refine go_aload_n dX12_changes_28 rfl ?_
        refine go_get dX12_changes_29 fl_X12_19_12 mo_obj hq (by omega) rfl ?_
        refine go_iload_n dX12_changes_32 rfl ?_
        refine go_iald dX12_changes_33 (mo_arr 4 (by decide)) (by omega) (by omega) (vp_in_nI (n := ja) (by show ja < 8; omega) (by decide)) ?_
        refine go_tp (z := A 4 ja) (by rw [nI_clamp (by omega)]) ?_
        refine go_aload_n dX12_changes_34 rfl ?_
        refine go_get dX12_changes_35 fl_X12_19_12 mo_obj hq (by omega) rfl ?_
        refine go_iload_n dX12_changes_38 rfl ?_
        refine go_iald dX12_changes_39 (mo_arr 4 (by decide)) (by omega) (by omega) (vp_in_nI (n := jb) (by show jb < 8; omega) (by decide)) ?_
        refine go_tp (z := A 4 jb) (by rw [nI_clamp (by omega)]) ?_
        refine go_icmp_ne dX12_changes_40 (fun c40 => ?_) (fun c40 => ?_)
        · refine go_iconst (v := 1) dX12_changes_47 rfl ?_
          refine go_istore_n (ls' := [some (.ref q), some (.int (nI ja)), some (.int (nI jb)), some (.int 1)]) dX12_changes_48 ⟨by decide, rfl, rfl⟩ ?_
          refine go_aload_n dX12_changes_49 rfl ?_
          refine go_iload_n dX12_changes_50 rfl ?_
          refine go_iload_n dX12_changes_51 rfl ?_
          refine go_V [.int (nI ja), .int (nI jb)] [] dX12_changes_52 vl_X12_171 ⟨by decide, by decide⟩ (e_X12_swapPlaces (F := (upd F 16 (0))) (A := A) (L := L) (K := K) hq hn (by omega) (by omega)) mo_obj hq (by omega) rfl rfl (Nat.le_of_ble_eq_true rfl) (Nat.le_of_ble_eq_true rfl) (Nat.le_of_ble_eq_true rfl) (fun r52 f52 n52 h52 => ?_)
          obtain ⟨rfl, rfl, rfl⟩ := h52
          refine go_iload_n dX12_changes_55 rfl ?_
          exact go_iret dX12_changes_56 rfl (Nat.le_of_ble_eq_true rfl) (Nat.le_of_ble_eq_true rfl) (hQ9 ▸ ⟨rd_i (a := 1) (by simp [chR, twoS, c10, kja, c18, kjb, c23, c23n, c40]), by simp [chA, twoS, c10, kja, c18, kjb, c23, c23n, c40], rfl⟩)
        · refine go_iconst (v := 0) dX12_changes_43 rfl ?_
          refine go_goto dX12_changes_44 ?_
          refine go_istore_n (ls' := [some (.ref q), some (.int (nI ja)), some (.int (nI jb)), some (.int 0)]) dX12_changes_48 ⟨by decide, rfl, rfl⟩ ?_
          refine go_aload_n dX12_changes_49 rfl ?_
          refine go_iload_n dX12_changes_50 rfl ?_
          refine go_iload_n dX12_changes_51 rfl ?_
          refine go_V [.int (nI ja), .int (nI jb)] [] dX12_changes_52 vl_X12_171 ⟨by decide, by decide⟩ (e_X12_swapPlaces (F := (upd F 16 (0))) (A := A) (L := L) (K := K) hq hn (by omega) (by omega)) mo_obj hq (by omega) rfl rfl (Nat.le_of_ble_eq_true rfl) (Nat.le_of_ble_eq_true rfl) (Nat.le_of_ble_eq_true rfl) (fun r52 f52 n52 h52 => ?_)
          obtain ⟨rfl, rfl, rfl⟩ := h52
          refine go_iload_n dX12_changes_55 rfl ?_
          exact go_iret dX12_changes_56 rfl (Nat.le_of_ble_eq_true rfl) (Nat.le_of_ble_eq_true rfl) (hQ9 ▸ ⟨rd_i (a := 0) (by simp [chR, twoS, c10, kja, c18, kjb, c23, c23n, c40]), by simp [chA, twoS, c10, kja, c18, kjb, c23, c23n, c40], rfl⟩)
      · have c23n := (nI_eq (a := ja) (b := jb) (by omega) (by omega)).mp c23
        refine go_iconst (v := (-1)) dX12_changes_26 rfl ?_
        exact go_iret dX12_changes_27 rfl (Nat.le_of_ble_eq_true rfl) (Nat.le_of_ble_eq_true rfl) (hQ9 ▸ ⟨rd_i (a := (-1)) (by first | (simp [chR, twoS, c10, kja, c18, kjb, c23]; done) | (simp [chR, twoS, c10, kja, c18, kjb, c23, c23n]; done)), by first | (simp [chA, twoS, c10, kja, c18, kjb, c23]; done) | (simp [chA, twoS, c10, kja, c18, kjb, c23, c23n]; done), rfl⟩)
set_option maxHeartbeats 4000000 in
set_option maxRecDepth 100000 in
theorem e_X12_loses (hq : G.2.1 ≤ q) (hn : q + 25 ≤ n) (hM : F 5 = nI M) (hM5 : M ≤ 5) {l : Int32} : Ev G mX12_loses 3 0 0 [.ref q, .int l] (mo G m0 q F A L K) n (fun r f1 n1 => r = some (.int (loR M A l)) ∧ f1 = (mo G m0 q (upd F 16 (0)) (loA M A l) L K) ∧ n1 = n) := by
  generalize hQ9 : (fun r f1 n1 => r = some (.int (loR M A l)) ∧ f1 = (mo G m0 q (upd F 16 (0)) (loA M A l) L K) ∧ n1 = n : RQ) = Q9
  refine ev_of (by decide) (Nat.le_of_ble_eq_true rfl) (ls := [some (.ref q), some (.int l)]) rfl (fun hb => ?_)
  refine go_aload_n dX12_loses_0 rfl ?_
  refine go_iconst (v := 0) dX12_loses_1 rfl ?_
  refine go_put dX12_loses_2 fp_X12_83_12 (Or.inr (fun _ _ _ h => by cases h; rfl)) mo_obj hq (by omega) (rfl) rfl (Nat.le_of_ble_eq_true rfl) ?_
  refine go_mem (mo_setO (F' := (upd F 16 (0))) (K' := K) rfl) ?_
  refine go_aload_n dX12_loses_5 rfl ?_
  refine go_iload_n dX12_loses_6 rfl ?_
  refine go_Vr [.int l] [] dX12_loses_7 vl_X12_151 ⟨by decide, by decide⟩ (e_X12_isLocker (F := (upd F 16 (0))) (A := A) (L := L) (K := K) hq hn hM hM5) mo_obj hq (by omega) rfl rfl (Nat.le_of_ble_eq_true rfl) (Nat.le_of_ble_eq_true rfl) (Nat.le_of_ble_eq_true rfl) ?_
  refine go_if_ne dX12_loses_10 (fun c10 => ?_) (fun c10 => ?_)
  · have c10 := bz_t c10
    obtain ⟨jl, hjl, rfl⟩ := okp_nI c10 (by omega)
    have kjl : (nI jl).toNatClampNeg = jl := nI_clamp (by omega)
    refine go_aload_n dX12_loses_15 rfl ?_
    refine go_get dX12_loses_16 fl_X12_28_12 mo_obj hq (by omega) rfl ?_
    refine go_iload_n dX12_loses_19 rfl ?_
    refine go_iald dX12_loses_20 (mo_arr 7 (by decide)) (by omega) (by omega) (vp_in_nI (n := jl) (by show jl < 5; omega) (by decide)) ?_
    refine go_tp (z := A 7 jl) (by rw [nI_clamp (by omega)]) ?_
    refine go_if_ne dX12_loses_21 (fun c21 => ?_) (fun c21 => ?_)
    · refine go_aload_n dX12_loses_27 rfl ?_
      refine go_get dX12_loses_28 fl_X12_28_12 mo_obj hq (by omega) rfl ?_
      refine go_iload_n dX12_loses_31 rfl ?_
      refine go_dup2 dX12_loses_32 rfl rfl ?_
      refine go_iald dX12_loses_33 (mo_arr 7 (by decide)) (by omega) (by omega) (vp_in_nI (n := jl) (by show jl < 5; omega) (by decide)) ?_
      refine go_tp (z := A 7 jl) (by rw [nI_clamp (by omega)]) ?_
      refine go_iconst (v := 1) dX12_loses_34 rfl ?_
      refine go_isub dX12_loses_35 ?_
      refine go_iast dX12_loses_36 (mo_arr 7 (by decide)) (by omega) (by omega) (vp_in_nI (n := jl) (by show jl < 5; omega) (by decide)) ?_
      refine go_mem (mo_setA 7 (by decide) _ _) ?_
      rw [nI_clamp (by omega)]
      refine go_aload_n dX12_loses_37 rfl ?_
      refine go_get dX12_loses_38 fl_X12_28_12 mo_obj hq (by omega) rfl ?_
      refine go_iload_n dX12_loses_41 rfl ?_
      refine go_iald dX12_loses_42 (mo_arr 7 (by decide)) (by omega) (by omega) (vp_in_nI (n := jl) (by show jl < 5; omega) (by decide)) ?_
      refine go_tp (z := (upA A 7 jl ((A 7 jl) - 1)) 7 jl) (by rw [nI_clamp (by omega)]) ?_
      exact go_iret dX12_loses_43 rfl (Nat.le_of_ble_eq_true rfl) (Nat.le_of_ble_eq_true rfl) (hQ9 ▸ ⟨rd_i (a := (upA A 7 jl ((A 7 jl) - 1)) 7 jl) (by simp [loR, upA, c10, kjl, c21]), by simp [loA, c10, kjl, c21], rfl⟩)
    · refine go_bipush (v := (-3)) dX12_loses_24 rfl ?_
      exact go_iret dX12_loses_26 rfl (Nat.le_of_ble_eq_true rfl) (Nat.le_of_ble_eq_true rfl) (hQ9 ▸ ⟨rd_i (a := (-3)) (by simp [loR, upA, c10, kjl, c21]), by simp [loA, c10, kjl, c21], rfl⟩)
  · have c10 := bz_f c10
    refine go_iconst (v := (-1)) dX12_loses_13 rfl ?_
    exact go_iret dX12_loses_14 rfl (Nat.le_of_ble_eq_true rfl) (Nat.le_of_ble_eq_true rfl) (hQ9 ▸ ⟨rd_i (a := (-1)) (by simp [loR, upA, c10]), by simp [loA, c10], rfl⟩)
end M3
