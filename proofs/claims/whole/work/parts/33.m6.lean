section M6
variable {G : GX} {m0 f : Mem} {q n N M : Nat} {F : Nat → Int32} {A : Nat → Nat → Int32} {L : Nat → Nat → Int64} {K : Option Nat}
set_option maxHeartbeats 4000000 in
set_option maxRecDepth 100000 in
theorem e_X12_thrown (hq : G.2.1 ≤ q) (hn : q + 25 ≤ n) : Ev G mX12_thrown 1 0 0 [.ref q] (mo G m0 q F A L K) n (RD (.int (F 16)) (mo G m0 q F A L K) n) := by
  generalize hQ9 : (RD (.int (F 16)) (mo G m0 q F A L K) n : RQ) = Q9
  refine ev_of (by decide) (Nat.le_of_ble_eq_true rfl) (ls := [some (.ref q)]) rfl (fun hb => ?_)
  refine go_aload_n dX12_thrown_0 rfl ?_
  refine go_get dX12_thrown_1 fl_X12_83_12 mo_obj hq (by omega) rfl ?_
  exact go_iret dX12_thrown_4 rfl (Nat.le_of_ble_eq_true rfl) (Nat.le_of_ble_eq_true rfl) (hQ9 ▸ ⟨rfl, rfl, rfl⟩)
set_option maxHeartbeats 4000000 in
set_option maxRecDepth 100000 in
theorem e_X12_widowed (hq : G.2.1 ≤ q) (hn : q + 25 ≤ n) (hN : F 0 = nI N) (hN8 : N ≤ 8) (hM : F 5 = nI M) (hM5 : M ≤ 5) {what : Int32} : Ev G mX12_widowed 3 0 0 [.ref q, .int what] (mo G m0 q F A L K) n (fun r f1 n1 => r = some (.int (widS N M A what)) ∧ f1 = (mo G m0 q (upd F 16 (0)) A L K) ∧ n1 = n) := by
  generalize hQ9 : (fun r f1 n1 => r = some (.int (widS N M A what)) ∧ f1 = (mo G m0 q (upd F 16 (0)) A L K) ∧ n1 = n : RQ) = Q9
  refine ev_of (by decide) (Nat.le_of_ble_eq_true rfl) (ls := [some (.ref q), some (.int what), none, none]) rfl (fun hb => ?_)
  refine go_aload_n dX12_widowed_0 rfl ?_
  refine go_iconst (v := 0) dX12_widowed_1 rfl ?_
  refine go_put dX12_widowed_2 fp_X12_83_12 (Or.inr (fun _ _ _ h => by cases h; rfl)) mo_obj hq (by omega) (rfl) rfl (Nat.le_of_ble_eq_true rfl) ?_
  refine go_mem (mo_setO (F' := (upd F 16 (0))) (K' := K) rfl) ?_
  refine go_iload_n dX12_widowed_5 rfl ?_
  refine go_i2l dX12_widowed_6 ?_
  refine go_lconst (v := 0) dX12_widowed_7 rfl ?_
  refine go_lconst (v := 1) dX12_widowed_8 rfl ?_
  refine go_Sr [.long (what).toInt64, .long 0, .long 1] [] dX12_widowed_9 sl_X12_90 ⟨by decide, by decide⟩ (e_X12_lies) rfl rfl (Nat.le_of_ble_eq_true rfl) (Nat.le_of_ble_eq_true rfl) (Nat.le_of_ble_eq_true rfl) ?_
  refine go_tp (z := if okr what 0 1 then 1 else 0) (ite_c (li_okr rfl rfl)) ?_
  refine go_if_ne dX12_widowed_12 (fun c12 => ?_) (fun c12 => ?_)
  · have c12 := bz_t c12
    refine go_iconst (v := 0) dX12_widowed_17 rfl ?_
    refine go_istore_n (ls' := [some (.ref q), some (.int what), some (.int 0), none]) dX12_widowed_18 ⟨by decide, rfl, rfl⟩ ?_
    refine go_iconst (v := 0) dX12_widowed_19 rfl ?_
    refine go_istore_n (ls' := [some (.ref q), some (.int what), some (.int 0), some (.int 0)]) dX12_widowed_20 ⟨by decide, rfl, rfl⟩ ?_
    have lp0 : ∀ (μ_lp0 : Nat) (i : Nat) (x : Int32) (hi : i ≤ M) (hmi : M + 1 ≤ i + μ_lp0) (hx : x = btB (fun l => decide (inS N (A 4) (nI l) = 1 - what)) i), Go G mX12_widowed 3 0 0 Q9 0 0 21 [some (.ref q), some (.int what), some (.int x), some (.int (nI i))] [] (mo G m0 q (upd F 16 (0)) A L K) n := by
      intro μ_lp0
      induction μ_lp0 with
      | zero =>
        intro i x hi hmi hx
        exact absurd hmi (by omega)
      | succ μ_lp0 ih_lp0 =>
        intro i x hi hmi hx
        refine go_iload_n dX12_widowed_21 rfl ?_
        refine go_aload_n dX12_widowed_22 rfl ?_
        refine go_get dX12_widowed_23 fl_X12_94_12 mo_obj hq (by omega) rfl ?_
        refine go_tp (z := nI M) (hM) ?_
        refine go_icmp_ge dX12_widowed_26 (fun c26 => ?_) (fun c26 => ?_)
        · have c26n := (nI_leI (a := M) (b := i) (by omega) (by omega)).mp c26
          have c26n := Nat.not_lt.mpr c26n
          have c26 := Int32.not_lt.mpr c26
          refine go_iload_n dX12_widowed_56 rfl ?_
          exact go_iret dX12_widowed_57 rfl (Nat.le_of_ble_eq_true rfl) (Nat.le_of_ble_eq_true rfl) (hQ9 ▸ ⟨rd_i (by unfold widS; rw [if_pos c12, hx, show i = M by omega]), rfl, rfl⟩)
        · have c26n := mt (nI_leI (a := M) (b := i) (by omega) (by omega)).mpr c26
          have c26n := Nat.lt_of_not_le c26n
          have c26 := Int32.not_le.mp c26
          refine go_iload_n dX12_widowed_29 rfl ?_
          refine go_aload_n dX12_widowed_30 rfl ?_
          refine go_iload_n dX12_widowed_31 rfl ?_
          refine go_Vr [.int (nI i)] [.int x] dX12_widowed_32 vl_X12_120 ⟨by decide, by decide⟩ (e_X12_inside (F := (upd F 16 (0))) (A := A) (L := L) (K := K) hq hn hN hN8) mo_obj hq (by omega) rfl rfl (Nat.le_of_ble_eq_true rfl) (Nat.le_of_ble_eq_true rfl) (Nat.le_of_ble_eq_true rfl) ?_
          refine go_iconst (v := 1) dX12_widowed_35 rfl ?_
          refine go_iload_n dX12_widowed_36 rfl ?_
          refine go_isub dX12_widowed_37 ?_
          refine go_icmp_ne dX12_widowed_38 (fun c38 => ?_) (fun c38 => ?_)
          · refine go_iconst (v := 0) dX12_widowed_47 rfl ?_
            refine go_ior dX12_widowed_48 ?_
            refine go_istore_n (ls' := [some (.ref q), some (.int what), some (.int (x ||| 0)), some (.int (nI i))]) dX12_widowed_49 ⟨by decide, rfl, rfl⟩ ?_
            refine go_iinc (v := nI (i + 1)) (ls' := [some (.ref q), some (.int what), some (.int (x ||| 0)), some (.int (nI (i + 1)))]) dX12_widowed_50 rfl (nI_1 (i)) ⟨by decide, rfl, rfl⟩ ?_
            refine go_goto dX12_widowed_53 ?_
            exact ih_lp0 (i + 1) _ (by omega) (by omega) (by simp [hx, btB, c12, c26, c26n, c38])
          · refine go_iconst (v := 1) dX12_widowed_41 rfl ?_
            refine go_iload_n dX12_widowed_42 rfl ?_
            refine go_ishl dX12_widowed_43 ?_
            refine go_goto dX12_widowed_44 ?_
            refine go_ior dX12_widowed_48 ?_
            refine go_istore_n (ls' := [some (.ref q), some (.int what), some (.int (x ||| ((1) <<< ((nI i) &&& 31)))), some (.int (nI i))]) dX12_widowed_49 ⟨by decide, rfl, rfl⟩ ?_
            refine go_iinc (v := nI (i + 1)) (ls' := [some (.ref q), some (.int what), some (.int (x ||| ((1) <<< ((nI i) &&& 31)))), some (.int (nI (i + 1)))]) dX12_widowed_50 rfl (nI_1 (i)) ⟨by decide, rfl, rfl⟩ ?_
            refine go_goto dX12_widowed_53 ?_
            exact ih_lp0 (i + 1) _ (by omega) (by omega) (by simp [hx, btB, c12, c26, c26n, c38])
    exact lp0 (M + 1) 0 _ (Nat.zero_le _) (by omega) (rfl)
  · have c12 := bz_f c12
    refine go_iconst (v := (-1)) dX12_widowed_15 rfl ?_
    exact go_iret dX12_widowed_16 rfl (Nat.le_of_ble_eq_true rfl) (Nat.le_of_ble_eq_true rfl) (hQ9 ▸ ⟨rd_i (by unfold widS; rw [if_neg c12]), rfl, rfl⟩)
set_option maxHeartbeats 4000000 in
set_option maxRecDepth 100000 in
theorem e_X12_count (hq : G.2.1 ≤ q) (hn : q + 25 ≤ n) (hN : F 0 = nI N) (hN8 : N ≤ 8) (hM : F 5 = nI M) (hM5 : M ≤ 5) {P : Int32} (hP : F 9 = P) {what : Int32} : Ev G mX12_count 2 0 0 [.ref q, .int what] (mo G m0 q F A L K) n (fun r f1 n1 => r = some (.int (couS N M P A what)) ∧ f1 = (mo G m0 q (upd F 16 (0)) A L K) ∧ n1 = n) := by
  generalize hQ9 : (fun r f1 n1 => r = some (.int (couS N M P A what)) ∧ f1 = (mo G m0 q (upd F 16 (0)) A L K) ∧ n1 = n : RQ) = Q9
  refine ev_of (by decide) (Nat.le_of_ble_eq_true rfl) (ls := [some (.ref q), some (.int what), none, none]) rfl (fun hb => ?_)
  refine go_aload_n dX12_count_0 rfl ?_
  refine go_iconst (v := 0) dX12_count_1 rfl ?_
  refine go_put dX12_count_2 fp_X12_83_12 (Or.inr (fun _ _ _ h => by cases h; rfl)) mo_obj hq (by omega) (rfl) rfl (Nat.le_of_ble_eq_true rfl) ?_
  refine go_mem (mo_setO (F' := (upd F 16 (0))) (K' := K) rfl) ?_
  refine go_iconst (v := 0) dX12_count_5 rfl ?_
  refine go_istore_n (ls' := [some (.ref q), some (.int what), some (.int 0), none]) dX12_count_6 ⟨by decide, rfl, rfl⟩ ?_
  refine go_iload_n dX12_count_7 rfl ?_
  by_cases e8_0 : (what : Int32) = 0
  · refine go_tp e8_0 ?_
    refine go_tableIn (off := 40) (tgt := 48) dX12_count_8 (by decide) (by decide) (by decide) (by decide) ?_
    refine go_aload_n dX12_count_48 rfl ?_
    refine go_get dX12_count_49 fl_X12_87_12 mo_obj hq (by omega) rfl ?_
    refine go_tp (z := nI N) (hN) ?_
    exact go_iret dX12_count_52 rfl (Nat.le_of_ble_eq_true rfl) (Nat.le_of_ble_eq_true rfl) (hQ9 ▸ ⟨rd_i (by simp [couS, e8_0]), rfl, rfl⟩)
  · by_cases e8_1 : (what : Int32) = 1
    · refine go_tp e8_1 ?_
      refine go_tableIn (off := 45) (tgt := 53) dX12_count_8 (by decide) (by decide) (by decide) (by decide) ?_
      refine go_aload_n dX12_count_53 rfl ?_
      refine go_get dX12_count_54 fl_X12_94_12 mo_obj hq (by omega) rfl ?_
      refine go_tp (z := nI M) (hM) ?_
      exact go_iret dX12_count_57 rfl (Nat.le_of_ble_eq_true rfl) (Nat.le_of_ble_eq_true rfl) (hQ9 ▸ ⟨rd_i (by simp [couS, e8_0, e8_1]), rfl, rfl⟩)
    · by_cases e8_2 : (what : Int32) = 2
      · refine go_tp e8_2 ?_
        refine go_tableIn (off := 50) (tgt := 58) dX12_count_8 (by decide) (by decide) (by decide) (by decide) ?_
        refine go_aload_n dX12_count_58 rfl ?_
        refine go_get dX12_count_59 fl_X12_154_12 mo_obj hq (by omega) rfl ?_
        refine go_tp (z := P) (hP) ?_
        exact go_iret dX12_count_62 rfl (Nat.le_of_ble_eq_true rfl) (Nat.le_of_ble_eq_true rfl) (hQ9 ▸ ⟨rd_i (by simp [couS, e8_0, e8_1, e8_2]), rfl, rfl⟩)
      · by_cases e8_3 : (what : Int32) = 3
        · refine go_tp e8_3 ?_
          refine go_tableIn (off := 55) (tgt := 63) dX12_count_8 (by decide) (by decide) (by decide) (by decide) ?_
          refine go_iconst (v := 0) dX12_count_63 rfl ?_
          refine go_istore_n (ls' := [some (.ref q), some (.int what), some (.int 0), some (.int 0)]) dX12_count_64 ⟨by decide, rfl, rfl⟩ ?_
          have lp3 : ∀ (μ_lp3 : Nat) (i : Nat) (x : Int32) (hi : i ≤ M) (hmi : M + 1 ≤ i + μ_lp3) (hx : x = smS (A 7) i), Go G mX12_count 2 0 0 Q9 0 0 65 [some (.ref q), some (.int what), some (.int x), some (.int (nI i))] [] (mo G m0 q (upd F 16 (0)) A L K) n := by
            intro μ_lp3
            induction μ_lp3 with
            | zero =>
              intro i x hi hmi hx
              exact absurd hmi (by omega)
            | succ μ_lp3 ih_lp3 =>
              intro i x hi hmi hx
              refine go_iload_n dX12_count_65 rfl ?_
              refine go_aload_n dX12_count_66 rfl ?_
              refine go_get dX12_count_67 fl_X12_94_12 mo_obj hq (by omega) rfl ?_
              refine go_tp (z := nI M) (hM) ?_
              refine go_icmp_ge dX12_count_70 (fun c70 => ?_) (fun c70 => ?_)
              · have c70n := (nI_leI (a := M) (b := i) (by omega) (by omega)).mp c70
                have c70n := Nat.not_lt.mpr c70n
                have c70 := Int32.not_lt.mpr c70
                refine go_iload_n dX12_count_88 rfl ?_
                exact go_iret dX12_count_89 rfl (Nat.le_of_ble_eq_true rfl) (Nat.le_of_ble_eq_true rfl) (hQ9 ▸ ⟨rd_i (by rw [hx, show i = M by omega]; simp [couS, e8_0, e8_1, e8_2, e8_3]), rfl, rfl⟩)
              · have c70n := mt (nI_leI (a := M) (b := i) (by omega) (by omega)).mpr c70
                have c70n := Nat.lt_of_not_le c70n
                have c70 := Int32.not_le.mp c70
                refine go_iload_n dX12_count_73 rfl ?_
                refine go_aload_n dX12_count_74 rfl ?_
                refine go_get dX12_count_75 fl_X12_28_12 mo_obj hq (by omega) rfl ?_
                refine go_iload_n dX12_count_78 rfl ?_
                refine go_iald dX12_count_79 (mo_arr 7 (by decide)) (by omega) (by omega) (vp_in_nI (n := i) (by show i < 5; omega) (by decide)) ?_
                refine go_tp (z := A 7 i) (by rw [nI_clamp (by omega)]) ?_
                refine go_iadd dX12_count_80 ?_
                refine go_istore_n (ls' := [some (.ref q), some (.int what), some (.int (x + (A 7 i))), some (.int (nI i))]) dX12_count_81 ⟨by decide, rfl, rfl⟩ ?_
                refine go_iinc (v := nI (i + 1)) (ls' := [some (.ref q), some (.int what), some (.int (x + (A 7 i))), some (.int (nI (i + 1)))]) dX12_count_82 rfl (nI_1 (i)) ⟨by decide, rfl, rfl⟩ ?_
                refine go_goto dX12_count_85 ?_
                exact ih_lp3 (i + 1) _ (by omega) (by omega) (by simp [hx, smS, btB, e8_0, e8_1, e8_2, e8_3, c70, c70n])
          exact lp3 (M + 1) 0 _ (Nat.zero_le _) (by omega) (rfl)
        · by_cases e8_4 : (what : Int32) = 4
          · refine go_tp e8_4 ?_
            refine go_tableIn (off := 82) (tgt := 90) dX12_count_8 (by decide) (by decide) (by decide) (by decide) ?_
            refine go_iconst (v := 0) dX12_count_90 rfl ?_
            refine go_istore_n (ls' := [some (.ref q), some (.int what), some (.int 0), some (.int 0)]) dX12_count_91 ⟨by decide, rfl, rfl⟩ ?_
            have lp4 : ∀ (μ_lp4 : Nat) (i : Nat) (x : Int32) (hi : i ≤ N) (hmi : N + 1 ≤ i + μ_lp4) (hx : x = btB (fun p => decide (A 4 p = 9)) i), Go G mX12_count 2 0 0 Q9 0 0 92 [some (.ref q), some (.int what), some (.int x), some (.int (nI i))] [] (mo G m0 q (upd F 16 (0)) A L K) n := by
              intro μ_lp4
              induction μ_lp4 with
              | zero =>
                intro i x hi hmi hx
                exact absurd hmi (by omega)
              | succ μ_lp4 ih_lp4 =>
                intro i x hi hmi hx
                refine go_iload_n dX12_count_92 rfl ?_
                refine go_aload_n dX12_count_93 rfl ?_
                refine go_get dX12_count_94 fl_X12_87_12 mo_obj hq (by omega) rfl ?_
                refine go_tp (z := nI N) (hN) ?_
                refine go_icmp_ge dX12_count_97 (fun c97 => ?_) (fun c97 => ?_)
                · have c97n := (nI_leI (a := N) (b := i) (by omega) (by omega)).mp c97
                  have c97n := Nat.not_lt.mpr c97n
                  have c97 := Int32.not_lt.mpr c97
                  refine go_iload_n dX12_count_127 rfl ?_
                  exact go_iret dX12_count_128 rfl (Nat.le_of_ble_eq_true rfl) (Nat.le_of_ble_eq_true rfl) (hQ9 ▸ ⟨rd_i (by rw [hx, show i = N by omega]; simp [couS, e8_0, e8_1, e8_2, e8_3, e8_4]), rfl, rfl⟩)
                · have c97n := mt (nI_leI (a := N) (b := i) (by omega) (by omega)).mpr c97
                  have c97n := Nat.lt_of_not_le c97n
                  have c97 := Int32.not_le.mp c97
                  refine go_iload_n dX12_count_100 rfl ?_
                  refine go_aload_n dX12_count_101 rfl ?_
                  refine go_get dX12_count_102 fl_X12_19_12 mo_obj hq (by omega) rfl ?_
                  refine go_iload_n dX12_count_105 rfl ?_
                  refine go_iald dX12_count_106 (mo_arr 4 (by decide)) (by omega) (by omega) (vp_in_nI (n := i) (by show i < 8; omega) (by decide)) ?_
                  refine go_tp (z := A 4 i) (by rw [nI_clamp (by omega)]) ?_
                  refine go_bipush (v := 9) dX12_count_107 rfl ?_
                  refine go_icmp_ne dX12_count_109 (fun c109 => ?_) (fun c109 => ?_)
                  · refine go_iconst (v := 0) dX12_count_118 rfl ?_
                    refine go_ior dX12_count_119 ?_
                    refine go_istore_n (ls' := [some (.ref q), some (.int what), some (.int (x ||| 0)), some (.int (nI i))]) dX12_count_120 ⟨by decide, rfl, rfl⟩ ?_
                    refine go_iinc (v := nI (i + 1)) (ls' := [some (.ref q), some (.int what), some (.int (x ||| 0)), some (.int (nI (i + 1)))]) dX12_count_121 rfl (nI_1 (i)) ⟨by decide, rfl, rfl⟩ ?_
                    refine go_goto dX12_count_124 ?_
                    exact ih_lp4 (i + 1) _ (by omega) (by omega) (by simp [hx, smS, btB, e8_0, e8_1, e8_2, e8_3, e8_4, c97, c97n, c109])
                  · refine go_iconst (v := 1) dX12_count_112 rfl ?_
                    refine go_iload_n dX12_count_113 rfl ?_
                    refine go_ishl dX12_count_114 ?_
                    refine go_goto dX12_count_115 ?_
                    refine go_ior dX12_count_119 ?_
                    refine go_istore_n (ls' := [some (.ref q), some (.int what), some (.int (x ||| ((1) <<< ((nI i) &&& 31)))), some (.int (nI i))]) dX12_count_120 ⟨by decide, rfl, rfl⟩ ?_
                    refine go_iinc (v := nI (i + 1)) (ls' := [some (.ref q), some (.int what), some (.int (x ||| ((1) <<< ((nI i) &&& 31)))), some (.int (nI (i + 1)))]) dX12_count_121 rfl (nI_1 (i)) ⟨by decide, rfl, rfl⟩ ?_
                    refine go_goto dX12_count_124 ?_
                    exact ih_lp4 (i + 1) _ (by omega) (by omega) (by simp [hx, smS, btB, e8_0, e8_1, e8_2, e8_3, e8_4, c97, c97n, c109])
            exact lp4 (N + 1) 0 _ (Nat.zero_le _) (by omega) (rfl)
          · by_cases e8_5 : (what : Int32) = 5
            · refine go_tp e8_5 ?_
              refine go_tableIn (off := 121) (tgt := 129) dX12_count_8 (by decide) (by decide) (by decide) (by decide) ?_
              refine go_iconst (v := 0) dX12_count_129 rfl ?_
              refine go_istore_n (ls' := [some (.ref q), some (.int what), some (.int 0), some (.int 0)]) dX12_count_130 ⟨by decide, rfl, rfl⟩ ?_
              have lp5 : ∀ (μ_lp5 : Nat) (i : Nat) (x : Int32) (hi : i ≤ N) (hmi : N + 1 ≤ i + μ_lp5) (hx : x = smS (fun p => roomS (A 1 p)) i), Go G mX12_count 2 0 0 Q9 0 0 131 [some (.ref q), some (.int what), some (.int x), some (.int (nI i))] [] (mo G m0 q (upd F 16 (0)) A L K) n := by
                intro μ_lp5
                induction μ_lp5 with
                | zero =>
                  intro i x hi hmi hx
                  exact absurd hmi (by omega)
                | succ μ_lp5 ih_lp5 =>
                  intro i x hi hmi hx
                  refine go_iload_n dX12_count_131 rfl ?_
                  refine go_aload_n dX12_count_132 rfl ?_
                  refine go_get dX12_count_133 fl_X12_87_12 mo_obj hq (by omega) rfl ?_
                  refine go_tp (z := nI N) (hN) ?_
                  refine go_icmp_ge dX12_count_136 (fun c136 => ?_) (fun c136 => ?_)
                  · have c136n := (nI_leI (a := N) (b := i) (by omega) (by omega)).mp c136
                    have c136n := Nat.not_lt.mpr c136n
                    have c136 := Int32.not_lt.mpr c136
                    refine go_iload_n dX12_count_153 rfl ?_
                    exact go_iret dX12_count_154 rfl (Nat.le_of_ble_eq_true rfl) (Nat.le_of_ble_eq_true rfl) (hQ9 ▸ ⟨rd_i (by rw [hx, show i = N by omega]; simp [couS, e8_0, e8_1, e8_2, e8_3, e8_4, e8_5]), rfl, rfl⟩)
                  · have c136n := mt (nI_leI (a := N) (b := i) (by omega) (by omega)).mpr c136
                    have c136n := Nat.lt_of_not_le c136n
                    have c136 := Int32.not_le.mp c136
                    refine go_iload_n dX12_count_139 rfl ?_
                    refine go_aload_n dX12_count_140 rfl ?_
                    refine go_iload_n dX12_count_141 rfl ?_
                    refine go_Vr [.int (nI i)] [.int x] dX12_count_142 vl_X12_212 ⟨by decide, by decide⟩ (e_X12_roomOf (F := (upd F 16 (0))) (A := A) (L := L) (K := K) hq hn (by omega)) mo_obj hq (by omega) rfl rfl (Nat.le_of_ble_eq_true rfl) (Nat.le_of_ble_eq_true rfl) (Nat.le_of_ble_eq_true rfl) ?_
                    refine go_iadd dX12_count_145 ?_
                    refine go_istore_n (ls' := [some (.ref q), some (.int what), some (.int (x + (roomS (A 1 i)))), some (.int (nI i))]) dX12_count_146 ⟨by decide, rfl, rfl⟩ ?_
                    refine go_iinc (v := nI (i + 1)) (ls' := [some (.ref q), some (.int what), some (.int (x + (roomS (A 1 i)))), some (.int (nI (i + 1)))]) dX12_count_147 rfl (nI_1 (i)) ⟨by decide, rfl, rfl⟩ ?_
                    refine go_goto dX12_count_150 ?_
                    exact ih_lp5 (i + 1) _ (by omega) (by omega) (by simp [hx, smS, btB, e8_0, e8_1, e8_2, e8_3, e8_4, e8_5, c136, c136n])
              exact lp5 (N + 1) 0 _ (Nat.zero_le _) (by omega) (rfl)
            · refine go_tableOut dX12_count_8 (tgt := 155) (by have := i32_ne (v := 0) (k := 0) rfl e8_0; have := i32_ne (v := 1) (k := 1) rfl e8_1; have := i32_ne (v := 2) (k := 2) rfl e8_2; have := i32_ne (v := 3) (k := 3) rfl e8_3; have := i32_ne (v := 4) (k := 4) rfl e8_4; have := i32_ne (v := 5) (k := 5) rfl e8_5; omega) (by decide) ?_
              refine go_iconst (v := (-1)) dX12_count_155 rfl ?_
              exact go_iret dX12_count_156 rfl (Nat.le_of_ble_eq_true rfl) (Nat.le_of_ble_eq_true rfl) (hQ9 ▸ ⟨rd_i (by simp [couS, e8_0, e8_1, e8_2, e8_3, e8_4, e8_5]), rfl, rfl⟩)
set_option maxHeartbeats 4000000 in
set_option maxRecDepth 100000 in
theorem e_X12_areAsTold (hq : G.2.1 ≤ q) (hn : q + 25 ≤ n) (hN : F 0 = nI N) (hN8 : N ≤ 8) {d : Nat} (hd : d < 8) : Ev G mX12_areAsTold 1 0 0 [.ref q, .int (nI d)] (mo G m0 q F A L K) n (RD (.int (if alB (astP A L d) N then 1 else 0)) (mo G m0 q F A L K) n) := by
  generalize hQ9 : (RD (.int (if alB (astP A L d) N then 1 else 0)) (mo G m0 q F A L K) n : RQ) = Q9
  refine ev_of (by decide) (Nat.le_of_ble_eq_true rfl) (ls := [some (.ref q), some (.int (nI d)), none, none]) rfl (fun hb => ?_)
  refine go_iconst (v := 1) dX12_areAsTold_0 rfl ?_
  refine go_istore_n (ls' := [some (.ref q), some (.int (nI d)), some (.int 1), none]) dX12_areAsTold_1 ⟨by decide, rfl, rfl⟩ ?_
  refine go_iconst (v := 0) dX12_areAsTold_2 rfl ?_
  refine go_istore_n (ls' := [some (.ref q), some (.int (nI d)), some (.int 1), some (.int 0)]) dX12_areAsTold_3 ⟨by decide, rfl, rfl⟩ ?_
  have lp0 : ∀ (μ_lp0 : Nat) (i : Nat) (b : Bool) (hi : i ≤ N) (hmi : N + 1 ≤ i + μ_lp0) (hbb : b = alB (astP A L d) i), Go G mX12_areAsTold 1 0 0 Q9 0 0 4 [some (.ref q), some (.int (nI d)), some (.int (if b then 1 else 0)), some (.int (nI i))] [] (mo G m0 q F A L K) n := by
    intro μ_lp0
    induction μ_lp0 with
    | zero =>
      intro i b hi hmi hbb
      exact absurd hmi (by omega)
    | succ μ_lp0 ih_lp0 =>
      intro i b hi hmi hbb
      refine go_iload_n dX12_areAsTold_4 rfl ?_
      refine go_aload_n dX12_areAsTold_5 rfl ?_
      refine go_get dX12_areAsTold_6 fl_X12_87_12 mo_obj hq (by omega) rfl ?_
      refine go_tp (z := nI N) (hN) ?_
      refine go_icmp_ge dX12_areAsTold_9 (fun c9 => ?_) (fun c9 => ?_)
      · have c9n := (nI_leI (a := N) (b := i) (by omega) (by omega)).mp c9
        have c9n := Nat.not_lt.mpr c9n
        have c9 := Int32.not_lt.mpr c9
        refine go_iload_n dX12_areAsTold_50 rfl ?_
        exact go_zret dX12_areAsTold_51 rfl (Nat.le_of_ble_eq_true rfl) (Nat.le_of_ble_eq_true rfl) (bz_n _) (hQ9 ▸ ⟨rd_i (by rw [hbb, show i = N by omega]), rfl, rfl⟩)
      · have c9n := mt (nI_leI (a := N) (b := i) (by omega) (by omega)).mpr c9
        have c9n := Nat.lt_of_not_le c9n
        have c9 := Int32.not_le.mp c9
        refine go_iload_n dX12_areAsTold_12 rfl ?_
        refine go_if_eq dX12_areAsTold_13 (fun c13 => ?_) (fun c13 => ?_)
        · have c13 := bz_f c13
          refine go_iconst (v := 0) dX12_areAsTold_42 rfl ?_
          refine go_istore_n (ls' := [some (.ref q), some (.int (nI d)), some (.int 0), some (.int (nI i))]) dX12_areAsTold_43 ⟨by decide, rfl, rfl⟩ ?_
          refine go_iinc (v := nI (i + 1)) (ls' := [some (.ref q), some (.int (nI d)), some (.int 0), some (.int (nI (i + 1)))]) dX12_areAsTold_44 rfl (nI_1 (i)) ⟨by decide, rfl, rfl⟩ ?_
          refine go_goto dX12_areAsTold_47 ?_
          exact ih_lp0 (i + 1) false (by omega) (by omega) (by simp [alB, ← hbb, astP, c9, c9n, c13])
        · have c13 := bz_t c13
          refine go_aload_n dX12_areAsTold_16 rfl ?_
          refine go_get dX12_areAsTold_17 fl_X12_19_12 mo_obj hq (by omega) rfl ?_
          refine go_iload_n dX12_areAsTold_20 rfl ?_
          refine go_iald dX12_areAsTold_21 (mo_arr 4 (by decide)) (by omega) (by omega) (vp_in_nI (n := i) (by show i < 8; omega) (by decide)) ?_
          refine go_tp (z := A 4 i) (by rw [nI_clamp (by omega)]) ?_
          refine go_i2l dX12_areAsTold_22 ?_
          refine go_aload_n dX12_areAsTold_23 rfl ?_
          refine go_get dX12_areAsTold_24 fl_X12_46_12 mo_obj hq (by omega) rfl ?_
          refine go_bipush (v := 100) dX12_areAsTold_27 rfl ?_
          refine go_iload_n dX12_areAsTold_29 rfl ?_
          refine go_imul dX12_areAsTold_30 ?_
          refine go_tp (z := nI (100 * d)) (pk_mul 100 d) ?_
          refine go_iload_n dX12_areAsTold_31 rfl ?_
          refine go_iadd dX12_areAsTold_32 ?_
          refine go_tp (z := nI ((100 * d) + i)) (nI_add (100 * d) i) ?_
          refine go_lald dX12_areAsTold_33 (mo_lrr 13 (by decide)) (by omega) (by omega) (vp_in_nI (n := (100 * d) + i) (by show (100 * d) + i < 800; omega) (by decide)) ?_
          refine go_tl (z := L 13 ((100 * d) + i)) (by rw [nI_clamp (by omega)]) ?_
          refine go_lcmp dX12_areAsTold_34 ?_
          refine go_if_ne dX12_areAsTold_35 (fun c35 => ?_) (fun c35 => ?_)
          · have c35 := mt (lc_eq _ _).mpr c35
            refine go_iconst (v := 0) dX12_areAsTold_42 rfl ?_
            refine go_istore_n (ls' := [some (.ref q), some (.int (nI d)), some (.int 0), some (.int (nI i))]) dX12_areAsTold_43 ⟨by decide, rfl, rfl⟩ ?_
            refine go_iinc (v := nI (i + 1)) (ls' := [some (.ref q), some (.int (nI d)), some (.int 0), some (.int (nI (i + 1)))]) dX12_areAsTold_44 rfl (nI_1 (i)) ⟨by decide, rfl, rfl⟩ ?_
            refine go_goto dX12_areAsTold_47 ?_
            exact ih_lp0 (i + 1) false (by omega) (by omega) (by simp [alB, ← hbb, astP, c9, c9n, c13, c35])
          · have c35 := (lc_eq _ _).mp c35
            refine go_iconst (v := 1) dX12_areAsTold_38 rfl ?_
            refine go_goto dX12_areAsTold_39 ?_
            refine go_istore_n (ls' := [some (.ref q), some (.int (nI d)), some (.int 1), some (.int (nI i))]) dX12_areAsTold_43 ⟨by decide, rfl, rfl⟩ ?_
            refine go_iinc (v := nI (i + 1)) (ls' := [some (.ref q), some (.int (nI d)), some (.int 1), some (.int (nI (i + 1)))]) dX12_areAsTold_44 rfl (nI_1 (i)) ⟨by decide, rfl, rfl⟩ ?_
            refine go_goto dX12_areAsTold_47 ?_
            exact ih_lp0 (i + 1) true (by omega) (by omega) (by simp [alB, ← hbb, astP, c9, c9n, c13, c35])
  exact lp0 (N + 1) 0 true (Nat.zero_le _) (by omega) rfl
set_option maxHeartbeats 4000000 in
set_option maxRecDepth 100000 in
theorem e_X12_forgedAt (hq : G.2.1 ≤ q) (hn : q + 25 ≤ n) (hN : F 0 = nI N) (hN8 : N ≤ 8) (hM : F 5 = nI M) (hM5 : M ≤ 5) {d R : Nat} (hd : d < 8) (hR : R ≤ 100) (eR : A 12 d = nI R) : Ev G mX12_forgedAt 2 0 0 [.ref q, .int (nI d)] (mo G m0 q F A L K) n (RD (.int (fgS N M L d R)) (mo G m0 q F A L K) n) := by
  generalize hQ9 : (RD (.int (fgS N M L d R)) (mo G m0 q F A L K) n : RQ) = Q9
  refine ev_of (by decide) (Nat.le_of_ble_eq_true rfl) (ls := [some (.ref q), some (.int (nI d)), none, none, none, none, none]) rfl (fun hb => ?_)
  refine go_iconst (v := 0) dX12_forgedAt_0 rfl ?_
  refine go_istore_n (ls' := [some (.ref q), some (.int (nI d)), some (.int 0), none, none, none, none]) dX12_forgedAt_1 ⟨by decide, rfl, rfl⟩ ?_
  have lp0 : ∀ (μ_lp0 : Nat) (i : Nat) (hi : i ≤ R) (hmi : R + 1 ≤ i + μ_lp0) (hx : fsB (fgP N M L d) 0 R = fsB (fgP N M L d) i (R - i)), Go G mX12_forgedAt 2 0 0 Q9 0 0 2 [some (.ref q), some (.int (nI d)), some (.int (nI i)), none, none, none, none] [] (mo G m0 q F A L K) n := by
    intro μ_lp0
    induction μ_lp0 with
    | zero =>
      intro i hi hmi hx
      exact absurd hmi (by omega)
    | succ μ_lp0 ih_lp0 =>
      intro i hi hmi hx
      refine go_iload_n dX12_forgedAt_2 rfl ?_
      refine go_aload_n dX12_forgedAt_3 rfl ?_
      refine go_get dX12_forgedAt_4 fl_X12_43_12 mo_obj hq (by omega) rfl ?_
      refine go_iload_n dX12_forgedAt_7 rfl ?_
      refine go_iald dX12_forgedAt_8 (mo_arr 12 (by decide)) (by omega) (by omega) (vp_in_nI (n := d) (by show d < 8; omega) (by decide)) ?_
      refine go_tp (z := A 12 d) (by rw [nI_clamp (by omega)]) ?_
      refine go_tp (z := nI R) (eR) ?_
      refine go_icmp_ge dX12_forgedAt_9 (fun c9 => ?_) (fun c9 => ?_)
      · have c9n := (nI_leI (a := R) (b := i) (by omega) (by omega)).mp c9
        have c9n := Nat.not_lt.mpr c9n
        have c9 := Int32.not_lt.mpr c9
        refine go_bipush (v := (-4)) dX12_forgedAt_114 rfl ?_
        exact go_iret dX12_forgedAt_116 rfl (Nat.le_of_ble_eq_true rfl) (Nat.le_of_ble_eq_true rfl) (hQ9 ▸ ⟨rd_i (by unfold fgS; rw [hx, show i = R by omega, fsB_0]), rfl, rfl⟩)
      · have c9n := mt (nI_leI (a := R) (b := i) (by omega) (by omega)).mpr c9
        have c9n := Nat.lt_of_not_le c9n
        have c9 := Int32.not_le.mp c9
        refine go_aload_n dX12_forgedAt_12 rfl ?_
        refine go_get dX12_forgedAt_13 fl_X12_46_12 mo_obj hq (by omega) rfl ?_
        refine go_bipush (v := 100) dX12_forgedAt_16 rfl ?_
        refine go_iload_n dX12_forgedAt_18 rfl ?_
        refine go_imul dX12_forgedAt_19 ?_
        refine go_tp (z := nI (100 * d)) (pk_mul 100 d) ?_
        refine go_iload_n dX12_forgedAt_20 rfl ?_
        refine go_iadd dX12_forgedAt_21 ?_
        refine go_tp (z := nI ((100 * d) + i)) (nI_add (100 * d) i) ?_
        refine go_lald dX12_forgedAt_22 (mo_lrr 13 (by decide)) (by omega) (by omega) (vp_in_nI (n := (100 * d) + i) (by show (100 * d) + i < 800; omega) (by decide)) ?_
        refine go_tl (z := L 13 ((100 * d) + i)) (by rw [nI_clamp (by omega)]) ?_
        refine go_lstore_n (ls' := [some (.ref q), some (.int (nI d)), some (.int (nI i)), some (.long (L 13 ((100 * d) + i))), none, none, none]) dX12_forgedAt_23 ⟨by decide, rfl, rfl⟩ ?_
        refine go_iconst (v := 0) dX12_forgedAt_24 rfl ?_
        refine go_istore (ls' := [some (.ref q), some (.int (nI d)), some (.int (nI i)), some (.long (L 13 ((100 * d) + i))), none, some (.int 0), none]) dX12_forgedAt_25 ⟨by decide, rfl, rfl⟩ ?_
        refine go_iconst (v := 0) dX12_forgedAt_27 rfl ?_
        refine go_istore (ls' := [some (.ref q), some (.int (nI d)), some (.int (nI i)), some (.long (L 13 ((100 * d) + i))), none, some (.int 0), some (.int 0)]) dX12_forgedAt_28 ⟨by decide, rfl, rfl⟩ ?_
        have lp1 : ∀ (μ_lp1 : Nat) (k : Nat) (s : Int32) (hk : k ≤ i) (hmk : i + 1 ≤ k + μ_lp1) (hs : s = cnS (fun j => decide (L 13 (100 * d + j) = L 13 (100 * d + i))) k), Go G mX12_forgedAt 2 0 0 Q9 0 0 30 [some (.ref q), some (.int (nI d)), some (.int (nI i)), some (.long (L 13 (100 * d + i))), none, some (.int s), some (.int (nI k))] [] (mo G m0 q F A L K) n := by
          intro μ_lp1
          induction μ_lp1 with
          | zero =>
            intro k s hk hmk hs
            exact absurd hmk (by omega)
          | succ μ_lp1 ih_lp1 =>
            intro k s hk hmk hs
            refine go_iload dX12_forgedAt_30 rfl ?_
            refine go_iload_n dX12_forgedAt_32 rfl ?_
            refine go_icmp_ge dX12_forgedAt_33 (fun c33 => ?_) (fun c33 => ?_)
            · have c33n := (nI_leI (a := i) (b := k) (by omega) (by omega)).mp c33
              have c33n := Nat.not_lt.mpr c33n
              have c33 := Int32.not_lt.mpr c33
              refine go_iload_n dX12_forgedAt_69 rfl ?_
              refine go_aload_n dX12_forgedAt_70 rfl ?_
              refine go_get dX12_forgedAt_71 fl_X12_87_12 mo_obj hq (by omega) rfl ?_
              refine go_tp (z := nI N) (hN) ?_
              refine go_icmp_ge dX12_forgedAt_74 (fun c74 => ?_) (fun c74 => ?_)
              · have c74n := (nI_leI (a := N) (b := i) (by omega) (by omega)).mp c74
                have c74n := Nat.not_lt.mpr c74n
                have c74 := Int32.not_lt.mpr c74
                refine go_iload_n dX12_forgedAt_106 rfl ?_
                exact go_iret dX12_forgedAt_107 rfl (Nat.le_of_ble_eq_true rfl) (Nat.le_of_ble_eq_true rfl) (hQ9 ▸ ⟨rd_i (by unfold fgS; rw [hx, fsB_d (by omega)]; simp [fgP, show cnS (fun j => decide (L 13 (100 * d + j) = L 13 (100 * d + i))) i = s by rw [hs, show k = i by omega], c9, c9n, c74, c74n]), rfl, rfl⟩)
              · have c74n := mt (nI_leI (a := N) (b := i) (by omega) (by omega)).mpr c74
                have c74n := Nat.lt_of_not_le c74n
                have c74 := Int32.not_le.mp c74
                refine go_lload_n dX12_forgedAt_77 rfl ?_
                refine go_ldc2 (v := 9) dX12_forgedAt_78 wm_1328 ?_
                refine go_lcmp dX12_forgedAt_81 ?_
                refine go_if_eq dX12_forgedAt_82 (fun c82 => ?_) (fun c82 => ?_)
                · have c82 := (lc_eq _ _).mp c82
                  refine go_iinc (v := nI (i + 1)) (ls' := [some (.ref q), some (.int (nI d)), some (.int (nI (i + 1))), some (.long (L 13 (100 * d + i))), none, some (.int s), some (.int (nI k))]) dX12_forgedAt_108 rfl (nI_1 (i)) ⟨by decide, rfl, rfl⟩ ?_
                  refine go_goto dX12_forgedAt_111 ?_
                  refine go_weak (ls' := [some (.ref q), some (.int (nI d)), some (.int (nI (i + 1))), none, none, none, none]) ⟨rfl, rfl, rfl, trivial⟩ ?_
                  exact ih_lp0 (i + 1) (by omega) (by omega) (by rw [hx, fsB_d (by omega)]; simp [fgP, show cnS (fun j => decide (L 13 (100 * d + j) = L 13 (100 * d + i))) i = s by rw [hs, show k = i by omega], c9, c9n, c74, c74n, c82])
                · have c82 := mt (lc_eq _ _).mpr c82
                  refine go_lload_n dX12_forgedAt_85 rfl ?_
                  refine go_lconst (v := 0) dX12_forgedAt_86 rfl ?_
                  refine go_aload_n dX12_forgedAt_87 rfl ?_
                  refine go_get dX12_forgedAt_88 fl_X12_94_12 mo_obj hq (by omega) rfl ?_
                  refine go_tp (z := nI M) (hM) ?_
                  refine go_iconst (v := 1) dX12_forgedAt_91 rfl ?_
                  refine go_isub dX12_forgedAt_92 ?_
                  refine go_i2l dX12_forgedAt_93 ?_
                  refine go_Sr [.long (L 13 (100 * d + i)), .long 0, .long (((nI M) - 1).toInt64)] [] dX12_forgedAt_94 sl_X12_90 ⟨by decide, by decide⟩ (e_X12_lies) rfl rfl (Nat.le_of_ble_eq_true rfl) (Nat.le_of_ble_eq_true rfl) (Nat.le_of_ble_eq_true rfl) ?_
                  refine go_if_eq dX12_forgedAt_97 (fun c97 => ?_) (fun c97 => ?_)
                  · have c97 := bz_f c97
                    refine go_iload_n dX12_forgedAt_106 rfl ?_
                    exact go_iret dX12_forgedAt_107 rfl (Nat.le_of_ble_eq_true rfl) (Nat.le_of_ble_eq_true rfl) (hQ9 ▸ ⟨rd_i (by unfold fgS; rw [hx, fsB_d (by omega)]; simp [fgP, show cnS (fun j => decide (L 13 (100 * d + j) = L 13 (100 * d + i))) i = s by rw [hs, show k = i by omega], c9, c9n, c74, c74n, c82, c97]), rfl, rfl⟩)
                  · have c97 := bz_t c97
                    refine go_iload dX12_forgedAt_100 rfl ?_
                    refine go_iconst (v := 1) dX12_forgedAt_102 rfl ?_
                    refine go_icmp_le dX12_forgedAt_103 (fun c103 => ?_) (fun c103 => ?_)
                    · have c103 := Int32.not_lt.mpr c103
                      refine go_iinc (v := nI (i + 1)) (ls' := [some (.ref q), some (.int (nI d)), some (.int (nI (i + 1))), some (.long (L 13 (100 * d + i))), none, some (.int s), some (.int (nI k))]) dX12_forgedAt_108 rfl (nI_1 (i)) ⟨by decide, rfl, rfl⟩ ?_
                      refine go_goto dX12_forgedAt_111 ?_
                      refine go_weak (ls' := [some (.ref q), some (.int (nI d)), some (.int (nI (i + 1))), none, none, none, none]) ⟨rfl, rfl, rfl, trivial⟩ ?_
                      exact ih_lp0 (i + 1) (by omega) (by omega) (by rw [hx, fsB_d (by omega)]; simp [fgP, show cnS (fun j => decide (L 13 (100 * d + j) = L 13 (100 * d + i))) i = s by rw [hs, show k = i by omega], c9, c9n, c74, c74n, c82, c97, c103])
                    · have c103 := Int32.not_le.mp c103
                      refine go_iload_n dX12_forgedAt_106 rfl ?_
                      exact go_iret dX12_forgedAt_107 rfl (Nat.le_of_ble_eq_true rfl) (Nat.le_of_ble_eq_true rfl) (hQ9 ▸ ⟨rd_i (by unfold fgS; rw [hx, fsB_d (by omega)]; simp [fgP, show cnS (fun j => decide (L 13 (100 * d + j) = L 13 (100 * d + i))) i = s by rw [hs, show k = i by omega], c9, c9n, c74, c74n, c82, c97, c103]), rfl, rfl⟩)
            · have c33n := mt (nI_leI (a := i) (b := k) (by omega) (by omega)).mpr c33
              have c33n := Nat.lt_of_not_le c33n
              have c33 := Int32.not_le.mp c33
              refine go_iload dX12_forgedAt_36 rfl ?_
              refine go_aload_n dX12_forgedAt_38 rfl ?_
              refine go_get dX12_forgedAt_39 fl_X12_46_12 mo_obj hq (by omega) rfl ?_
              refine go_bipush (v := 100) dX12_forgedAt_42 rfl ?_
              refine go_iload_n dX12_forgedAt_44 rfl ?_
              refine go_imul dX12_forgedAt_45 ?_
              refine go_tp (z := nI (100 * d)) (pk_mul 100 d) ?_
              refine go_iload dX12_forgedAt_46 rfl ?_
              refine go_iadd dX12_forgedAt_48 ?_
              refine go_tp (z := nI ((100 * d) + k)) (nI_add (100 * d) k) ?_
              refine go_lald dX12_forgedAt_49 (mo_lrr 13 (by decide)) (by omega) (by omega) (vp_in_nI (n := (100 * d) + k) (by show (100 * d) + k < 800; omega) (by decide)) ?_
              refine go_tl (z := L 13 ((100 * d) + k)) (by rw [nI_clamp (by omega)]) ?_
              refine go_lload_n dX12_forgedAt_50 rfl ?_
              refine go_lcmp dX12_forgedAt_51 ?_
              refine go_if_ne dX12_forgedAt_52 (fun c52 => ?_) (fun c52 => ?_)
              · have c52 := mt (lc_eq _ _).mpr c52
                refine go_iconst (v := 0) dX12_forgedAt_59 rfl ?_
                refine go_iadd dX12_forgedAt_60 ?_
                refine go_istore (ls' := [some (.ref q), some (.int (nI d)), some (.int (nI i)), some (.long (L 13 (100 * d + i))), none, some (.int (s + 0)), some (.int (nI k))]) dX12_forgedAt_61 ⟨by decide, rfl, rfl⟩ ?_
                refine go_iinc (v := nI (k + 1)) (ls' := [some (.ref q), some (.int (nI d)), some (.int (nI i)), some (.long (L 13 (100 * d + i))), none, some (.int (s + 0)), some (.int (nI (k + 1)))]) dX12_forgedAt_63 rfl (nI_1 (k)) ⟨by decide, rfl, rfl⟩ ?_
                refine go_goto dX12_forgedAt_66 ?_
                exact ih_lp1 (k + 1) _ (by omega) (by omega) (by simp [hs, cnS, c9, c9n, c33, c33n, c52])
              · have c52 := (lc_eq _ _).mp c52
                refine go_iconst (v := 1) dX12_forgedAt_55 rfl ?_
                refine go_goto dX12_forgedAt_56 ?_
                refine go_iadd dX12_forgedAt_60 ?_
                refine go_istore (ls' := [some (.ref q), some (.int (nI d)), some (.int (nI i)), some (.long (L 13 (100 * d + i))), none, some (.int (s + 1)), some (.int (nI k))]) dX12_forgedAt_61 ⟨by decide, rfl, rfl⟩ ?_
                refine go_iinc (v := nI (k + 1)) (ls' := [some (.ref q), some (.int (nI d)), some (.int (nI i)), some (.long (L 13 (100 * d + i))), none, some (.int (s + 1)), some (.int (nI (k + 1)))]) dX12_forgedAt_63 rfl (nI_1 (k)) ⟨by decide, rfl, rfl⟩ ?_
                refine go_goto dX12_forgedAt_66 ?_
                exact ih_lp1 (k + 1) _ (by omega) (by omega) (by simp [hs, cnS, c9, c9n, c33, c33n, c52])
        exact lp1 (i + 1) 0 _ (Nat.zero_le _) (by omega) (rfl)
  exact lp0 (R + 1) 0 (Nat.zero_le _) (by omega) rfl
set_option maxHeartbeats 4000000 in
set_option maxRecDepth 100000 in
theorem e_X12_forged (hq : G.2.1 ≤ q) (hn : q + 25 ≤ n) (hN : F 0 = nI N) (hN8 : N ≤ 8) (hM : F 5 = nI M) (hM5 : M ≤ 5) (hrl : rlOK A) {d : Int32} : Ev G mX12_forged 3 0 0 [.ref q, .int d] (mo G m0 q F A L K) n (fun r f1 n1 => r = some (.int (forS N M A L d)) ∧ f1 = (mo G m0 q (upd F 16 (0)) A L K) ∧ n1 = n) := by
  generalize hQ9 : (fun r f1 n1 => r = some (.int (forS N M A L d)) ∧ f1 = (mo G m0 q (upd F 16 (0)) A L K) ∧ n1 = n : RQ) = Q9
  refine ev_of (by decide) (Nat.le_of_ble_eq_true rfl) (ls := [some (.ref q), some (.int d)]) rfl (fun hb => ?_)
  refine go_aload_n dX12_forged_0 rfl ?_
  refine go_iconst (v := 0) dX12_forged_1 rfl ?_
  refine go_put dX12_forged_2 fp_X12_83_12 (Or.inr (fun _ _ _ h => by cases h; rfl)) mo_obj hq (by omega) (rfl) rfl (Nat.le_of_ble_eq_true rfl) ?_
  refine go_mem (mo_setO (F' := (upd F 16 (0))) (K' := K) rfl) ?_
  refine go_aload_n dX12_forged_5 rfl ?_
  refine go_iload_n dX12_forged_6 rfl ?_
  refine go_Vr [.int d] [] dX12_forged_7 vl_X12_178 ⟨by decide, by decide⟩ (e_X12_wrongRow (F := (upd F 16 (0))) (A := A) (L := L) (K := K) hq hn) mo_obj hq (by omega) rfl rfl (Nat.le_of_ble_eq_true rfl) (Nat.le_of_ble_eq_true rfl) (Nat.le_of_ble_eq_true rfl) ?_
  refine go_if_ge dX12_forged_10 (fun c10 => ?_) (fun c10 => ?_)
  · have c10 := Int32.not_lt.mpr c10
    obtain ⟨jd, hjd, rfl, ejd⟩ := wkS_ok c10
    have kjd : (nI jd).toNatClampNeg = jd := nI_clamp (by omega)
    obtain ⟨R, hR, eR⟩ := hrl jd (by omega)
    refine go_aload_n dX12_forged_21 rfl ?_
    refine go_iload_n dX12_forged_22 rfl ?_
    refine go_Vr [.int (nI jd)] [] dX12_forged_23 vl_X12_332 ⟨by decide, by decide⟩ (e_X12_forgedAt (F := (upd F 16 (0))) (A := A) (L := L) (K := K) hq hn hN hN8 hM hM5 (by omega) hR eR) mo_obj hq (by omega) rfl rfl (Nat.le_of_ble_eq_true rfl) (Nat.le_of_ble_eq_true rfl) (Nat.le_of_ble_eq_true rfl) ?_
    exact go_iret dX12_forged_26 rfl (Nat.le_of_ble_eq_true rfl) (Nat.le_of_ble_eq_true rfl) (hQ9 ▸ ⟨rd_i (by unfold forS; rw [if_neg c10, kjd, eR, nI_clamp (by omega)]), rfl, rfl⟩)
  · have c10 := Int32.not_le.mp c10
    refine go_aload_n dX12_forged_13 rfl ?_
    refine go_iload_n dX12_forged_14 rfl ?_
    refine go_Vr [.int d] [] dX12_forged_15 vl_X12_178 ⟨by decide, by decide⟩ (e_X12_wrongRow (F := (upd F 16 (0))) (A := A) (L := L) (K := K) hq hn) mo_obj hq (by omega) rfl rfl (Nat.le_of_ble_eq_true rfl) (Nat.le_of_ble_eq_true rfl) (Nat.le_of_ble_eq_true rfl) ?_
    refine go_goto dX12_forged_18 ?_
    exact go_iret dX12_forged_26 rfl (Nat.le_of_ble_eq_true rfl) (Nat.le_of_ble_eq_true rfl) (hQ9 ▸ ⟨rd_i (by unfold forS; rw [if_pos c10]), rfl, rfl⟩)
def raQ (N : Nat) (A : Nat → Nat → Int32) (a b : Nat) : Bool := raS (mtA N A N) (mtA N A N 19) a b
set_option maxHeartbeats 4000000 in
set_option maxRecDepth 100000 in
theorem e_X12_rather (hq : G.2.1 ≤ q) (hn : q + 25 ≤ n) (hN : F 0 = nI N) (hN8 : N ≤ 8) {what : Int32} : Ev G mX12_rather 5 0 0 [.ref q, .int what] (mo G m0 q F A L K) n (fun r f1 n1 => r = some (.int (if okr what 0 1 then (if what = 0 then c2B (raQ N A) N 0 N else f2B (raQ N A) N 0 N) else -1)) ∧ f1 = mo G m0 q (upd F 16 0) (if okr what 0 1 then mtA N A N else A) L K ∧ n1 = n) := by
  generalize hQ9 : (fun r f1 n1 => r = some (.int (if okr what 0 1 then (if what = 0 then c2B (raQ N A) N 0 N else f2B (raQ N A) N 0 N) else -1)) ∧ f1 = mo G m0 q (upd F 16 0) (if okr what 0 1 then mtA N A N else A) L K ∧ n1 = n : RQ) = Q9
  refine ev_of (by decide) (Nat.le_of_ble_eq_true rfl) (ls := [some (.ref q), some (.int what), none, none, none, none]) rfl (fun hb => ?_)
  have hmt : mtOK N (mtA N A N 19) := mtA_ok hN8
  refine go_aload_n dX12_rather_0 rfl ?_
  refine go_iconst (v := 0) dX12_rather_1 rfl ?_
  refine go_put dX12_rather_2 fp_X12_83_12 (Or.inr (fun _ _ _ h => by cases h; rfl)) mo_obj hq (by omega) (rfl) rfl (Nat.le_of_ble_eq_true rfl) ?_
  refine go_mem (mo_setO (F' := (upd F 16 (0))) (K' := K) rfl) ?_
  refine go_iload_n dX12_rather_5 rfl ?_
  refine go_i2l dX12_rather_6 ?_
  refine go_lconst (v := 0) dX12_rather_7 rfl ?_
  refine go_lconst (v := 1) dX12_rather_8 rfl ?_
  refine go_Sr [.long (what).toInt64, .long 0, .long 1] [] dX12_rather_9 sl_X12_90 ⟨by decide, by decide⟩ (e_X12_lies) rfl rfl (Nat.le_of_ble_eq_true rfl) (Nat.le_of_ble_eq_true rfl) (Nat.le_of_ble_eq_true rfl) ?_
  refine go_tp (z := if okr what 0 1 then 1 else 0) (ite_c (li_okr rfl rfl)) ?_
  refine go_if_ne dX12_rather_12 (fun c12 => ?_) (fun c12 => ?_)
  · have c12 := bz_t c12
    refine go_iconst (v := 0) dX12_rather_17 rfl ?_
    refine go_istore_n (ls' := [some (.ref q), some (.int what), some (.int 0), none, none, none]) dX12_rather_18 ⟨by decide, rfl, rfl⟩ ?_
    have lp0 : ∀ (μ_lp0 : Nat) (i : Nat) (hi : i ≤ N) (hmi : N + 1 ≤ i + μ_lp0), Go G mX12_rather 5 0 0 Q9 0 0 19 [some (.ref q), some (.int what), some (.int (nI i)), none, none, none] [] (mo G m0 q (upd F 16 (0)) (mtA N A i) L K) n := by
      intro μ_lp0
      induction μ_lp0 with
      | zero =>
        intro i hi hmi
        exact absurd hmi (by omega)
      | succ μ_lp0 ih_lp0 =>
        intro i hi hmi
        refine go_iload_n dX12_rather_19 rfl ?_
        refine go_aload_n dX12_rather_20 rfl ?_
        refine go_get dX12_rather_21 fl_X12_87_12 mo_obj hq (by omega) rfl ?_
        refine go_tp (z := nI N) (hN) ?_
        refine go_icmp_ge dX12_rather_24 (fun c24 => ?_) (fun c24 => ?_)
        · have c24n := (nI_leI (a := N) (b := i) (by omega) (by omega)).mp c24
          have c24n := Nat.not_lt.mpr c24n
          have c24 := Int32.not_lt.mpr c24
          refine go_iconst (v := 0) dX12_rather_44 rfl ?_
          refine go_istore_n (ls' := [some (.ref q), some (.int what), some (.int 0), none, none, none]) dX12_rather_45 ⟨by decide, rfl, rfl⟩ ?_
          refine go_bipush (v := (-4)) dX12_rather_46 rfl ?_
          refine go_istore_n (ls' := [some (.ref q), some (.int what), some (.int 0), some (.int (-4)), none, none]) dX12_rather_48 ⟨by decide, rfl, rfl⟩ ?_
          refine go_aload_n dX12_rather_49 rfl ?_
          refine go_get dX12_rather_50 fl_X12_87_12 mo_obj hq (by omega) rfl ?_
          refine go_tp (z := nI N) (hN) ?_
          refine go_iconst (v := 1) dX12_rather_53 rfl ?_
          refine go_isub dX12_rather_54 ?_
          refine go_istore (ls' := [some (.ref q), some (.int what), some (.int 0), some (.int (-4)), some (.int ((nI N) - 1)), none]) dX12_rather_55 ⟨by decide, rfl, rfl⟩ ?_
          have lp1 : ∀ (μ_lp1 : Nat) (a : Nat) (x : Int32) (y : Int32) (ha : a ≤ N) (hma : a + 1 ≤ μ_lp1) (hx : x = c2B (raQ N A) N a (N - a)) (hy : y = f2B (raQ N A) N a (N - a)), Go G mX12_rather 5 0 0 Q9 0 0 57 [some (.ref q), some (.int what), some (.int x), some (.int y), some (.int (nI a - 1)), none] [] (mo G m0 q (upd F 16 (0)) (mtA N A N) L K) n := by
            intro μ_lp1
            induction μ_lp1 with
            | zero =>
              intro a x y ha hma hx hy
              exact absurd hma (by omega)
            | succ μ_lp1 ih_lp1 =>
              intro a x y ha hma hx hy
              rcases a with _ | a
              · skip
                refine go_iload dX12_rather_57 rfl ?_
                refine go_if_lt dX12_rather_59 (fun c59 => ?_) (fun c59 => ?_)
                · refine go_iload_n dX12_rather_132 rfl ?_
                  refine go_if_ne dX12_rather_133 (fun c133 => ?_) (fun c133 => ?_)
                  · refine go_iload_n dX12_rather_140 rfl ?_
                    exact go_iret dX12_rather_141 rfl (Nat.le_of_ble_eq_true rfl) (Nat.le_of_ble_eq_true rfl) (hQ9 ▸ ⟨rd_i (by simp [c12, hx, hy, c133]), by simp [c12], rfl⟩)
                  · subst c133
                    refine go_iload_n dX12_rather_136 rfl ?_
                    refine go_goto dX12_rather_137 ?_
                    exact go_iret dX12_rather_141 rfl (Nat.le_of_ble_eq_true rfl) (Nat.le_of_ble_eq_true rfl) (hQ9 ▸ ⟨rd_i (by simp [c12, hx, hy, ]), by simp [c12], rfl⟩)
                · exact absurd (by decide) c59
              · refine go_ls (ls' := [some (.ref q), some (.int what), some (.int x), some (.int y), some (.int (nI a)), none]) (by rw [nI_pred]) ?_
                refine go_iload dX12_rather_57 rfl ?_
                refine go_if_lt dX12_rather_59 (fun c59 => ?_) (fun c59 => ?_)
                · have c59n := (n0_lt (a := a) (by omega)).mp c59
                  first | exact absurd c59n (by decide) | exact absurd (by decide) c59n | exact absurd rfl c59n | omega
                · have c59n := mt (n0_lt (a := a) (by omega)).mpr c59
                  refine go_aload_n dX12_rather_62 rfl ?_
                  refine go_get dX12_rather_63 fl_X12_87_12 mo_obj hq (by omega) rfl ?_
                  refine go_tp (z := nI N) (hN) ?_
                  refine go_iconst (v := 1) dX12_rather_66 rfl ?_
                  refine go_isub dX12_rather_67 ?_
                  refine go_istore (ls' := [some (.ref q), some (.int what), some (.int x), some (.int y), some (.int (nI a)), some (.int ((nI N) - 1))]) dX12_rather_68 ⟨by decide, rfl, rfl⟩ ?_
                  have lp2 : ∀ (μ_lp2 : Nat) (k : Nat) (u : Int32) (v : Int32) (hlk : a + 1 ≤ k) (hk : k ≤ N) (hmk : k + 1 ≤ μ_lp2) (hu : u = x + cfB (raQ N A a) k (N - k)) (hv : v = f1B (raQ N A a) a y k (N - k)), Go G mX12_rather 5 0 0 Q9 0 0 70 [some (.ref q), some (.int what), some (.int u), some (.int v), some (.int (nI a)), some (.int (nI k - 1))] [] (mo G m0 q (upd F 16 (0)) (mtA N A N) L K) n := by
                    intro μ_lp2
                    induction μ_lp2 with
                    | zero =>
                      intro k u v hlk hk hmk hu hv
                      exact absurd hmk (by omega)
                    | succ μ_lp2 ih_lp2 =>
                      intro k u v hlk hk hmk hu hv
                      rcases Nat.lt_or_ge (a + 1) k with hzk | hzk
                      rotate_left
                      · obtain rfl : k = a + 1 := by omega
                        refine go_ls (ls' := [some (.ref q), some (.int what), some (.int u), some (.int v), some (.int (nI a)), some (.int (nI a))]) (by rw [nI_pred]) ?_
                        refine go_iload dX12_rather_70 rfl ?_
                        refine go_iload dX12_rather_72 rfl ?_
                        refine go_icmp_le dX12_rather_74 (fun c74 => ?_) (fun c74 => ?_)
                        · have c74n := (nI_leI (a := a) (b := a) (by omega) (by omega)).mp c74
                          have c74n := Nat.not_lt.mpr c74n
                          have c74 := Int32.not_lt.mpr c74
                          refine go_iinc (v := (nI a) - 1) (ls' := [some (.ref q), some (.int what), some (.int u), some (.int v), some (.int ((nI a) - 1)), some (.int (nI a))]) dX12_rather_126 rfl (i32_m1 _) ⟨by decide, rfl, rfl⟩ ?_
                          refine go_goto dX12_rather_129 ?_
                          refine go_weak (ls' := [some (.ref q), some (.int what), some (.int u), some (.int v), some (.int ((nI a) - 1)), none]) ⟨rfl, rfl, rfl, rfl, rfl, trivial⟩ ?_
                          exact ih_lp1 a _ _ (by omega) (by omega) (by rw [c2B_d (by omega), hu, hx]) (by rw [f2B_d (by omega), hv, hy])
                        · have c74n := mt (nI_leI (a := a) (b := a) (by omega) (by omega)).mpr c74
                          have c74n := Nat.lt_of_not_le c74n
                          have c74 := Int32.not_le.mp c74
                          first | exact absurd c74n (by decide) | exact absurd (by decide) c74n | exact absurd rfl c74n | omega
                      · obtain ⟨k, rfl⟩ : ∃ z, k = z + 1 := ⟨k - 1, by omega⟩
                        refine go_ls (ls' := [some (.ref q), some (.int what), some (.int u), some (.int v), some (.int (nI a)), some (.int (nI k))]) (by rw [nI_pred]) ?_
                        refine go_iload dX12_rather_70 rfl ?_
                        refine go_iload dX12_rather_72 rfl ?_
                        refine go_icmp_le dX12_rather_74 (fun c74 => ?_) (fun c74 => ?_)
                        · have c74n := (nI_leI (a := k) (b := a) (by omega) (by omega)).mp c74
                          have c74n := Nat.not_lt.mpr c74n
                          have c74 := Int32.not_lt.mpr c74
                          omega
                        · have c74n := mt (nI_leI (a := k) (b := a) (by omega) (by omega)).mpr c74
                          have c74n := Nat.lt_of_not_le c74n
                          have c74 := Int32.not_le.mp c74
                          refine go_iload_n dX12_rather_77 rfl ?_
                          refine go_aload_n dX12_rather_78 rfl ?_
                          refine go_iload dX12_rather_79 rfl ?_
                          refine go_iload dX12_rather_81 rfl ?_
                          refine go_Vr [.int (nI a), .int (nI k)] [.int u] dX12_rather_83 vl_X12_242 ⟨by decide, by decide⟩ (e_X12_areRather (F := (upd F 16 (0))) (A := (mtA N A N)) (L := L) (K := K) hq hn hN hN8 hmt (by omega) (by omega)) mo_obj hq (by omega) rfl rfl (Nat.le_of_ble_eq_true rfl) (Nat.le_of_ble_eq_true rfl) (Nat.le_of_ble_eq_true rfl) ?_
                          refine go_if_eq dX12_rather_86 (fun c86 => ?_) (fun c86 => ?_)
                          · have c86 := bz_f c86
                            refine go_iconst (v := 0) dX12_rather_93 rfl ?_
                            refine go_iadd dX12_rather_94 ?_
                            refine go_istore_n (ls' := [some (.ref q), some (.int what), some (.int (u + 0)), some (.int v), some (.int (nI a)), some (.int (nI k))]) dX12_rather_95 ⟨by decide, rfl, rfl⟩ ?_
                            refine go_aload_n dX12_rather_96 rfl ?_
                            refine go_iload dX12_rather_97 rfl ?_
                            refine go_iload dX12_rather_99 rfl ?_
                            refine go_Vr [.int (nI a), .int (nI k)] [] dX12_rather_101 vl_X12_242 ⟨by decide, by decide⟩ (e_X12_areRather (F := (upd F 16 (0))) (A := (mtA N A N)) (L := L) (K := K) hq hn hN hN8 hmt (by omega) (by omega)) mo_obj hq (by omega) rfl rfl (Nat.le_of_ble_eq_true rfl) (Nat.le_of_ble_eq_true rfl) (Nat.le_of_ble_eq_true rfl) ?_
                            refine go_if_eq dX12_rather_104 (fun c104 => ?_) (fun c104 => ?_)
                            · have c104 := bz_f c104
                              refine go_iload_n dX12_rather_118 rfl ?_
                              refine go_istore_n (ls' := [some (.ref q), some (.int what), some (.int (u + 0)), some (.int v), some (.int (nI a)), some (.int (nI k))]) dX12_rather_119 ⟨by decide, rfl, rfl⟩ ?_
                              refine go_iinc (v := (nI k) - 1) (ls' := [some (.ref q), some (.int what), some (.int (u + 0)), some (.int v), some (.int (nI a)), some (.int ((nI k) - 1))]) dX12_rather_120 rfl (i32_m1 _) ⟨by decide, rfl, rfl⟩ ?_
                              refine go_goto dX12_rather_123 ?_
                              exact ih_lp2 k _ _ (by omega) (by omega) (by omega) (by rw [cfB_d (by omega), ← Int32.add_assoc, hu]; simp [raQ, c12, c24, c24n, c74, c74n, c86]) (by rw [f1B_d (by omega)]; simp [hv, raQ, c12, c24, c24n, c74, c74n, c86])
                            · have c104 := bz_t c104
                              exact absurd c104 c86
                          · have c86 := bz_t c86
                            refine go_iconst (v := 1) dX12_rather_89 rfl ?_
                            refine go_goto dX12_rather_90 ?_
                            refine go_iadd dX12_rather_94 ?_
                            refine go_istore_n (ls' := [some (.ref q), some (.int what), some (.int (u + 1)), some (.int v), some (.int (nI a)), some (.int (nI k))]) dX12_rather_95 ⟨by decide, rfl, rfl⟩ ?_
                            refine go_aload_n dX12_rather_96 rfl ?_
                            refine go_iload dX12_rather_97 rfl ?_
                            refine go_iload dX12_rather_99 rfl ?_
                            refine go_Vr [.int (nI a), .int (nI k)] [] dX12_rather_101 vl_X12_242 ⟨by decide, by decide⟩ (e_X12_areRather (F := (upd F 16 (0))) (A := (mtA N A N)) (L := L) (K := K) hq hn hN hN8 hmt (by omega) (by omega)) mo_obj hq (by omega) rfl rfl (Nat.le_of_ble_eq_true rfl) (Nat.le_of_ble_eq_true rfl) (Nat.le_of_ble_eq_true rfl) ?_
                            refine go_if_eq dX12_rather_104 (fun c104 => ?_) (fun c104 => ?_)
                            · have c104 := bz_f c104
                              exact absurd c86 c104
                            · have c104 := bz_t c104
                              refine go_bipush (v := 10) dX12_rather_107 rfl ?_
                              refine go_iload dX12_rather_109 rfl ?_
                              refine go_imul dX12_rather_111 ?_
                              refine go_tp (z := nI (10 * a)) (pk_mul 10 a) ?_
                              refine go_iload dX12_rather_112 rfl ?_
                              refine go_iadd dX12_rather_114 ?_
                              refine go_tp (z := nI ((10 * a) + k)) (nI_add (10 * a) k) ?_
                              refine go_goto dX12_rather_115 ?_
                              refine go_istore_n (ls' := [some (.ref q), some (.int what), some (.int (u + 1)), some (.int (nI ((10 * a) + k))), some (.int (nI a)), some (.int (nI k))]) dX12_rather_119 ⟨by decide, rfl, rfl⟩ ?_
                              refine go_iinc (v := (nI k) - 1) (ls' := [some (.ref q), some (.int what), some (.int (u + 1)), some (.int (nI ((10 * a) + k))), some (.int (nI a)), some (.int ((nI k) - 1))]) dX12_rather_120 rfl (i32_m1 _) ⟨by decide, rfl, rfl⟩ ?_
                              refine go_goto dX12_rather_123 ?_
                              exact ih_lp2 k _ _ (by omega) (by omega) (by omega) (by rw [cfB_d (by omega), ← Int32.add_assoc, hu]; simp [raQ, c12, c24, c24n, c74, c74n, c86]) (by rw [f1B_d (by omega)]; simp [hv, raQ, c12, c24, c24n, c74, c74n, c86])
                  exact lp2 (N + 1) N _ _ (by omega) (Nat.le_refl _) (Nat.le_refl _) (by rw [cfB_0, Int32.add_zero]) (by rw [f1B_0])
          rw [show i = N by omega]
          have hmt : mtOK N (mtA N A N 19) := mtA_ok hN8
          exact lp1 (N + 1) N _ _ (Nat.le_refl _) (Nat.le_refl _) (by rw [c2B_0]) (by rw [f2B_0])
        · have c24n := mt (nI_leI (a := N) (b := i) (by omega) (by omega)).mpr c24
          have c24n := Nat.lt_of_not_le c24n
          have c24 := Int32.not_le.mp c24
          refine go_aload_n dX12_rather_27 rfl ?_
          refine go_get dX12_rather_28 fl_X12_65_12 mo_obj hq (by omega) rfl ?_
          refine go_iload_n dX12_rather_31 rfl ?_
          refine go_aload_n dX12_rather_32 rfl ?_
          refine go_iload_n dX12_rather_33 rfl ?_
          refine go_Vr [.int (nI i)] [.int (nI i), .ref (q + 19)] dX12_rather_34 vl_X12_111 ⟨by decide, by decide⟩ (e_X12_mateOf (F := (upd F 16 (0))) (A := (mtA N A i)) (L := L) (K := K) hq hn hN hN8 (by omega)) mo_obj hq (by omega) rfl rfl (Nat.le_of_ble_eq_true rfl) (Nat.le_of_ble_eq_true rfl) (Nat.le_of_ble_eq_true rfl) ?_
          refine go_iast dX12_rather_37 (mo_arr 19 (by decide)) (by omega) (by omega) (vp_in_nI (n := i) (by show i < 8; omega) (by decide)) ?_
          refine go_mem (mo_setA 19 (by decide) _ _) ?_
          rw [nI_clamp (by omega)]
          refine go_iinc (v := nI (i + 1)) (ls' := [some (.ref q), some (.int what), some (.int (nI (i + 1))), none, none, none]) dX12_rather_38 rfl (nI_1 (i)) ⟨by decide, rfl, rfl⟩ ?_
          refine go_goto dX12_rather_41 ?_
          refine go_mem (f' := (mo G m0 q (upd F 16 (0)) (mtA N A (i + 1)) L K)) (by rw [← mtA_s]; rfl) ?_
          exact ih_lp0 (i + 1) (by omega) (by omega)
    refine go_mem (f' := (mo G m0 q (upd F 16 (0)) (mtA N A 0) L K)) (by rw [mtA_0]) ?_
    exact lp0 (N + 1) 0 (Nat.zero_le _) (by omega)
  · have c12 := bz_f c12
    refine go_iconst (v := (-1)) dX12_rather_15 rfl ?_
    exact go_iret dX12_rather_16 rfl (Nat.le_of_ble_eq_true rfl) (Nat.le_of_ble_eq_true rfl) (hQ9 ▸ ⟨rd_i (by simp [c12]), by simp [c12], rfl⟩)
end M6
