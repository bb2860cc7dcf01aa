section M17
variable {G : GX} {m0 f : Mem} {q n N M : Nat} {F : Nat → Int32} {A : Nat → Nat → Int32} {L : Nat → Nat → Int64} {K : Option Nat}
set_option maxHeartbeats 4000000 in
set_option maxRecDepth 100000 in
theorem e_X12_here (hq : G.2.1 ≤ q) (hn : q + 25 ≤ n) {a d R : Nat} (h18 : F 18 = nI a) (h17 : F 17 = nI d) (hd : d < 8) (hR : R ≤ 100) (eR : A 12 d = nI R) (ha : a < 2 ^ 20) : Ev G mX12_here 1 0 0 [.ref q] (mo G m0 q F A L K) n (RD (.int (txC L d R a)) (mo G m0 q F A L K) n) := by
  generalize hQ9 : (RD (.int (txC L d R a)) (mo G m0 q F A L K) n : RQ) = Q9
  refine ev_of (by decide) (Nat.le_of_ble_eq_true rfl) (ls := [some (.ref q)]) rfl (fun hb => ?_)
  refine go_aload_n dX12_here_0 rfl ?_
  refine go_get dX12_here_1 fl_X12_123_12 mo_obj hq (by omega) rfl ?_
  refine go_tp (z := nI a) (h18) ?_
  refine go_aload_n dX12_here_4 rfl ?_
  refine go_get dX12_here_5 fl_X12_43_12 mo_obj hq (by omega) rfl ?_
  refine go_aload_n dX12_here_8 rfl ?_
  refine go_get dX12_here_9 fl_X12_126_12 mo_obj hq (by omega) rfl ?_
  refine go_tp (z := nI d) (h17) ?_
  refine go_iald dX12_here_12 (mo_arr 12 (by decide)) (by omega) (by omega) (vp_in_nI (n := d) (by show d < 8; omega) (by decide)) ?_
  refine go_tp (z := A 12 d) (by rw [nI_clamp (by omega)]) ?_
  refine go_tp (z := nI R) (eR) ?_
  refine go_icmp_ge dX12_here_13 (fun c13 => ?_) (fun c13 => ?_)
  · have c13n := (nI_leI (a := R) (b := a) (by omega) (by omega)).mp c13
    have c13n := Nat.not_lt.mpr c13n
    have c13 := Int32.not_lt.mpr c13
    refine go_sipush (v := (-999)) dX12_here_37 rfl ?_
    exact go_iret dX12_here_40 rfl (Nat.le_of_ble_eq_true rfl) (Nat.le_of_ble_eq_true rfl) (hQ9 ▸ ⟨rd_i (by unfold txC; rw [if_neg (by omega)]), rfl, rfl⟩)
  · have c13n := mt (nI_leI (a := R) (b := a) (by omega) (by omega)).mpr c13
    have c13n := Nat.lt_of_not_le c13n
    have c13 := Int32.not_le.mp c13
    refine go_aload_n dX12_here_16 rfl ?_
    refine go_get dX12_here_17 fl_X12_46_12 mo_obj hq (by omega) rfl ?_
    refine go_bipush (v := 100) dX12_here_20 rfl ?_
    refine go_aload_n dX12_here_22 rfl ?_
    refine go_get dX12_here_23 fl_X12_126_12 mo_obj hq (by omega) rfl ?_
    refine go_tp (z := nI d) (h17) ?_
    refine go_imul dX12_here_26 ?_
    refine go_tp (z := nI (100 * d)) (pk_mul 100 d) ?_
    refine go_aload_n dX12_here_27 rfl ?_
    refine go_get dX12_here_28 fl_X12_123_12 mo_obj hq (by omega) rfl ?_
    refine go_tp (z := nI a) (h18) ?_
    refine go_iadd dX12_here_31 ?_
    refine go_tp (z := nI ((100 * d) + a)) (nI_add (100 * d) a) ?_
    refine go_lald dX12_here_32 (mo_lrr 13 (by decide)) (by omega) (by omega) (vp_in_nI (n := (100 * d) + a) (by show (100 * d) + a < 800; omega) (by decide)) ?_
    refine go_tl (z := L 13 ((100 * d) + a)) (by rw [nI_clamp (by omega)]) ?_
    refine go_l2i dX12_here_33 ?_
    refine go_goto dX12_here_34 ?_
    exact go_iret dX12_here_40 rfl (Nat.le_of_ble_eq_true rfl) (Nat.le_of_ble_eq_true rfl) (hQ9 ▸ ⟨rd_i (by unfold txC; rw [if_pos (by omega)]), rfl, rfl⟩)
set_option maxHeartbeats 4000000 in
set_option maxRecDepth 100000 in
theorem e_X12_readDigit (hq : G.2.1 ≤ q) (hn : q + 25 ≤ n) {a d R : Nat} (h18 : F 18 = nI a) (h17 : F 17 = nI d) (hd : d < 8) (hR : R ≤ 100) (eR : A 12 d = nI R) (ha : a < 2 ^ 20) (h19 : F 19 = 0) : Ev G mX12_readDigit 2 0 0 [.ref q] (mo G m0 q F A L K) n (fun r f1 n1 => r = some (.int (if dgS (txC L d R a) = true then txC L d R a - 48 else 0)) ∧ f1 = mo G m0 q (upd (upd F 19 (if dgS (txC L d R a) = true then 0 else 1)) 18 (nI (if dgS (txC L d R a) = true then a + 1 else a))) A L K ∧ n1 = n) := by
  generalize hQ9 : (fun r f1 n1 => r = some (.int (if dgS (txC L d R a) = true then txC L d R a - 48 else 0)) ∧ f1 = mo G m0 q (upd (upd F 19 (if dgS (txC L d R a) = true then 0 else 1)) 18 (nI (if dgS (txC L d R a) = true then a + 1 else a))) A L K ∧ n1 = n : RQ) = Q9
  refine ev_of (by decide) (Nat.le_of_ble_eq_true rfl) (ls := [some (.ref q), none]) rfl (fun hb => ?_)
  refine go_aload_n dX12_readDigit_0 rfl ?_
  refine go_aload_n dX12_readDigit_1 rfl ?_
  refine go_get dX12_readDigit_2 fl_X12_129_12 mo_obj hq (by omega) rfl ?_
  refine go_tp (z := 0) (h19) ?_
  refine go_if_ne dX12_readDigit_5 (fun c5 => ?_) (fun c5 => ?_)
  · have c5n := mt (n0_eq (a := 0) (by omega)).mpr c5
    first | exact absurd c5n (by decide) | exact absurd (by decide) c5n | exact absurd rfl c5n | omega
  · have c5n := (n0_eq (a := 0) (by omega)).mp c5
    refine go_aload_n dX12_readDigit_8 rfl ?_
    refine go_Vr [] [.ref q] dX12_readDigit_9 vl_X12_133 ⟨by decide, by decide⟩ (e_X12_here (F := F) (A := A) (L := L) (K := K) hq hn (a := a) h18 h17 hd hR eR (by omega)) mo_obj hq (by omega) rfl rfl (Nat.le_of_ble_eq_true rfl) (Nat.le_of_ble_eq_true rfl) (Nat.le_of_ble_eq_true rfl) ?_
    refine go_i2l dX12_readDigit_12 ?_
    refine go_ldc2 (v := 48) dX12_readDigit_13 wm_1232 ?_
    refine go_ldc2 (v := 57) dX12_readDigit_16 wm_1233 ?_
    refine go_Sr [.long ((txC L d R a).toInt64), .long 48, .long 57] [.ref q] dX12_readDigit_19 sl_X12_90 ⟨by decide, by decide⟩ (e_X12_lies) rfl rfl (Nat.le_of_ble_eq_true rfl) (Nat.le_of_ble_eq_true rfl) (Nat.le_of_ble_eq_true rfl) ?_
    refine go_tp (z := if okr (txC L d R a) 48 57 then 1 else 0) (ite_c (li_okr rfl rfl)) ?_
    refine go_if_ne dX12_readDigit_22 (fun c22 => ?_) (fun c22 => ?_)
    · have c22 := bz_t c22
      refine go_iconst (v := 0) dX12_readDigit_29 rfl ?_
      refine go_put dX12_readDigit_30 fp_X12_129_12 (Or.inr (fun _ _ _ h => by cases h; rfl)) mo_obj hq (by omega) (rfl) rfl (Nat.le_of_ble_eq_true rfl) ?_
      refine go_mem (mo_setO (F' := (upd F 19 (0))) (K' := K) rfl) ?_
      refine go_aload_n dX12_readDigit_33 rfl ?_
      refine go_get dX12_readDigit_34 fl_X12_129_12 mo_obj hq (by omega) rfl ?_
      refine go_tp (z := 0) (rfl) ?_
      refine go_if_eq dX12_readDigit_37 (fun c37 => ?_) (fun c37 => ?_)
      · have c37n := (n0_eq (a := 0) (by omega)).mp c37
        refine go_aload_n dX12_readDigit_44 rfl ?_
        refine go_Vr [] [] dX12_readDigit_45 vl_X12_133 ⟨by decide, by decide⟩ (e_X12_here (F := (upd F 19 (0))) (A := A) (L := L) (K := K) hq hn (a := a) h18 h17 hd hR eR (by omega)) mo_obj hq (by omega) rfl rfl (Nat.le_of_ble_eq_true rfl) (Nat.le_of_ble_eq_true rfl) (Nat.le_of_ble_eq_true rfl) ?_
        refine go_bipush (v := 48) dX12_readDigit_48 rfl ?_
        refine go_isub dX12_readDigit_50 ?_
        refine go_istore_n (ls' := [some (.ref q), some (.int ((txC L d R a) - 48))]) dX12_readDigit_51 ⟨by decide, rfl, rfl⟩ ?_
        refine go_aload_n dX12_readDigit_52 rfl ?_
        refine go_dup dX12_readDigit_53 rfl ?_
        refine go_get dX12_readDigit_54 fl_X12_123_12 mo_obj hq (by omega) rfl ?_
        refine go_tp (z := nI a) (h18) ?_
        refine go_aload_n dX12_readDigit_57 rfl ?_
        refine go_get dX12_readDigit_58 fl_X12_129_12 mo_obj hq (by omega) rfl ?_
        refine go_tp (z := 0) (rfl) ?_
        refine go_if_eq dX12_readDigit_61 (fun c61 => ?_) (fun c61 => ?_)
        · have c61n := (n0_eq (a := 0) (by omega)).mp c61
          refine go_iconst (v := 1) dX12_readDigit_68 rfl ?_
          refine go_iadd dX12_readDigit_69 ?_
          refine go_tp (z := nI (a + 1)) (nI_add a 1) ?_
          refine go_put dX12_readDigit_70 fp_X12_123_12 (Or.inr (fun _ _ _ h => by cases h; rfl)) mo_obj hq (by omega) (rfl) rfl (Nat.le_of_ble_eq_true rfl) ?_
          refine go_mem (mo_setO (F' := (upd (upd F 19 (0)) 18 (nI (a + 1)))) (K' := K) rfl) ?_
          refine go_iload_n dX12_readDigit_73 rfl ?_
          exact go_iret dX12_readDigit_74 rfl (Nat.le_of_ble_eq_true rfl) (Nat.le_of_ble_eq_true rfl) (hQ9 ▸ ⟨rd_i (a := (txC L d R a) - 48) (by simp [dgS, c22]), by simp [dgS, c22], rfl⟩)
        · have c61n := mt (n0_eq (a := 0) (by omega)).mpr c61
          first | exact absurd c61n (by decide) | exact absurd (by decide) c61n | exact absurd rfl c61n | omega
      · have c37n := mt (n0_eq (a := 0) (by omega)).mpr c37
        first | exact absurd c37n (by decide) | exact absurd (by decide) c37n | exact absurd rfl c37n | omega
    · have c22 := bz_f c22
      refine go_iconst (v := 1) dX12_readDigit_25 rfl ?_
      refine go_goto dX12_readDigit_26 ?_
      refine go_put dX12_readDigit_30 fp_X12_129_12 (Or.inr (fun _ _ _ h => by cases h; rfl)) mo_obj hq (by omega) (rfl) rfl (Nat.le_of_ble_eq_true rfl) ?_
      refine go_mem (mo_setO (F' := (upd F 19 (1))) (K' := K) rfl) ?_
      refine go_aload_n dX12_readDigit_33 rfl ?_
      refine go_get dX12_readDigit_34 fl_X12_129_12 mo_obj hq (by omega) rfl ?_
      refine go_tp (z := 1) (rfl) ?_
      refine go_if_eq dX12_readDigit_37 (fun c37 => ?_) (fun c37 => ?_)
      · have c37n := (n0_eq (a := 1) (by omega)).mp c37
        first | exact absurd c37n (by decide) | exact absurd (by decide) c37n | exact absurd rfl c37n | omega
      · have c37n := mt (n0_eq (a := 1) (by omega)).mpr c37
        refine go_iconst (v := 0) dX12_readDigit_40 rfl ?_
        refine go_goto dX12_readDigit_41 ?_
        refine go_istore_n (ls' := [some (.ref q), some (.int 0)]) dX12_readDigit_51 ⟨by decide, rfl, rfl⟩ ?_
        refine go_aload_n dX12_readDigit_52 rfl ?_
        refine go_dup dX12_readDigit_53 rfl ?_
        refine go_get dX12_readDigit_54 fl_X12_123_12 mo_obj hq (by omega) rfl ?_
        refine go_tp (z := nI a) (h18) ?_
        refine go_aload_n dX12_readDigit_57 rfl ?_
        refine go_get dX12_readDigit_58 fl_X12_129_12 mo_obj hq (by omega) rfl ?_
        refine go_tp (z := 1) (rfl) ?_
        refine go_if_eq dX12_readDigit_61 (fun c61 => ?_) (fun c61 => ?_)
        · have c61n := (n0_eq (a := 1) (by omega)).mp c61
          first | exact absurd c61n (by decide) | exact absurd (by decide) c61n | exact absurd rfl c61n | omega
        · have c61n := mt (n0_eq (a := 1) (by omega)).mpr c61
          refine go_iconst (v := 0) dX12_readDigit_64 rfl ?_
          refine go_goto dX12_readDigit_65 ?_
          refine go_iadd dX12_readDigit_69 ?_
          refine go_tp (z := nI (a + 0)) (nI_add a 0) ?_
          refine go_put dX12_readDigit_70 fp_X12_123_12 (Or.inr (fun _ _ _ h => by cases h; rfl)) mo_obj hq (by omega) (rfl) rfl (Nat.le_of_ble_eq_true rfl) ?_
          refine go_mem (mo_setO (F' := (upd (upd F 19 (1)) 18 (nI (a + 0)))) (K' := K) rfl) ?_
          refine go_iload_n dX12_readDigit_73 rfl ?_
          exact go_iret dX12_readDigit_74 rfl (Nat.le_of_ble_eq_true rfl) (Nat.le_of_ble_eq_true rfl) (hQ9 ▸ ⟨rd_i (a := 0) (by simp [dgS, c22]), by simp [dgS, c22], rfl⟩)
set_option maxHeartbeats 4000000 in
set_option maxRecDepth 100000 in
theorem e_X12_readStatement (hq : G.2.1 ≤ q) (hn : q + 25 ≤ n) {a d R : Nat} (h18 : F 18 = nI a) (h17 : F 17 = nI d) (hd : d < 8) (hR : R ≤ 100) (eR : A 12 d = nI R) (ha : a < 2 ^ 10) {k : Nat} (h19 : F 19 = 0) (h20 : F 20 = nI k) (hk : k < 51) : Ev G mX12_readStatement 3 0 0 [.ref q] (mo G m0 q F A L K) n (fun r f1 n1 => r = none ∧ (∃ F' A', sdR (txC L d R) a k F A F' A' ∧ f1 = mo G m0 q F' A' L K) ∧ n1 = n) := by
  generalize hQ9 : (fun r f1 n1 => r = none ∧ (∃ F' A', sdR (txC L d R) a k F A F' A' ∧ f1 = mo G m0 q F' A' L K) ∧ n1 = n : RQ) = Q9
  refine ev_of (by decide) (Nat.le_of_ble_eq_true rfl) (ls := [some (.ref q), none, none, none, none]) rfl (fun hb => ?_)
  have hD3 := ndS_le (txC L d R a)
  refine go_aload_n dX12_readStatement_0 rfl ?_
  refine go_get dX12_readStatement_1 fl_X12_141_12 mo_obj hq (by omega) rfl ?_
  refine go_tp (z := nI k) (h20) ?_
  refine go_istore_n (ls' := [some (.ref q), some (.int (nI k)), none, none, none]) dX12_readStatement_4 ⟨by decide, rfl, rfl⟩ ?_
  refine go_aload_n dX12_readStatement_5 rfl ?_
  refine go_Vr [] [] dX12_readStatement_6 vl_X12_133 ⟨by decide, by decide⟩ (e_X12_here (F := F) (A := A) (L := L) (K := K) hq hn (a := a) h18 h17 hd hR eR (by omega)) mo_obj hq (by omega) rfl rfl (Nat.le_of_ble_eq_true rfl) (Nat.le_of_ble_eq_true rfl) (Nat.le_of_ble_eq_true rfl) ?_
  refine go_istore_n (ls' := [some (.ref q), some (.int (nI k)), some (.int (txC L d R a)), none, none]) dX12_readStatement_9 ⟨by decide, rfl, rfl⟩ ?_
  refine go_aload_n dX12_readStatement_10 rfl ?_
  refine go_get dX12_readStatement_11 fl_X12_50_12 mo_obj hq (by omega) rfl ?_
  refine go_iload_n dX12_readStatement_14 rfl ?_
  refine go_aload_n dX12_readStatement_15 rfl ?_
  refine go_get dX12_readStatement_16 fl_X12_123_12 mo_obj hq (by omega) rfl ?_
  refine go_tp (z := nI a) (h18) ?_
  refine go_iast dX12_readStatement_19 (mo_arr 14 (by decide)) (by omega) (by omega) (vp_in_nI (n := k) (by show k < 51; omega) (by decide)) ?_
  refine go_mem (mo_setA 14 (by decide) _ _) ?_
  rw [nI_clamp (by omega)]
  refine go_aload_n dX12_readStatement_20 rfl ?_
  refine go_get dX12_readStatement_21 fl_X12_53_12 mo_obj hq (by omega) rfl ?_
  refine go_iload_n dX12_readStatement_24 rfl ?_
  refine go_iload_n dX12_readStatement_25 rfl ?_
  refine go_iast dX12_readStatement_26 (mo_arr 15 (by decide)) (by omega) (by omega) (vp_in_nI (n := k) (by show k < 51; omega) (by decide)) ?_
  refine go_mem (mo_setA 15 (by decide) _ _) ?_
  rw [nI_clamp (by omega)]
  refine go_aload_n dX12_readStatement_27 rfl ?_
  refine go_aload_n dX12_readStatement_28 rfl ?_
  refine go_get dX12_readStatement_29 fl_X12_129_12 mo_obj hq (by omega) rfl ?_
  refine go_tp (z := 0) (h19) ?_
  refine go_if_ne dX12_readStatement_32 (fun c32 => ?_) (fun c32 => ?_)
  · have c32n := mt (n0_eq (a := 0) (by omega)).mpr c32
    first | exact absurd c32n (by decide) | exact absurd (by decide) c32n | exact absurd rfl c32n | omega
  · have c32n := (n0_eq (a := 0) (by omega)).mp c32
    refine go_iload_n dX12_readStatement_35 rfl ?_
    refine go_Sr [.int (txC L d R a)] [.ref q] dX12_readStatement_36 sl_X12_144 ⟨by decide, by decide⟩ (e_X12_isLetter) rfl rfl (Nat.le_of_ble_eq_true rfl) (Nat.le_of_ble_eq_true rfl) (Nat.le_of_ble_eq_true rfl) ?_
    refine go_if_ne dX12_readStatement_39 (fun c39 => ?_) (fun c39 => ?_)
    · have c39 := bz_t c39
      refine go_iconst (v := 0) dX12_readStatement_46 rfl ?_
      refine go_put dX12_readStatement_47 fp_X12_129_12 (Or.inr (fun _ _ _ h => by cases h; rfl)) mo_obj hq (by omega) (rfl) rfl (Nat.le_of_ble_eq_true rfl) ?_
      refine go_mem (mo_setO (F' := (upd F 19 (0))) (K' := K) rfl) ?_
      refine go_aload_n dX12_readStatement_50 rfl ?_
      refine go_dup dX12_readStatement_51 rfl ?_
      refine go_get dX12_readStatement_52 fl_X12_123_12 mo_obj hq (by omega) rfl ?_
      refine go_tp (z := nI a) (h18) ?_
      refine go_aload_n dX12_readStatement_55 rfl ?_
      refine go_get dX12_readStatement_56 fl_X12_129_12 mo_obj hq (by omega) rfl ?_
      refine go_tp (z := 0) (rfl) ?_
      refine go_if_eq dX12_readStatement_59 (fun c59 => ?_) (fun c59 => ?_)
      · have c59n := (n0_eq (a := 0) (by omega)).mp c59
        refine go_iconst (v := 1) dX12_readStatement_66 rfl ?_
        refine go_iadd dX12_readStatement_67 ?_
        refine go_tp (z := nI (a + 1)) (nI_add a 1) ?_
        refine go_put dX12_readStatement_68 fp_X12_123_12 (Or.inr (fun _ _ _ h => by cases h; rfl)) mo_obj hq (by omega) (rfl) rfl (Nat.le_of_ble_eq_true rfl) ?_
        refine go_mem (mo_setO (F' := (upd (upd F 19 (0)) 18 (nI (a + 1)))) (K' := K) rfl) ?_
        refine go_iload_n dX12_readStatement_71 rfl ?_
        refine go_bipush (v := 112) dX12_readStatement_72 rfl ?_
        refine go_icmp_ne dX12_readStatement_74 (fun c74 => ?_) (fun c74 => ?_)
        · refine go_iload_n dX12_readStatement_81 rfl ?_
          refine go_bipush (v := 107) dX12_readStatement_82 rfl ?_
          refine go_icmp_eq dX12_readStatement_84 (fun c84 => ?_) (fun c84 => ?_)
          · refine go_iconst (v := 1) dX12_readStatement_93 rfl ?_
            refine go_goto dX12_readStatement_94 ?_
            refine go_istore_n (ls' := [some (.ref q), some (.int (nI k)), some (.int (txC L d R a)), some (.int 1), none]) dX12_readStatement_98 ⟨by decide, rfl, rfl⟩ ?_
            refine go_iconst (v := 0) dX12_readStatement_99 rfl ?_
            refine go_istore (ls' := [some (.ref q), some (.int (nI k)), some (.int (txC L d R a)), some (.int 1), some (.int 0)]) dX12_readStatement_100 ⟨by decide, rfl, rfl⟩ ?_
            have lp0 : ∀ (μ_lp0 : Nat) (i m : Nat) (b : Bool) (F1 : Nat → Int32) (A1 : Nat → Nat → Int32) (hi : i ≤ ndS (txC L d R a)) (hmi : ndS (txC L d R a) + 1 ≤ i + μ_lp0) (g18 : F1 18 = nI (a + 1 + m)) (g19 : F1 19 = if b = true then 1 else 0) (hb0 : b = false → m = i) (hb1 : b = true → m < i ∧ m < ndS (txC L d R a) ∧ dgS (txC L d R (a + 1 + m)) = false) (hdg : ∀ j, j < m → dgS (txC L d R (a + 1 + j)) = true) (hW : stW (txC L d R) a k m F A F1 A1), Go G mX12_readStatement 3 0 0 Q9 0 0 102 [some (.ref q), some (.int (nI k)), some (.int (txC L d R a)), some (.int (nI (ndS (txC L d R a)))), some (.int (nI i))] [] (mo G m0 q F1 A1 L K) n := by
              intro μ_lp0
              induction μ_lp0 with
              | zero =>
                intro i m b F1 A1 hi hmi g18 g19 hb0 hb1 hdg hW
                exact absurd hmi (by omega)
              | succ μ_lp0 ih_lp0 =>
                intro i m b F1 A1 hi hmi g18 g19 hb0 hb1 hdg hW
                have hmi2 : m ≤ i := by
                  rcases Bool.eq_false_or_eq_true b with z | z
                  · have := (hb1 z).1; omega
                  · have := hb0 z; omega
                refine go_iload dX12_readStatement_102 rfl ?_
                refine go_iload_n dX12_readStatement_104 rfl ?_
                refine go_icmp_ge dX12_readStatement_105 (fun c105 => ?_) (fun c105 => ?_)
                · have c105n := (nI_leI (a := ndS (txC L d R a)) (b := i) (by omega) (by omega)).mp c105
                  have c105n := Nat.not_lt.mpr c105n
                  have c105 := Int32.not_lt.mpr c105
                  refine go_aload_n dX12_readStatement_136 rfl ?_
                  refine go_aload_n dX12_readStatement_137 rfl ?_
                  refine go_get dX12_readStatement_138 fl_X12_129_12 mo_obj hq (by omega) rfl ?_
                  refine go_tp (z := if b then 1 else 0) (g19) ?_
                  refine go_if_ne dX12_readStatement_141 (fun c141 => ?_) (fun c141 => ?_)
                  · have c141 := bz_t c141
                    refine go_iconst (v := 1) dX12_readStatement_153 rfl ?_
                    refine go_goto dX12_readStatement_154 ?_
                    refine go_put dX12_readStatement_158 fp_X12_129_12 (Or.inr (fun _ _ _ h => by cases h; rfl)) mo_obj hq (by omega) (rfl) rfl (Nat.le_of_ble_eq_true rfl) ?_
                    refine go_mem (mo_setO (F' := (upd F1 19 (1))) (K' := K) rfl) ?_
                    refine go_aload_n dX12_readStatement_161 rfl ?_
                    refine go_dup dX12_readStatement_162 rfl ?_
                    refine go_get dX12_readStatement_163 fl_X12_123_12 mo_obj hq (by omega) rfl ?_
                    refine go_tp (z := nI (a + 1 + m)) (g18) ?_
                    refine go_aload_n dX12_readStatement_166 rfl ?_
                    refine go_get dX12_readStatement_167 fl_X12_129_12 mo_obj hq (by omega) rfl ?_
                    refine go_tp (z := 1) (rfl) ?_
                    refine go_if_eq dX12_readStatement_170 (fun c170 => ?_) (fun c170 => ?_)
                    · have c170n := (n0_eq (a := 1) (by omega)).mp c170
                      first | exact absurd c170n (by decide) | exact absurd (by decide) c170n | exact absurd rfl c170n | omega
                    · have c170n := mt (n0_eq (a := 1) (by omega)).mpr c170
                      refine go_iconst (v := 0) dX12_readStatement_173 rfl ?_
                      refine go_goto dX12_readStatement_174 ?_
                      refine go_iadd dX12_readStatement_178 ?_
                      refine go_tp (z := nI ((a + 1 + m) + 0)) (nI_add (a + 1 + m) 0) ?_
                      refine go_put dX12_readStatement_179 fp_X12_123_12 (Or.inr (fun _ _ _ h => by cases h; rfl)) mo_obj hq (by omega) (rfl) rfl (Nat.le_of_ble_eq_true rfl) ?_
                      refine go_mem (mo_setO (F' := (upd (upd F1 19 (1)) 18 (nI ((a + 1 + m) + 0)))) (K' := K) rfl) ?_
                      refine go_aload_n dX12_readStatement_182 rfl ?_
                      refine go_dup dX12_readStatement_183 rfl ?_
                      refine go_get dX12_readStatement_184 fl_X12_141_12 mo_obj hq (by omega) rfl ?_
                      refine go_tp (z := nI k) ((hW.1 20 (by decide) (by decide)).trans h20) ?_
                      refine go_iconst (v := 1) dX12_readStatement_187 rfl ?_
                      refine go_iadd dX12_readStatement_188 ?_
                      refine go_tp (z := nI (k + 1)) (nI_add k 1) ?_
                      refine go_put dX12_readStatement_189 fp_X12_141_12 (Or.inr (fun _ _ _ h => by cases h; rfl)) mo_obj hq (by omega) (rfl) rfl (Nat.le_of_ble_eq_true rfl) ?_
                      refine go_mem (mo_setO (F' := (upd (upd (upd F1 19 (1)) 18 (nI ((a + 1 + m) + 0))) 20 (nI (k + 1)))) (K' := K) rfl) ?_
                      exact go_vret dX12_readStatement_192 rfl (Nat.le_of_ble_eq_true rfl) (Nat.le_of_ble_eq_true rfl) (hQ9 ▸ ⟨rfl, ⟨_, _, sdR_of hW (st_2 c39 hdg (hb1 c141).2.1 (hb1 c141).2.2) rfl rfl (fun z => by cases z) rfl rfl rfl (fun j h1 h2 h3 => by simp [upd, h1, h2, h3]), rfl⟩, rfl⟩)
                  · have c141 := bz_f c141
                    refine go_aload_n dX12_readStatement_144 rfl ?_
                    refine go_Vr [] [.ref q] dX12_readStatement_145 vl_X12_133 ⟨by decide, by decide⟩ (e_X12_here (F := F1) (A := A1) (L := L) (K := K) hq hn (a := a + 1 + m) g18 ((hW.1 17 (by decide) (by decide)).trans h17) hd hR ((congrFun (hW.2.1 12 (by decide)) d).trans eR) (by omega)) mo_obj hq (by omega) rfl rfl (Nat.le_of_ble_eq_true rfl) (Nat.le_of_ble_eq_true rfl) (Nat.le_of_ble_eq_true rfl) ?_
                    refine go_bipush (v := 59) dX12_readStatement_148 rfl ?_
                    refine go_icmp_eq dX12_readStatement_150 (fun c150 => ?_) (fun c150 => ?_)
                    · refine go_iconst (v := 0) dX12_readStatement_157 rfl ?_
                      refine go_put dX12_readStatement_158 fp_X12_129_12 (Or.inr (fun _ _ _ h => by cases h; rfl)) mo_obj hq (by omega) (rfl) rfl (Nat.le_of_ble_eq_true rfl) ?_
                      refine go_mem (mo_setO (F' := (upd F1 19 (0))) (K' := K) rfl) ?_
                      refine go_aload_n dX12_readStatement_161 rfl ?_
                      refine go_dup dX12_readStatement_162 rfl ?_
                      refine go_get dX12_readStatement_163 fl_X12_123_12 mo_obj hq (by omega) rfl ?_
                      refine go_tp (z := nI (a + 1 + m)) (g18) ?_
                      refine go_aload_n dX12_readStatement_166 rfl ?_
                      refine go_get dX12_readStatement_167 fl_X12_129_12 mo_obj hq (by omega) rfl ?_
                      refine go_tp (z := 0) (rfl) ?_
                      refine go_if_eq dX12_readStatement_170 (fun c170 => ?_) (fun c170 => ?_)
                      · have c170n := (n0_eq (a := 0) (by omega)).mp c170
                        refine go_iconst (v := 1) dX12_readStatement_177 rfl ?_
                        refine go_iadd dX12_readStatement_178 ?_
                        refine go_tp (z := nI ((a + 1 + m) + 1)) (nI_add (a + 1 + m) 1) ?_
                        refine go_put dX12_readStatement_179 fp_X12_123_12 (Or.inr (fun _ _ _ h => by cases h; rfl)) mo_obj hq (by omega) (rfl) rfl (Nat.le_of_ble_eq_true rfl) ?_
                        refine go_mem (mo_setO (F' := (upd (upd F1 19 (0)) 18 (nI ((a + 1 + m) + 1)))) (K' := K) rfl) ?_
                        refine go_aload_n dX12_readStatement_182 rfl ?_
                        refine go_dup dX12_readStatement_183 rfl ?_
                        refine go_get dX12_readStatement_184 fl_X12_141_12 mo_obj hq (by omega) rfl ?_
                        refine go_tp (z := nI k) ((hW.1 20 (by decide) (by decide)).trans h20) ?_
                        refine go_iconst (v := 1) dX12_readStatement_187 rfl ?_
                        refine go_iadd dX12_readStatement_188 ?_
                        refine go_tp (z := nI (k + 1)) (nI_add k 1) ?_
                        refine go_put dX12_readStatement_189 fp_X12_141_12 (Or.inr (fun _ _ _ h => by cases h; rfl)) mo_obj hq (by omega) (rfl) rfl (Nat.le_of_ble_eq_true rfl) ?_
                        refine go_mem (mo_setO (F' := (upd (upd (upd F1 19 (0)) 18 (nI ((a + 1 + m) + 1))) 20 (nI (k + 1)))) (K' := K) rfl) ?_
                        exact go_vret dX12_readStatement_192 rfl (Nat.le_of_ble_eq_true rfl) (Nat.le_of_ble_eq_true rfl) (hQ9 ▸ ⟨rfl, ⟨_, _, sdR_of hW (st_4 c39 hdg (by have := hb0 (Bool.eq_false_iff.mpr c141); omega) c150) rfl rfl (fun _ => (by have := hb0 (Bool.eq_false_iff.mpr c141); omega)) rfl rfl rfl (fun j h1 h2 h3 => by simp [upd, h1, h2, h3]), rfl⟩, rfl⟩)
                      · have c170n := mt (n0_eq (a := 0) (by omega)).mpr c170
                        first | exact absurd c170n (by decide) | exact absurd (by decide) c170n | exact absurd rfl c170n | omega
                    · refine go_iconst (v := 1) dX12_readStatement_153 rfl ?_
                      refine go_goto dX12_readStatement_154 ?_
                      refine go_put dX12_readStatement_158 fp_X12_129_12 (Or.inr (fun _ _ _ h => by cases h; rfl)) mo_obj hq (by omega) (rfl) rfl (Nat.le_of_ble_eq_true rfl) ?_
                      refine go_mem (mo_setO (F' := (upd F1 19 (1))) (K' := K) rfl) ?_
                      refine go_aload_n dX12_readStatement_161 rfl ?_
                      refine go_dup dX12_readStatement_162 rfl ?_
                      refine go_get dX12_readStatement_163 fl_X12_123_12 mo_obj hq (by omega) rfl ?_
                      refine go_tp (z := nI (a + 1 + m)) (g18) ?_
                      refine go_aload_n dX12_readStatement_166 rfl ?_
                      refine go_get dX12_readStatement_167 fl_X12_129_12 mo_obj hq (by omega) rfl ?_
                      refine go_tp (z := 1) (rfl) ?_
                      refine go_if_eq dX12_readStatement_170 (fun c170 => ?_) (fun c170 => ?_)
                      · have c170n := (n0_eq (a := 1) (by omega)).mp c170
                        first | exact absurd c170n (by decide) | exact absurd (by decide) c170n | exact absurd rfl c170n | omega
                      · have c170n := mt (n0_eq (a := 1) (by omega)).mpr c170
                        refine go_iconst (v := 0) dX12_readStatement_173 rfl ?_
                        refine go_goto dX12_readStatement_174 ?_
                        refine go_iadd dX12_readStatement_178 ?_
                        refine go_tp (z := nI ((a + 1 + m) + 0)) (nI_add (a + 1 + m) 0) ?_
                        refine go_put dX12_readStatement_179 fp_X12_123_12 (Or.inr (fun _ _ _ h => by cases h; rfl)) mo_obj hq (by omega) (rfl) rfl (Nat.le_of_ble_eq_true rfl) ?_
                        refine go_mem (mo_setO (F' := (upd (upd F1 19 (1)) 18 (nI ((a + 1 + m) + 0)))) (K' := K) rfl) ?_
                        refine go_aload_n dX12_readStatement_182 rfl ?_
                        refine go_dup dX12_readStatement_183 rfl ?_
                        refine go_get dX12_readStatement_184 fl_X12_141_12 mo_obj hq (by omega) rfl ?_
                        refine go_tp (z := nI k) ((hW.1 20 (by decide) (by decide)).trans h20) ?_
                        refine go_iconst (v := 1) dX12_readStatement_187 rfl ?_
                        refine go_iadd dX12_readStatement_188 ?_
                        refine go_tp (z := nI (k + 1)) (nI_add k 1) ?_
                        refine go_put dX12_readStatement_189 fp_X12_141_12 (Or.inr (fun _ _ _ h => by cases h; rfl)) mo_obj hq (by omega) (rfl) rfl (Nat.le_of_ble_eq_true rfl) ?_
                        refine go_mem (mo_setO (F' := (upd (upd (upd F1 19 (1)) 18 (nI ((a + 1 + m) + 0))) 20 (nI (k + 1)))) (K' := K) rfl) ?_
                        exact go_vret dX12_readStatement_192 rfl (Nat.le_of_ble_eq_true rfl) (Nat.le_of_ble_eq_true rfl) (hQ9 ▸ ⟨rfl, ⟨_, _, sdR_of hW (st_3 c39 hdg (by have := hb0 (Bool.eq_false_iff.mpr c141); omega) c150) rfl rfl (fun z => by cases z) rfl rfl rfl (fun j h1 h2 h3 => by simp [upd, h1, h2, h3]), rfl⟩, rfl⟩)
                · have c105n := mt (nI_leI (a := ndS (txC L d R a)) (b := i) (by omega) (by omega)).mpr c105
                  have c105n := Nat.lt_of_not_le c105n
                  have c105 := Int32.not_le.mp c105
                  refine go_aload_n dX12_readStatement_108 rfl ?_
                  refine go_get dX12_readStatement_109 fl_X12_129_12 mo_obj hq (by omega) rfl ?_
                  refine go_tp (z := if b then 1 else 0) (g19) ?_
                  refine go_if_ne dX12_readStatement_112 (fun c112 => ?_) (fun c112 => ?_)
                  · have c112 := bz_t c112
                    refine go_aload_n dX12_readStatement_136 rfl ?_
                    refine go_aload_n dX12_readStatement_137 rfl ?_
                    refine go_get dX12_readStatement_138 fl_X12_129_12 mo_obj hq (by omega) rfl ?_
                    refine go_tp (z := if b then 1 else 0) (g19) ?_
                    refine go_if_ne dX12_readStatement_141 (fun c141 => ?_) (fun c141 => ?_)
                    · have c141 := bz_t c141
                      refine go_iconst (v := 1) dX12_readStatement_153 rfl ?_
                      refine go_goto dX12_readStatement_154 ?_
                      refine go_put dX12_readStatement_158 fp_X12_129_12 (Or.inr (fun _ _ _ h => by cases h; rfl)) mo_obj hq (by omega) (rfl) rfl (Nat.le_of_ble_eq_true rfl) ?_
                      refine go_mem (mo_setO (F' := (upd F1 19 (1))) (K' := K) rfl) ?_
                      refine go_aload_n dX12_readStatement_161 rfl ?_
                      refine go_dup dX12_readStatement_162 rfl ?_
                      refine go_get dX12_readStatement_163 fl_X12_123_12 mo_obj hq (by omega) rfl ?_
                      refine go_tp (z := nI (a + 1 + m)) (g18) ?_
                      refine go_aload_n dX12_readStatement_166 rfl ?_
                      refine go_get dX12_readStatement_167 fl_X12_129_12 mo_obj hq (by omega) rfl ?_
                      refine go_tp (z := 1) (rfl) ?_
                      refine go_if_eq dX12_readStatement_170 (fun c170 => ?_) (fun c170 => ?_)
                      · have c170n := (n0_eq (a := 1) (by omega)).mp c170
                        first | exact absurd c170n (by decide) | exact absurd (by decide) c170n | exact absurd rfl c170n | omega
                      · have c170n := mt (n0_eq (a := 1) (by omega)).mpr c170
                        refine go_iconst (v := 0) dX12_readStatement_173 rfl ?_
                        refine go_goto dX12_readStatement_174 ?_
                        refine go_iadd dX12_readStatement_178 ?_
                        refine go_tp (z := nI ((a + 1 + m) + 0)) (nI_add (a + 1 + m) 0) ?_
                        refine go_put dX12_readStatement_179 fp_X12_123_12 (Or.inr (fun _ _ _ h => by cases h; rfl)) mo_obj hq (by omega) (rfl) rfl (Nat.le_of_ble_eq_true rfl) ?_
                        refine go_mem (mo_setO (F' := (upd (upd F1 19 (1)) 18 (nI ((a + 1 + m) + 0)))) (K' := K) rfl) ?_
                        refine go_aload_n dX12_readStatement_182 rfl ?_
                        refine go_dup dX12_readStatement_183 rfl ?_
                        refine go_get dX12_readStatement_184 fl_X12_141_12 mo_obj hq (by omega) rfl ?_
                        refine go_tp (z := nI k) ((hW.1 20 (by decide) (by decide)).trans h20) ?_
                        refine go_iconst (v := 1) dX12_readStatement_187 rfl ?_
                        refine go_iadd dX12_readStatement_188 ?_
                        refine go_tp (z := nI (k + 1)) (nI_add k 1) ?_
                        refine go_put dX12_readStatement_189 fp_X12_141_12 (Or.inr (fun _ _ _ h => by cases h; rfl)) mo_obj hq (by omega) (rfl) rfl (Nat.le_of_ble_eq_true rfl) ?_
                        refine go_mem (mo_setO (F' := (upd (upd (upd F1 19 (1)) 18 (nI ((a + 1 + m) + 0))) 20 (nI (k + 1)))) (K' := K) rfl) ?_
                        exact go_vret dX12_readStatement_192 rfl (Nat.le_of_ble_eq_true rfl) (Nat.le_of_ble_eq_true rfl) (hQ9 ▸ ⟨rfl, ⟨_, _, sdR_of hW (st_2 c39 hdg (hb1 c112).2.1 (hb1 c112).2.2) rfl rfl (fun z => by cases z) rfl rfl rfl (fun j h1 h2 h3 => by simp [upd, h1, h2, h3]), rfl⟩, rfl⟩)
                    · have c141 := bz_f c141
                      exact absurd c112 c141
                  · have c112 := bz_f c112
                    refine go_aload_n dX12_readStatement_115 rfl ?_
                    refine go_get dX12_readStatement_116 fl_X12_56_12 mo_obj hq (by omega) rfl ?_
                    refine go_iconst (v := 3) dX12_readStatement_119 rfl ?_
                    refine go_iload_n dX12_readStatement_120 rfl ?_
                    refine go_imul dX12_readStatement_121 ?_
                    refine go_tp (z := nI (3 * k)) (pk_mul 3 k) ?_
                    refine go_iload dX12_readStatement_122 rfl ?_
                    refine go_iadd dX12_readStatement_124 ?_
                    refine go_tp (z := nI ((3 * k) + i)) (nI_add (3 * k) i) ?_
                    refine go_aload_n dX12_readStatement_125 rfl ?_
                    refine go_V [] [.int (nI ((3 * k) + i)), .ref (q + 16)] dX12_readStatement_126 vl_X12_148 ⟨by decide, by decide⟩ (e_X12_readDigit (F := F1) (A := A1) (L := L) (K := K) hq hn (a := a + 1 + m) g18 ((hW.1 17 (by decide) (by decide)).trans h17) hd hR ((congrFun (hW.2.1 12 (by decide)) d).trans eR) (by omega) (by rw [g19, if_neg c112])) mo_obj hq (by omega) rfl rfl (Nat.le_of_ble_eq_true rfl) (Nat.le_of_ble_eq_true rfl) (Nat.le_of_ble_eq_true rfl) (fun r126 f126 n126 h126 => ?_)
                    obtain ⟨rfl, rfl, hn126⟩ := h126
                    subst n126
                    refine go_iast dX12_readStatement_129 (mo_arr 16 (by decide)) (by omega) (by omega) (vp_in_nI (n := (3 * k) + i) (by show (3 * k) + i < 153; omega) (by decide)) ?_
                    refine go_mem (mo_setA 16 (by decide) _ _) ?_
                    rw [nI_clamp (by omega)]
                    refine go_iinc (v := nI (i + 1)) (ls' := [some (.ref q), some (.int (nI k)), some (.int (txC L d R a)), some (.int (nI (ndS (txC L d R a)))), some (.int (nI (i + 1)))]) dX12_readStatement_130 rfl (nI_1 (i)) ⟨by decide, rfl, rfl⟩ ?_
                    refine go_goto dX12_readStatement_133 ?_
                    have him : m = i := hb0 (Bool.eq_false_iff.mpr c112)
                    by_cases hdg1 : dgS (txC L d R (a + 1 + m)) = true
                    · simp only [if_pos hdg1]
                      exact ih_lp0 (i + 1) (i + 1) false _ _ (by omega) (by omega) (by subst him; rfl) rfl (fun _ => rfl) (fun z => by cases z) (fun j hj => (Nat.lt_succ_iff_lt_or_eq.mp hj).elim (fun z => hdg j (by omega)) (fun z => by rw [z, ← him]; exact hdg1)) (stW_s hW him (fun j h1 h2 => by simp [upd, h1, h2]) (by rw [him]))
                    · simp only [if_neg hdg1]
                      exact ih_lp0 (i + 1) i true _ _ (by omega) (by omega) (by subst him; rfl) rfl (fun z => by cases z) (fun _ => ⟨by omega, by omega, by rw [← him]; exact Bool.eq_false_iff.mpr hdg1⟩) (fun j hj => hdg j (by omega)) (stW_b hW him (fun j h1 h2 => by simp [upd, h1, h2]))
            have hnd : ndS (txC L d R a) = 1 := by simp [ndS, c74, c84]
            refine go_ls (ls' := [some (.ref q), some (.int (nI k)), some (.int (txC L d R a)), some (.int (nI (ndS (txC L d R a)))), some (.int 0)]) (by rw [hnd]; rfl) ?_
            exact lp0 (ndS (txC L d R a) + 1) 0 0 false _ _ (Nat.zero_le _) (by omega) rfl rfl (fun _ => rfl) (fun z => by cases z) (fun j hj => absurd hj (by omega)) (stW_0 (fun j h1 h2 => by simp [upd, h1, h2]))
          · refine go_iload_n dX12_readStatement_87 rfl ?_
            refine go_bipush (v := 110) dX12_readStatement_88 rfl ?_
            refine go_icmp_ne dX12_readStatement_90 (fun c90 => ?_) (fun c90 => ?_)
            · refine go_iconst (v := 2) dX12_readStatement_97 rfl ?_
              refine go_istore_n (ls' := [some (.ref q), some (.int (nI k)), some (.int (txC L d R a)), some (.int 2), none]) dX12_readStatement_98 ⟨by decide, rfl, rfl⟩ ?_
              refine go_iconst (v := 0) dX12_readStatement_99 rfl ?_
              refine go_istore (ls' := [some (.ref q), some (.int (nI k)), some (.int (txC L d R a)), some (.int 2), some (.int 0)]) dX12_readStatement_100 ⟨by decide, rfl, rfl⟩ ?_
              have lp0 : ∀ (μ_lp0 : Nat) (i m : Nat) (b : Bool) (F1 : Nat → Int32) (A1 : Nat → Nat → Int32) (hi : i ≤ ndS (txC L d R a)) (hmi : ndS (txC L d R a) + 1 ≤ i + μ_lp0) (g18 : F1 18 = nI (a + 1 + m)) (g19 : F1 19 = if b = true then 1 else 0) (hb0 : b = false → m = i) (hb1 : b = true → m < i ∧ m < ndS (txC L d R a) ∧ dgS (txC L d R (a + 1 + m)) = false) (hdg : ∀ j, j < m → dgS (txC L d R (a + 1 + j)) = true) (hW : stW (txC L d R) a k m F A F1 A1), Go G mX12_readStatement 3 0 0 Q9 0 0 102 [some (.ref q), some (.int (nI k)), some (.int (txC L d R a)), some (.int (nI (ndS (txC L d R a)))), some (.int (nI i))] [] (mo G m0 q F1 A1 L K) n := by
                intro μ_lp0
                induction μ_lp0 with
                | zero =>
                  intro i m b F1 A1 hi hmi g18 g19 hb0 hb1 hdg hW
                  exact absurd hmi (by omega)
                | succ μ_lp0 ih_lp0 =>
                  intro i m b F1 A1 hi hmi g18 g19 hb0 hb1 hdg hW
                  have hmi2 : m ≤ i := by
                    rcases Bool.eq_false_or_eq_true b with z | z
                    · have := (hb1 z).1; omega
                    · have := hb0 z; omega
                  refine go_iload dX12_readStatement_102 rfl ?_
                  refine go_iload_n dX12_readStatement_104 rfl ?_
                  refine go_icmp_ge dX12_readStatement_105 (fun c105 => ?_) (fun c105 => ?_)
                  · have c105n := (nI_leI (a := ndS (txC L d R a)) (b := i) (by omega) (by omega)).mp c105
                    have c105n := Nat.not_lt.mpr c105n
                    have c105 := Int32.not_lt.mpr c105
                    refine go_aload_n dX12_readStatement_136 rfl ?_
                    refine go_aload_n dX12_readStatement_137 rfl ?_
                    refine go_get dX12_readStatement_138 fl_X12_129_12 mo_obj hq (by omega) rfl ?_
                    refine go_tp (z := if b then 1 else 0) (g19) ?_
                    refine go_if_ne dX12_readStatement_141 (fun c141 => ?_) (fun c141 => ?_)
                    · have c141 := bz_t c141
                      refine go_iconst (v := 1) dX12_readStatement_153 rfl ?_
                      refine go_goto dX12_readStatement_154 ?_
                      refine go_put dX12_readStatement_158 fp_X12_129_12 (Or.inr (fun _ _ _ h => by cases h; rfl)) mo_obj hq (by omega) (rfl) rfl (Nat.le_of_ble_eq_true rfl) ?_
                      refine go_mem (mo_setO (F' := (upd F1 19 (1))) (K' := K) rfl) ?_
                      refine go_aload_n dX12_readStatement_161 rfl ?_
                      refine go_dup dX12_readStatement_162 rfl ?_
                      refine go_get dX12_readStatement_163 fl_X12_123_12 mo_obj hq (by omega) rfl ?_
                      refine go_tp (z := nI (a + 1 + m)) (g18) ?_
                      refine go_aload_n dX12_readStatement_166 rfl ?_
                      refine go_get dX12_readStatement_167 fl_X12_129_12 mo_obj hq (by omega) rfl ?_
                      refine go_tp (z := 1) (rfl) ?_
                      refine go_if_eq dX12_readStatement_170 (fun c170 => ?_) (fun c170 => ?_)
                      · have c170n := (n0_eq (a := 1) (by omega)).mp c170
                        first | exact absurd c170n (by decide) | exact absurd (by decide) c170n | exact absurd rfl c170n | omega
                      · have c170n := mt (n0_eq (a := 1) (by omega)).mpr c170
                        refine go_iconst (v := 0) dX12_readStatement_173 rfl ?_
                        refine go_goto dX12_readStatement_174 ?_
                        refine go_iadd dX12_readStatement_178 ?_
                        refine go_tp (z := nI ((a + 1 + m) + 0)) (nI_add (a + 1 + m) 0) ?_
                        refine go_put dX12_readStatement_179 fp_X12_123_12 (Or.inr (fun _ _ _ h => by cases h; rfl)) mo_obj hq (by omega) (rfl) rfl (Nat.le_of_ble_eq_true rfl) ?_
                        refine go_mem (mo_setO (F' := (upd (upd F1 19 (1)) 18 (nI ((a + 1 + m) + 0)))) (K' := K) rfl) ?_
                        refine go_aload_n dX12_readStatement_182 rfl ?_
                        refine go_dup dX12_readStatement_183 rfl ?_
                        refine go_get dX12_readStatement_184 fl_X12_141_12 mo_obj hq (by omega) rfl ?_
                        refine go_tp (z := nI k) ((hW.1 20 (by decide) (by decide)).trans h20) ?_
                        refine go_iconst (v := 1) dX12_readStatement_187 rfl ?_
                        refine go_iadd dX12_readStatement_188 ?_
                        refine go_tp (z := nI (k + 1)) (nI_add k 1) ?_
                        refine go_put dX12_readStatement_189 fp_X12_141_12 (Or.inr (fun _ _ _ h => by cases h; rfl)) mo_obj hq (by omega) (rfl) rfl (Nat.le_of_ble_eq_true rfl) ?_
                        refine go_mem (mo_setO (F' := (upd (upd (upd F1 19 (1)) 18 (nI ((a + 1 + m) + 0))) 20 (nI (k + 1)))) (K' := K) rfl) ?_
                        exact go_vret dX12_readStatement_192 rfl (Nat.le_of_ble_eq_true rfl) (Nat.le_of_ble_eq_true rfl) (hQ9 ▸ ⟨rfl, ⟨_, _, sdR_of hW (st_2 c39 hdg (hb1 c141).2.1 (hb1 c141).2.2) rfl rfl (fun z => by cases z) rfl rfl rfl (fun j h1 h2 h3 => by simp [upd, h1, h2, h3]), rfl⟩, rfl⟩)
                    · have c141 := bz_f c141
                      refine go_aload_n dX12_readStatement_144 rfl ?_
                      refine go_Vr [] [.ref q] dX12_readStatement_145 vl_X12_133 ⟨by decide, by decide⟩ (e_X12_here (F := F1) (A := A1) (L := L) (K := K) hq hn (a := a + 1 + m) g18 ((hW.1 17 (by decide) (by decide)).trans h17) hd hR ((congrFun (hW.2.1 12 (by decide)) d).trans eR) (by omega)) mo_obj hq (by omega) rfl rfl (Nat.le_of_ble_eq_true rfl) (Nat.le_of_ble_eq_true rfl) (Nat.le_of_ble_eq_true rfl) ?_
                      refine go_bipush (v := 59) dX12_readStatement_148 rfl ?_
                      refine go_icmp_eq dX12_readStatement_150 (fun c150 => ?_) (fun c150 => ?_)
                      · refine go_iconst (v := 0) dX12_readStatement_157 rfl ?_
                        refine go_put dX12_readStatement_158 fp_X12_129_12 (Or.inr (fun _ _ _ h => by cases h; rfl)) mo_obj hq (by omega) (rfl) rfl (Nat.le_of_ble_eq_true rfl) ?_
                        refine go_mem (mo_setO (F' := (upd F1 19 (0))) (K' := K) rfl) ?_
                        refine go_aload_n dX12_readStatement_161 rfl ?_
                        refine go_dup dX12_readStatement_162 rfl ?_
                        refine go_get dX12_readStatement_163 fl_X12_123_12 mo_obj hq (by omega) rfl ?_
                        refine go_tp (z := nI (a + 1 + m)) (g18) ?_
                        refine go_aload_n dX12_readStatement_166 rfl ?_
                        refine go_get dX12_readStatement_167 fl_X12_129_12 mo_obj hq (by omega) rfl ?_
                        refine go_tp (z := 0) (rfl) ?_
                        refine go_if_eq dX12_readStatement_170 (fun c170 => ?_) (fun c170 => ?_)
                        · have c170n := (n0_eq (a := 0) (by omega)).mp c170
                          refine go_iconst (v := 1) dX12_readStatement_177 rfl ?_
                          refine go_iadd dX12_readStatement_178 ?_
                          refine go_tp (z := nI ((a + 1 + m) + 1)) (nI_add (a + 1 + m) 1) ?_
                          refine go_put dX12_readStatement_179 fp_X12_123_12 (Or.inr (fun _ _ _ h => by cases h; rfl)) mo_obj hq (by omega) (rfl) rfl (Nat.le_of_ble_eq_true rfl) ?_
                          refine go_mem (mo_setO (F' := (upd (upd F1 19 (0)) 18 (nI ((a + 1 + m) + 1)))) (K' := K) rfl) ?_
                          refine go_aload_n dX12_readStatement_182 rfl ?_
                          refine go_dup dX12_readStatement_183 rfl ?_
                          refine go_get dX12_readStatement_184 fl_X12_141_12 mo_obj hq (by omega) rfl ?_
                          refine go_tp (z := nI k) ((hW.1 20 (by decide) (by decide)).trans h20) ?_
                          refine go_iconst (v := 1) dX12_readStatement_187 rfl ?_
                          refine go_iadd dX12_readStatement_188 ?_
                          refine go_tp (z := nI (k + 1)) (nI_add k 1) ?_
                          refine go_put dX12_readStatement_189 fp_X12_141_12 (Or.inr (fun _ _ _ h => by cases h; rfl)) mo_obj hq (by omega) (rfl) rfl (Nat.le_of_ble_eq_true rfl) ?_
                          refine go_mem (mo_setO (F' := (upd (upd (upd F1 19 (0)) 18 (nI ((a + 1 + m) + 1))) 20 (nI (k + 1)))) (K' := K) rfl) ?_
                          exact go_vret dX12_readStatement_192 rfl (Nat.le_of_ble_eq_true rfl) (Nat.le_of_ble_eq_true rfl) (hQ9 ▸ ⟨rfl, ⟨_, _, sdR_of hW (st_4 c39 hdg (by have := hb0 (Bool.eq_false_iff.mpr c141); omega) c150) rfl rfl (fun _ => (by have := hb0 (Bool.eq_false_iff.mpr c141); omega)) rfl rfl rfl (fun j h1 h2 h3 => by simp [upd, h1, h2, h3]), rfl⟩, rfl⟩)
                        · have c170n := mt (n0_eq (a := 0) (by omega)).mpr c170
                          first | exact absurd c170n (by decide) | exact absurd (by decide) c170n | exact absurd rfl c170n | omega
                      · refine go_iconst (v := 1) dX12_readStatement_153 rfl ?_
                        refine go_goto dX12_readStatement_154 ?_
                        refine go_put dX12_readStatement_158 fp_X12_129_12 (Or.inr (fun _ _ _ h => by cases h; rfl)) mo_obj hq (by omega) (rfl) rfl (Nat.le_of_ble_eq_true rfl) ?_
                        refine go_mem (mo_setO (F' := (upd F1 19 (1))) (K' := K) rfl) ?_
                        refine go_aload_n dX12_readStatement_161 rfl ?_
                        refine go_dup dX12_readStatement_162 rfl ?_
                        refine go_get dX12_readStatement_163 fl_X12_123_12 mo_obj hq (by omega) rfl ?_
                        refine go_tp (z := nI (a + 1 + m)) (g18) ?_
                        refine go_aload_n dX12_readStatement_166 rfl ?_
                        refine go_get dX12_readStatement_167 fl_X12_129_12 mo_obj hq (by omega) rfl ?_
                        refine go_tp (z := 1) (rfl) ?_
                        refine go_if_eq dX12_readStatement_170 (fun c170 => ?_) (fun c170 => ?_)
                        · have c170n := (n0_eq (a := 1) (by omega)).mp c170
                          first | exact absurd c170n (by decide) | exact absurd (by decide) c170n | exact absurd rfl c170n | omega
                        · have c170n := mt (n0_eq (a := 1) (by omega)).mpr c170
                          refine go_iconst (v := 0) dX12_readStatement_173 rfl ?_
                          refine go_goto dX12_readStatement_174 ?_
                          refine go_iadd dX12_readStatement_178 ?_
                          refine go_tp (z := nI ((a + 1 + m) + 0)) (nI_add (a + 1 + m) 0) ?_
                          refine go_put dX12_readStatement_179 fp_X12_123_12 (Or.inr (fun _ _ _ h => by cases h; rfl)) mo_obj hq (by omega) (rfl) rfl (Nat.le_of_ble_eq_true rfl) ?_
                          refine go_mem (mo_setO (F' := (upd (upd F1 19 (1)) 18 (nI ((a + 1 + m) + 0)))) (K' := K) rfl) ?_
                          refine go_aload_n dX12_readStatement_182 rfl ?_
                          refine go_dup dX12_readStatement_183 rfl ?_
                          refine go_get dX12_readStatement_184 fl_X12_141_12 mo_obj hq (by omega) rfl ?_
                          refine go_tp (z := nI k) ((hW.1 20 (by decide) (by decide)).trans h20) ?_
                          refine go_iconst (v := 1) dX12_readStatement_187 rfl ?_
                          refine go_iadd dX12_readStatement_188 ?_
                          refine go_tp (z := nI (k + 1)) (nI_add k 1) ?_
                          refine go_put dX12_readStatement_189 fp_X12_141_12 (Or.inr (fun _ _ _ h => by cases h; rfl)) mo_obj hq (by omega) (rfl) rfl (Nat.le_of_ble_eq_true rfl) ?_
                          refine go_mem (mo_setO (F' := (upd (upd (upd F1 19 (1)) 18 (nI ((a + 1 + m) + 0))) 20 (nI (k + 1)))) (K' := K) rfl) ?_
                          exact go_vret dX12_readStatement_192 rfl (Nat.le_of_ble_eq_true rfl) (Nat.le_of_ble_eq_true rfl) (hQ9 ▸ ⟨rfl, ⟨_, _, sdR_of hW (st_3 c39 hdg (by have := hb0 (Bool.eq_false_iff.mpr c141); omega) c150) rfl rfl (fun z => by cases z) rfl rfl rfl (fun j h1 h2 h3 => by simp [upd, h1, h2, h3]), rfl⟩, rfl⟩)
                  · have c105n := mt (nI_leI (a := ndS (txC L d R a)) (b := i) (by omega) (by omega)).mpr c105
                    have c105n := Nat.lt_of_not_le c105n
                    have c105 := Int32.not_le.mp c105
                    refine go_aload_n dX12_readStatement_108 rfl ?_
                    refine go_get dX12_readStatement_109 fl_X12_129_12 mo_obj hq (by omega) rfl ?_
                    refine go_tp (z := if b then 1 else 0) (g19) ?_
                    refine go_if_ne dX12_readStatement_112 (fun c112 => ?_) (fun c112 => ?_)
                    · have c112 := bz_t c112
                      refine go_aload_n dX12_readStatement_136 rfl ?_
                      refine go_aload_n dX12_readStatement_137 rfl ?_
                      refine go_get dX12_readStatement_138 fl_X12_129_12 mo_obj hq (by omega) rfl ?_
                      refine go_tp (z := if b then 1 else 0) (g19) ?_
                      refine go_if_ne dX12_readStatement_141 (fun c141 => ?_) (fun c141 => ?_)
                      · have c141 := bz_t c141
                        refine go_iconst (v := 1) dX12_readStatement_153 rfl ?_
                        refine go_goto dX12_readStatement_154 ?_
                        refine go_put dX12_readStatement_158 fp_X12_129_12 (Or.inr (fun _ _ _ h => by cases h; rfl)) mo_obj hq (by omega) (rfl) rfl (Nat.le_of_ble_eq_true rfl) ?_
                        refine go_mem (mo_setO (F' := (upd F1 19 (1))) (K' := K) rfl) ?_
                        refine go_aload_n dX12_readStatement_161 rfl ?_
                        refine go_dup dX12_readStatement_162 rfl ?_
                        refine go_get dX12_readStatement_163 fl_X12_123_12 mo_obj hq (by omega) rfl ?_
                        refine go_tp (z := nI (a + 1 + m)) (g18) ?_
                        refine go_aload_n dX12_readStatement_166 rfl ?_
                        refine go_get dX12_readStatement_167 fl_X12_129_12 mo_obj hq (by omega) rfl ?_
                        refine go_tp (z := 1) (rfl) ?_
                        refine go_if_eq dX12_readStatement_170 (fun c170 => ?_) (fun c170 => ?_)
                        · have c170n := (n0_eq (a := 1) (by omega)).mp c170
                          first | exact absurd c170n (by decide) | exact absurd (by decide) c170n | exact absurd rfl c170n | omega
                        · have c170n := mt (n0_eq (a := 1) (by omega)).mpr c170
                          refine go_iconst (v := 0) dX12_readStatement_173 rfl ?_
                          refine go_goto dX12_readStatement_174 ?_
                          refine go_iadd dX12_readStatement_178 ?_
                          refine go_tp (z := nI ((a + 1 + m) + 0)) (nI_add (a + 1 + m) 0) ?_
                          refine go_put dX12_readStatement_179 fp_X12_123_12 (Or.inr (fun _ _ _ h => by cases h; rfl)) mo_obj hq (by omega) (rfl) rfl (Nat.le_of_ble_eq_true rfl) ?_
                          refine go_mem (mo_setO (F' := (upd (upd F1 19 (1)) 18 (nI ((a + 1 + m) + 0)))) (K' := K) rfl) ?_
                          refine go_aload_n dX12_readStatement_182 rfl ?_
                          refine go_dup dX12_readStatement_183 rfl ?_
                          refine go_get dX12_readStatement_184 fl_X12_141_12 mo_obj hq (by omega) rfl ?_
                          refine go_tp (z := nI k) ((hW.1 20 (by decide) (by decide)).trans h20) ?_
                          refine go_iconst (v := 1) dX12_readStatement_187 rfl ?_
                          refine go_iadd dX12_readStatement_188 ?_
                          refine go_tp (z := nI (k + 1)) (nI_add k 1) ?_
                          refine go_put dX12_readStatement_189 fp_X12_141_12 (Or.inr (fun _ _ _ h => by cases h; rfl)) mo_obj hq (by omega) (rfl) rfl (Nat.le_of_ble_eq_true rfl) ?_
                          refine go_mem (mo_setO (F' := (upd (upd (upd F1 19 (1)) 18 (nI ((a + 1 + m) + 0))) 20 (nI (k + 1)))) (K' := K) rfl) ?_
                          exact go_vret dX12_readStatement_192 rfl (Nat.le_of_ble_eq_true rfl) (Nat.le_of_ble_eq_true rfl) (hQ9 ▸ ⟨rfl, ⟨_, _, sdR_of hW (st_2 c39 hdg (hb1 c112).2.1 (hb1 c112).2.2) rfl rfl (fun z => by cases z) rfl rfl rfl (fun j h1 h2 h3 => by simp [upd, h1, h2, h3]), rfl⟩, rfl⟩)
                      · have c141 := bz_f c141
                        exact absurd c112 c141
                    · have c112 := bz_f c112
                      refine go_aload_n dX12_readStatement_115 rfl ?_
                      refine go_get dX12_readStatement_116 fl_X12_56_12 mo_obj hq (by omega) rfl ?_
                      refine go_iconst (v := 3) dX12_readStatement_119 rfl ?_
                      refine go_iload_n dX12_readStatement_120 rfl ?_
                      refine go_imul dX12_readStatement_121 ?_
                      refine go_tp (z := nI (3 * k)) (pk_mul 3 k) ?_
                      refine go_iload dX12_readStatement_122 rfl ?_
                      refine go_iadd dX12_readStatement_124 ?_
                      refine go_tp (z := nI ((3 * k) + i)) (nI_add (3 * k) i) ?_
                      refine go_aload_n dX12_readStatement_125 rfl ?_
                      refine go_V [] [.int (nI ((3 * k) + i)), .ref (q + 16)] dX12_readStatement_126 vl_X12_148 ⟨by decide, by decide⟩ (e_X12_readDigit (F := F1) (A := A1) (L := L) (K := K) hq hn (a := a + 1 + m) g18 ((hW.1 17 (by decide) (by decide)).trans h17) hd hR ((congrFun (hW.2.1 12 (by decide)) d).trans eR) (by omega) (by rw [g19, if_neg c112])) mo_obj hq (by omega) rfl rfl (Nat.le_of_ble_eq_true rfl) (Nat.le_of_ble_eq_true rfl) (Nat.le_of_ble_eq_true rfl) (fun r126 f126 n126 h126 => ?_)
                      obtain ⟨rfl, rfl, hn126⟩ := h126
                      subst n126
                      refine go_iast dX12_readStatement_129 (mo_arr 16 (by decide)) (by omega) (by omega) (vp_in_nI (n := (3 * k) + i) (by show (3 * k) + i < 153; omega) (by decide)) ?_
                      refine go_mem (mo_setA 16 (by decide) _ _) ?_
                      rw [nI_clamp (by omega)]
                      refine go_iinc (v := nI (i + 1)) (ls' := [some (.ref q), some (.int (nI k)), some (.int (txC L d R a)), some (.int (nI (ndS (txC L d R a)))), some (.int (nI (i + 1)))]) dX12_readStatement_130 rfl (nI_1 (i)) ⟨by decide, rfl, rfl⟩ ?_
                      refine go_goto dX12_readStatement_133 ?_
                      have him : m = i := hb0 (Bool.eq_false_iff.mpr c112)
                      by_cases hdg1 : dgS (txC L d R (a + 1 + m)) = true
                      · simp only [if_pos hdg1]
                        exact ih_lp0 (i + 1) (i + 1) false _ _ (by omega) (by omega) (by subst him; rfl) rfl (fun _ => rfl) (fun z => by cases z) (fun j hj => (Nat.lt_succ_iff_lt_or_eq.mp hj).elim (fun z => hdg j (by omega)) (fun z => by rw [z, ← him]; exact hdg1)) (stW_s hW him (fun j h1 h2 => by simp [upd, h1, h2]) (by rw [him]))
                      · simp only [if_neg hdg1]
                        exact ih_lp0 (i + 1) i true _ _ (by omega) (by omega) (by subst him; rfl) rfl (fun z => by cases z) (fun _ => ⟨by omega, by omega, by rw [← him]; exact Bool.eq_false_iff.mpr hdg1⟩) (fun j hj => hdg j (by omega)) (stW_b hW him (fun j h1 h2 => by simp [upd, h1, h2]))
              have hnd : ndS (txC L d R a) = 2 := by simp [ndS, c74, c84, c90]
              refine go_ls (ls' := [some (.ref q), some (.int (nI k)), some (.int (txC L d R a)), some (.int (nI (ndS (txC L d R a)))), some (.int 0)]) (by rw [hnd]; rfl) ?_
              exact lp0 (ndS (txC L d R a) + 1) 0 0 false _ _ (Nat.zero_le _) (by omega) rfl rfl (fun _ => rfl) (fun z => by cases z) (fun j hj => absurd hj (by omega)) (stW_0 (fun j h1 h2 => by simp [upd, h1, h2]))
            · refine go_iconst (v := 1) dX12_readStatement_93 rfl ?_
              refine go_goto dX12_readStatement_94 ?_
              refine go_istore_n (ls' := [some (.ref q), some (.int (nI k)), some (.int (txC L d R a)), some (.int 1), none]) dX12_readStatement_98 ⟨by decide, rfl, rfl⟩ ?_
              refine go_iconst (v := 0) dX12_readStatement_99 rfl ?_
              refine go_istore (ls' := [some (.ref q), some (.int (nI k)), some (.int (txC L d R a)), some (.int 1), some (.int 0)]) dX12_readStatement_100 ⟨by decide, rfl, rfl⟩ ?_
              have lp0 : ∀ (μ_lp0 : Nat) (i m : Nat) (b : Bool) (F1 : Nat → Int32) (A1 : Nat → Nat → Int32) (hi : i ≤ ndS (txC L d R a)) (hmi : ndS (txC L d R a) + 1 ≤ i + μ_lp0) (g18 : F1 18 = nI (a + 1 + m)) (g19 : F1 19 = if b = true then 1 else 0) (hb0 : b = false → m = i) (hb1 : b = true → m < i ∧ m < ndS (txC L d R a) ∧ dgS (txC L d R (a + 1 + m)) = false) (hdg : ∀ j, j < m → dgS (txC L d R (a + 1 + j)) = true) (hW : stW (txC L d R) a k m F A F1 A1), Go G mX12_readStatement 3 0 0 Q9 0 0 102 [some (.ref q), some (.int (nI k)), some (.int (txC L d R a)), some (.int (nI (ndS (txC L d R a)))), some (.int (nI i))] [] (mo G m0 q F1 A1 L K) n := by
                intro μ_lp0
                induction μ_lp0 with
                | zero =>
                  intro i m b F1 A1 hi hmi g18 g19 hb0 hb1 hdg hW
                  exact absurd hmi (by omega)
                | succ μ_lp0 ih_lp0 =>
                  intro i m b F1 A1 hi hmi g18 g19 hb0 hb1 hdg hW
                  have hmi2 : m ≤ i := by
                    rcases Bool.eq_false_or_eq_true b with z | z
                    · have := (hb1 z).1; omega
                    · have := hb0 z; omega
                  refine go_iload dX12_readStatement_102 rfl ?_
                  refine go_iload_n dX12_readStatement_104 rfl ?_
                  refine go_icmp_ge dX12_readStatement_105 (fun c105 => ?_) (fun c105 => ?_)
                  · have c105n := (nI_leI (a := ndS (txC L d R a)) (b := i) (by omega) (by omega)).mp c105
                    have c105n := Nat.not_lt.mpr c105n
                    have c105 := Int32.not_lt.mpr c105
                    refine go_aload_n dX12_readStatement_136 rfl ?_
                    refine go_aload_n dX12_readStatement_137 rfl ?_
                    refine go_get dX12_readStatement_138 fl_X12_129_12 mo_obj hq (by omega) rfl ?_
                    refine go_tp (z := if b then 1 else 0) (g19) ?_
                    refine go_if_ne dX12_readStatement_141 (fun c141 => ?_) (fun c141 => ?_)
                    · have c141 := bz_t c141
                      refine go_iconst (v := 1) dX12_readStatement_153 rfl ?_
                      refine go_goto dX12_readStatement_154 ?_
                      refine go_put dX12_readStatement_158 fp_X12_129_12 (Or.inr (fun _ _ _ h => by cases h; rfl)) mo_obj hq (by omega) (rfl) rfl (Nat.le_of_ble_eq_true rfl) ?_
                      refine go_mem (mo_setO (F' := (upd F1 19 (1))) (K' := K) rfl) ?_
                      refine go_aload_n dX12_readStatement_161 rfl ?_
                      refine go_dup dX12_readStatement_162 rfl ?_
                      refine go_get dX12_readStatement_163 fl_X12_123_12 mo_obj hq (by omega) rfl ?_
                      refine go_tp (z := nI (a + 1 + m)) (g18) ?_
                      refine go_aload_n dX12_readStatement_166 rfl ?_
                      refine go_get dX12_readStatement_167 fl_X12_129_12 mo_obj hq (by omega) rfl ?_
                      refine go_tp (z := 1) (rfl) ?_
                      refine go_if_eq dX12_readStatement_170 (fun c170 => ?_) (fun c170 => ?_)
                      · have c170n := (n0_eq (a := 1) (by omega)).mp c170
                        first | exact absurd c170n (by decide) | exact absurd (by decide) c170n | exact absurd rfl c170n | omega
                      · have c170n := mt (n0_eq (a := 1) (by omega)).mpr c170
                        refine go_iconst (v := 0) dX12_readStatement_173 rfl ?_
                        refine go_goto dX12_readStatement_174 ?_
                        refine go_iadd dX12_readStatement_178 ?_
                        refine go_tp (z := nI ((a + 1 + m) + 0)) (nI_add (a + 1 + m) 0) ?_
                        refine go_put dX12_readStatement_179 fp_X12_123_12 (Or.inr (fun _ _ _ h => by cases h; rfl)) mo_obj hq (by omega) (rfl) rfl (Nat.le_of_ble_eq_true rfl) ?_
                        refine go_mem (mo_setO (F' := (upd (upd F1 19 (1)) 18 (nI ((a + 1 + m) + 0)))) (K' := K) rfl) ?_
                        refine go_aload_n dX12_readStatement_182 rfl ?_
                        refine go_dup dX12_readStatement_183 rfl ?_
                        refine go_get dX12_readStatement_184 fl_X12_141_12 mo_obj hq (by omega) rfl ?_
                        refine go_tp (z := nI k) ((hW.1 20 (by decide) (by decide)).trans h20) ?_
                        refine go_iconst (v := 1) dX12_readStatement_187 rfl ?_
                        refine go_iadd dX12_readStatement_188 ?_
                        refine go_tp (z := nI (k + 1)) (nI_add k 1) ?_
                        refine go_put dX12_readStatement_189 fp_X12_141_12 (Or.inr (fun _ _ _ h => by cases h; rfl)) mo_obj hq (by omega) (rfl) rfl (Nat.le_of_ble_eq_true rfl) ?_
                        refine go_mem (mo_setO (F' := (upd (upd (upd F1 19 (1)) 18 (nI ((a + 1 + m) + 0))) 20 (nI (k + 1)))) (K' := K) rfl) ?_
                        exact go_vret dX12_readStatement_192 rfl (Nat.le_of_ble_eq_true rfl) (Nat.le_of_ble_eq_true rfl) (hQ9 ▸ ⟨rfl, ⟨_, _, sdR_of hW (st_2 c39 hdg (hb1 c141).2.1 (hb1 c141).2.2) rfl rfl (fun z => by cases z) rfl rfl rfl (fun j h1 h2 h3 => by simp [upd, h1, h2, h3]), rfl⟩, rfl⟩)
                    · have c141 := bz_f c141
                      refine go_aload_n dX12_readStatement_144 rfl ?_
                      refine go_Vr [] [.ref q] dX12_readStatement_145 vl_X12_133 ⟨by decide, by decide⟩ (e_X12_here (F := F1) (A := A1) (L := L) (K := K) hq hn (a := a + 1 + m) g18 ((hW.1 17 (by decide) (by decide)).trans h17) hd hR ((congrFun (hW.2.1 12 (by decide)) d).trans eR) (by omega)) mo_obj hq (by omega) rfl rfl (Nat.le_of_ble_eq_true rfl) (Nat.le_of_ble_eq_true rfl) (Nat.le_of_ble_eq_true rfl) ?_
                      refine go_bipush (v := 59) dX12_readStatement_148 rfl ?_
                      refine go_icmp_eq dX12_readStatement_150 (fun c150 => ?_) (fun c150 => ?_)
                      · refine go_iconst (v := 0) dX12_readStatement_157 rfl ?_
                        refine go_put dX12_readStatement_158 fp_X12_129_12 (Or.inr (fun _ _ _ h => by cases h; rfl)) mo_obj hq (by omega) (rfl) rfl (Nat.le_of_ble_eq_true rfl) ?_
                        refine go_mem (mo_setO (F' := (upd F1 19 (0))) (K' := K) rfl) ?_
                        refine go_aload_n dX12_readStatement_161 rfl ?_
                        refine go_dup dX12_readStatement_162 rfl ?_
                        refine go_get dX12_readStatement_163 fl_X12_123_12 mo_obj hq (by omega) rfl ?_
                        refine go_tp (z := nI (a + 1 + m)) (g18) ?_
                        refine go_aload_n dX12_readStatement_166 rfl ?_
                        refine go_get dX12_readStatement_167 fl_X12_129_12 mo_obj hq (by omega) rfl ?_
                        refine go_tp (z := 0) (rfl) ?_
                        refine go_if_eq dX12_readStatement_170 (fun c170 => ?_) (fun c170 => ?_)
                        · have c170n := (n0_eq (a := 0) (by omega)).mp c170
                          refine go_iconst (v := 1) dX12_readStatement_177 rfl ?_
                          refine go_iadd dX12_readStatement_178 ?_
                          refine go_tp (z := nI ((a + 1 + m) + 1)) (nI_add (a + 1 + m) 1) ?_
                          refine go_put dX12_readStatement_179 fp_X12_123_12 (Or.inr (fun _ _ _ h => by cases h; rfl)) mo_obj hq (by omega) (rfl) rfl (Nat.le_of_ble_eq_true rfl) ?_
                          refine go_mem (mo_setO (F' := (upd (upd F1 19 (0)) 18 (nI ((a + 1 + m) + 1)))) (K' := K) rfl) ?_
                          refine go_aload_n dX12_readStatement_182 rfl ?_
                          refine go_dup dX12_readStatement_183 rfl ?_
                          refine go_get dX12_readStatement_184 fl_X12_141_12 mo_obj hq (by omega) rfl ?_
                          refine go_tp (z := nI k) ((hW.1 20 (by decide) (by decide)).trans h20) ?_
                          refine go_iconst (v := 1) dX12_readStatement_187 rfl ?_
                          refine go_iadd dX12_readStatement_188 ?_
                          refine go_tp (z := nI (k + 1)) (nI_add k 1) ?_
                          refine go_put dX12_readStatement_189 fp_X12_141_12 (Or.inr (fun _ _ _ h => by cases h; rfl)) mo_obj hq (by omega) (rfl) rfl (Nat.le_of_ble_eq_true rfl) ?_
                          refine go_mem (mo_setO (F' := (upd (upd (upd F1 19 (0)) 18 (nI ((a + 1 + m) + 1))) 20 (nI (k + 1)))) (K' := K) rfl) ?_
                          exact go_vret dX12_readStatement_192 rfl (Nat.le_of_ble_eq_true rfl) (Nat.le_of_ble_eq_true rfl) (hQ9 ▸ ⟨rfl, ⟨_, _, sdR_of hW (st_4 c39 hdg (by have := hb0 (Bool.eq_false_iff.mpr c141); omega) c150) rfl rfl (fun _ => (by have := hb0 (Bool.eq_false_iff.mpr c141); omega)) rfl rfl rfl (fun j h1 h2 h3 => by simp [upd, h1, h2, h3]), rfl⟩, rfl⟩)
                        · have c170n := mt (n0_eq (a := 0) (by omega)).mpr c170
                          first | exact absurd c170n (by decide) | exact absurd (by decide) c170n | exact absurd rfl c170n | omega
                      · refine go_iconst (v := 1) dX12_readStatement_153 rfl ?_
                        refine go_goto dX12_readStatement_154 ?_
                        refine go_put dX12_readStatement_158 fp_X12_129_12 (Or.inr (fun _ _ _ h => by cases h; rfl)) mo_obj hq (by omega) (rfl) rfl (Nat.le_of_ble_eq_true rfl) ?_
                        refine go_mem (mo_setO (F' := (upd F1 19 (1))) (K' := K) rfl) ?_
                        refine go_aload_n dX12_readStatement_161 rfl ?_
                        refine go_dup dX12_readStatement_162 rfl ?_
                        refine go_get dX12_readStatement_163 fl_X12_123_12 mo_obj hq (by omega) rfl ?_
                        refine go_tp (z := nI (a + 1 + m)) (g18) ?_
                        refine go_aload_n dX12_readStatement_166 rfl ?_
                        refine go_get dX12_readStatement_167 fl_X12_129_12 mo_obj hq (by omega) rfl ?_
                        refine go_tp (z := 1) (rfl) ?_
                        refine go_if_eq dX12_readStatement_170 (fun c170 => ?_) (fun c170 => ?_)
                        · have c170n := (n0_eq (a := 1) (by omega)).mp c170
                          first | exact absurd c170n (by decide) | exact absurd (by decide) c170n | exact absurd rfl c170n | omega
                        · have c170n := mt (n0_eq (a := 1) (by omega)).mpr c170
                          refine go_iconst (v := 0) dX12_readStatement_173 rfl ?_
                          refine go_goto dX12_readStatement_174 ?_
                          refine go_iadd dX12_readStatement_178 ?_
                          refine go_tp (z := nI ((a + 1 + m) + 0)) (nI_add (a + 1 + m) 0) ?_
                          refine go_put dX12_readStatement_179 fp_X12_123_12 (Or.inr (fun _ _ _ h => by cases h; rfl)) mo_obj hq (by omega) (rfl) rfl (Nat.le_of_ble_eq_true rfl) ?_
                          refine go_mem (mo_setO (F' := (upd (upd F1 19 (1)) 18 (nI ((a + 1 + m) + 0)))) (K' := K) rfl) ?_
                          refine go_aload_n dX12_readStatement_182 rfl ?_
                          refine go_dup dX12_readStatement_183 rfl ?_
                          refine go_get dX12_readStatement_184 fl_X12_141_12 mo_obj hq (by omega) rfl ?_
                          refine go_tp (z := nI k) ((hW.1 20 (by decide) (by decide)).trans h20) ?_
                          refine go_iconst (v := 1) dX12_readStatement_187 rfl ?_
                          refine go_iadd dX12_readStatement_188 ?_
                          refine go_tp (z := nI (k + 1)) (nI_add k 1) ?_
                          refine go_put dX12_readStatement_189 fp_X12_141_12 (Or.inr (fun _ _ _ h => by cases h; rfl)) mo_obj hq (by omega) (rfl) rfl (Nat.le_of_ble_eq_true rfl) ?_
                          refine go_mem (mo_setO (F' := (upd (upd (upd F1 19 (1)) 18 (nI ((a + 1 + m) + 0))) 20 (nI (k + 1)))) (K' := K) rfl) ?_
                          exact go_vret dX12_readStatement_192 rfl (Nat.le_of_ble_eq_true rfl) (Nat.le_of_ble_eq_true rfl) (hQ9 ▸ ⟨rfl, ⟨_, _, sdR_of hW (st_3 c39 hdg (by have := hb0 (Bool.eq_false_iff.mpr c141); omega) c150) rfl rfl (fun z => by cases z) rfl rfl rfl (fun j h1 h2 h3 => by simp [upd, h1, h2, h3]), rfl⟩, rfl⟩)
                  · have c105n := mt (nI_leI (a := ndS (txC L d R a)) (b := i) (by omega) (by omega)).mpr c105
                    have c105n := Nat.lt_of_not_le c105n
                    have c105 := Int32.not_le.mp c105
                    refine go_aload_n dX12_readStatement_108 rfl ?_
                    refine go_get dX12_readStatement_109 fl_X12_129_12 mo_obj hq (by omega) rfl ?_
                    refine go_tp (z := if b then 1 else 0) (g19) ?_
                    refine go_if_ne dX12_readStatement_112 (fun c112 => ?_) (fun c112 => ?_)
                    · have c112 := bz_t c112
                      refine go_aload_n dX12_readStatement_136 rfl ?_
                      refine go_aload_n dX12_readStatement_137 rfl ?_
                      refine go_get dX12_readStatement_138 fl_X12_129_12 mo_obj hq (by omega) rfl ?_
                      refine go_tp (z := if b then 1 else 0) (g19) ?_
                      refine go_if_ne dX12_readStatement_141 (fun c141 => ?_) (fun c141 => ?_)
                      · have c141 := bz_t c141
                        refine go_iconst (v := 1) dX12_readStatement_153 rfl ?_
                        refine go_goto dX12_readStatement_154 ?_
                        refine go_put dX12_readStatement_158 fp_X12_129_12 (Or.inr (fun _ _ _ h => by cases h; rfl)) mo_obj hq (by omega) (rfl) rfl (Nat.le_of_ble_eq_true rfl) ?_
                        refine go_mem (mo_setO (F' := (upd F1 19 (1))) (K' := K) rfl) ?_
                        refine go_aload_n dX12_readStatement_161 rfl ?_
                        refine go_dup dX12_readStatement_162 rfl ?_
                        refine go_get dX12_readStatement_163 fl_X12_123_12 mo_obj hq (by omega) rfl ?_
                        refine go_tp (z := nI (a + 1 + m)) (g18) ?_
                        refine go_aload_n dX12_readStatement_166 rfl ?_
                        refine go_get dX12_readStatement_167 fl_X12_129_12 mo_obj hq (by omega) rfl ?_
                        refine go_tp (z := 1) (rfl) ?_
                        refine go_if_eq dX12_readStatement_170 (fun c170 => ?_) (fun c170 => ?_)
                        · have c170n := (n0_eq (a := 1) (by omega)).mp c170
                          first | exact absurd c170n (by decide) | exact absurd (by decide) c170n | exact absurd rfl c170n | omega
                        · have c170n := mt (n0_eq (a := 1) (by omega)).mpr c170
                          refine go_iconst (v := 0) dX12_readStatement_173 rfl ?_
                          refine go_goto dX12_readStatement_174 ?_
                          refine go_iadd dX12_readStatement_178 ?_
                          refine go_tp (z := nI ((a + 1 + m) + 0)) (nI_add (a + 1 + m) 0) ?_
                          refine go_put dX12_readStatement_179 fp_X12_123_12 (Or.inr (fun _ _ _ h => by cases h; rfl)) mo_obj hq (by omega) (rfl) rfl (Nat.le_of_ble_eq_true rfl) ?_
                          refine go_mem (mo_setO (F' := (upd (upd F1 19 (1)) 18 (nI ((a + 1 + m) + 0)))) (K' := K) rfl) ?_
                          refine go_aload_n dX12_readStatement_182 rfl ?_
                          refine go_dup dX12_readStatement_183 rfl ?_
                          refine go_get dX12_readStatement_184 fl_X12_141_12 mo_obj hq (by omega) rfl ?_
                          refine go_tp (z := nI k) ((hW.1 20 (by decide) (by decide)).trans h20) ?_
                          refine go_iconst (v := 1) dX12_readStatement_187 rfl ?_
                          refine go_iadd dX12_readStatement_188 ?_
                          refine go_tp (z := nI (k + 1)) (nI_add k 1) ?_
                          refine go_put dX12_readStatement_189 fp_X12_141_12 (Or.inr (fun _ _ _ h => by cases h; rfl)) mo_obj hq (by omega) (rfl) rfl (Nat.le_of_ble_eq_true rfl) ?_
                          refine go_mem (mo_setO (F' := (upd (upd (upd F1 19 (1)) 18 (nI ((a + 1 + m) + 0))) 20 (nI (k + 1)))) (K' := K) rfl) ?_
                          exact go_vret dX12_readStatement_192 rfl (Nat.le_of_ble_eq_true rfl) (Nat.le_of_ble_eq_true rfl) (hQ9 ▸ ⟨rfl, ⟨_, _, sdR_of hW (st_2 c39 hdg (hb1 c112).2.1 (hb1 c112).2.2) rfl rfl (fun z => by cases z) rfl rfl rfl (fun j h1 h2 h3 => by simp [upd, h1, h2, h3]), rfl⟩, rfl⟩)
                      · have c141 := bz_f c141
                        exact absurd c112 c141
                    · have c112 := bz_f c112
                      refine go_aload_n dX12_readStatement_115 rfl ?_
                      refine go_get dX12_readStatement_116 fl_X12_56_12 mo_obj hq (by omega) rfl ?_
                      refine go_iconst (v := 3) dX12_readStatement_119 rfl ?_
                      refine go_iload_n dX12_readStatement_120 rfl ?_
                      refine go_imul dX12_readStatement_121 ?_
                      refine go_tp (z := nI (3 * k)) (pk_mul 3 k) ?_
                      refine go_iload dX12_readStatement_122 rfl ?_
                      refine go_iadd dX12_readStatement_124 ?_
                      refine go_tp (z := nI ((3 * k) + i)) (nI_add (3 * k) i) ?_
                      refine go_aload_n dX12_readStatement_125 rfl ?_
                      refine go_V [] [.int (nI ((3 * k) + i)), .ref (q + 16)] dX12_readStatement_126 vl_X12_148 ⟨by decide, by decide⟩ (e_X12_readDigit (F := F1) (A := A1) (L := L) (K := K) hq hn (a := a + 1 + m) g18 ((hW.1 17 (by decide) (by decide)).trans h17) hd hR ((congrFun (hW.2.1 12 (by decide)) d).trans eR) (by omega) (by rw [g19, if_neg c112])) mo_obj hq (by omega) rfl rfl (Nat.le_of_ble_eq_true rfl) (Nat.le_of_ble_eq_true rfl) (Nat.le_of_ble_eq_true rfl) (fun r126 f126 n126 h126 => ?_)
                      obtain ⟨rfl, rfl, hn126⟩ := h126
                      subst n126
                      refine go_iast dX12_readStatement_129 (mo_arr 16 (by decide)) (by omega) (by omega) (vp_in_nI (n := (3 * k) + i) (by show (3 * k) + i < 153; omega) (by decide)) ?_
                      refine go_mem (mo_setA 16 (by decide) _ _) ?_
                      rw [nI_clamp (by omega)]
                      refine go_iinc (v := nI (i + 1)) (ls' := [some (.ref q), some (.int (nI k)), some (.int (txC L d R a)), some (.int (nI (ndS (txC L d R a)))), some (.int (nI (i + 1)))]) dX12_readStatement_130 rfl (nI_1 (i)) ⟨by decide, rfl, rfl⟩ ?_
                      refine go_goto dX12_readStatement_133 ?_
                      have him : m = i := hb0 (Bool.eq_false_iff.mpr c112)
                      by_cases hdg1 : dgS (txC L d R (a + 1 + m)) = true
                      · simp only [if_pos hdg1]
                        exact ih_lp0 (i + 1) (i + 1) false _ _ (by omega) (by omega) (by subst him; rfl) rfl (fun _ => rfl) (fun z => by cases z) (fun j hj => (Nat.lt_succ_iff_lt_or_eq.mp hj).elim (fun z => hdg j (by omega)) (fun z => by rw [z, ← him]; exact hdg1)) (stW_s hW him (fun j h1 h2 => by simp [upd, h1, h2]) (by rw [him]))
                      · simp only [if_neg hdg1]
                        exact ih_lp0 (i + 1) i true _ _ (by omega) (by omega) (by subst him; rfl) rfl (fun z => by cases z) (fun _ => ⟨by omega, by omega, by rw [← him]; exact Bool.eq_false_iff.mpr hdg1⟩) (fun j hj => hdg j (by omega)) (stW_b hW him (fun j h1 h2 => by simp [upd, h1, h2]))
              have hnd : ndS (txC L d R a) = 1 := by simp [ndS, c74, c84, c90]
              refine go_ls (ls' := [some (.ref q), some (.int (nI k)), some (.int (txC L d R a)), some (.int (nI (ndS (txC L d R a)))), some (.int 0)]) (by rw [hnd]; rfl) ?_
              exact lp0 (ndS (txC L d R a) + 1) 0 0 false _ _ (Nat.zero_le _) (by omega) rfl rfl (fun _ => rfl) (fun z => by cases z) (fun j hj => absurd hj (by omega)) (stW_0 (fun j h1 h2 => by simp [upd, h1, h2]))
        · refine go_iconst (v := 3) dX12_readStatement_77 rfl ?_
          refine go_goto dX12_readStatement_78 ?_
          refine go_istore_n (ls' := [some (.ref q), some (.int (nI k)), some (.int (txC L d R a)), some (.int 3), none]) dX12_readStatement_98 ⟨by decide, rfl, rfl⟩ ?_
          refine go_iconst (v := 0) dX12_readStatement_99 rfl ?_
          refine go_istore (ls' := [some (.ref q), some (.int (nI k)), some (.int (txC L d R a)), some (.int 3), some (.int 0)]) dX12_readStatement_100 ⟨by decide, rfl, rfl⟩ ?_
          have lp0 : ∀ (μ_lp0 : Nat) (i m : Nat) (b : Bool) (F1 : Nat → Int32) (A1 : Nat → Nat → Int32) (hi : i ≤ ndS (txC L d R a)) (hmi : ndS (txC L d R a) + 1 ≤ i + μ_lp0) (g18 : F1 18 = nI (a + 1 + m)) (g19 : F1 19 = if b = true then 1 else 0) (hb0 : b = false → m = i) (hb1 : b = true → m < i ∧ m < ndS (txC L d R a) ∧ dgS (txC L d R (a + 1 + m)) = false) (hdg : ∀ j, j < m → dgS (txC L d R (a + 1 + j)) = true) (hW : stW (txC L d R) a k m F A F1 A1), Go G mX12_readStatement 3 0 0 Q9 0 0 102 [some (.ref q), some (.int (nI k)), some (.int (txC L d R a)), some (.int (nI (ndS (txC L d R a)))), some (.int (nI i))] [] (mo G m0 q F1 A1 L K) n := by
            intro μ_lp0
            induction μ_lp0 with
            | zero =>
              intro i m b F1 A1 hi hmi g18 g19 hb0 hb1 hdg hW
              exact absurd hmi (by omega)
            | succ μ_lp0 ih_lp0 =>
              intro i m b F1 A1 hi hmi g18 g19 hb0 hb1 hdg hW
              have hmi2 : m ≤ i := by
                rcases Bool.eq_false_or_eq_true b with z | z
                · have := (hb1 z).1; omega
                · have := hb0 z; omega
              refine go_iload dX12_readStatement_102 rfl ?_
              refine go_iload_n dX12_readStatement_104 rfl ?_
              refine go_icmp_ge dX12_readStatement_105 (fun c105 => ?_) (fun c105 => ?_)
              · have c105n := (nI_leI (a := ndS (txC L d R a)) (b := i) (by omega) (by omega)).mp c105
                have c105n := Nat.not_lt.mpr c105n
                have c105 := Int32.not_lt.mpr c105
                refine go_aload_n dX12_readStatement_136 rfl ?_
                refine go_aload_n dX12_readStatement_137 rfl ?_
                refine go_get dX12_readStatement_138 fl_X12_129_12 mo_obj hq (by omega) rfl ?_
                refine go_tp (z := if b then 1 else 0) (g19) ?_
                refine go_if_ne dX12_readStatement_141 (fun c141 => ?_) (fun c141 => ?_)
                · have c141 := bz_t c141
                  refine go_iconst (v := 1) dX12_readStatement_153 rfl ?_
                  refine go_goto dX12_readStatement_154 ?_
                  refine go_put dX12_readStatement_158 fp_X12_129_12 (Or.inr (fun _ _ _ h => by cases h; rfl)) mo_obj hq (by omega) (rfl) rfl (Nat.le_of_ble_eq_true rfl) ?_
                  refine go_mem (mo_setO (F' := (upd F1 19 (1))) (K' := K) rfl) ?_
                  refine go_aload_n dX12_readStatement_161 rfl ?_
                  refine go_dup dX12_readStatement_162 rfl ?_
                  refine go_get dX12_readStatement_163 fl_X12_123_12 mo_obj hq (by omega) rfl ?_
                  refine go_tp (z := nI (a + 1 + m)) (g18) ?_
                  refine go_aload_n dX12_readStatement_166 rfl ?_
                  refine go_get dX12_readStatement_167 fl_X12_129_12 mo_obj hq (by omega) rfl ?_
                  refine go_tp (z := 1) (rfl) ?_
                  refine go_if_eq dX12_readStatement_170 (fun c170 => ?_) (fun c170 => ?_)
                  · have c170n := (n0_eq (a := 1) (by omega)).mp c170
                    first | exact absurd c170n (by decide) | exact absurd (by decide) c170n | exact absurd rfl c170n | omega
                  · have c170n := mt (n0_eq (a := 1) (by omega)).mpr c170
                    refine go_iconst (v := 0) dX12_readStatement_173 rfl ?_
                    refine go_goto dX12_readStatement_174 ?_
                    refine go_iadd dX12_readStatement_178 ?_
                    refine go_tp (z := nI ((a + 1 + m) + 0)) (nI_add (a + 1 + m) 0) ?_
                    refine go_put dX12_readStatement_179 fp_X12_123_12 (Or.inr (fun _ _ _ h => by cases h; rfl)) mo_obj hq (by omega) (rfl) rfl (Nat.le_of_ble_eq_true rfl) ?_
                    refine go_mem (mo_setO (F' := (upd (upd F1 19 (1)) 18 (nI ((a + 1 + m) + 0)))) (K' := K) rfl) ?_
                    refine go_aload_n dX12_readStatement_182 rfl ?_
                    refine go_dup dX12_readStatement_183 rfl ?_
                    refine go_get dX12_readStatement_184 fl_X12_141_12 mo_obj hq (by omega) rfl ?_
                    refine go_tp (z := nI k) ((hW.1 20 (by decide) (by decide)).trans h20) ?_
                    refine go_iconst (v := 1) dX12_readStatement_187 rfl ?_
                    refine go_iadd dX12_readStatement_188 ?_
                    refine go_tp (z := nI (k + 1)) (nI_add k 1) ?_
                    refine go_put dX12_readStatement_189 fp_X12_141_12 (Or.inr (fun _ _ _ h => by cases h; rfl)) mo_obj hq (by omega) (rfl) rfl (Nat.le_of_ble_eq_true rfl) ?_
                    refine go_mem (mo_setO (F' := (upd (upd (upd F1 19 (1)) 18 (nI ((a + 1 + m) + 0))) 20 (nI (k + 1)))) (K' := K) rfl) ?_
                    exact go_vret dX12_readStatement_192 rfl (Nat.le_of_ble_eq_true rfl) (Nat.le_of_ble_eq_true rfl) (hQ9 ▸ ⟨rfl, ⟨_, _, sdR_of hW (st_2 c39 hdg (hb1 c141).2.1 (hb1 c141).2.2) rfl rfl (fun z => by cases z) rfl rfl rfl (fun j h1 h2 h3 => by simp [upd, h1, h2, h3]), rfl⟩, rfl⟩)
                · have c141 := bz_f c141
                  refine go_aload_n dX12_readStatement_144 rfl ?_
                  refine go_Vr [] [.ref q] dX12_readStatement_145 vl_X12_133 ⟨by decide, by decide⟩ (e_X12_here (F := F1) (A := A1) (L := L) (K := K) hq hn (a := a + 1 + m) g18 ((hW.1 17 (by decide) (by decide)).trans h17) hd hR ((congrFun (hW.2.1 12 (by decide)) d).trans eR) (by omega)) mo_obj hq (by omega) rfl rfl (Nat.le_of_ble_eq_true rfl) (Nat.le_of_ble_eq_true rfl) (Nat.le_of_ble_eq_true rfl) ?_
                  refine go_bipush (v := 59) dX12_readStatement_148 rfl ?_
                  refine go_icmp_eq dX12_readStatement_150 (fun c150 => ?_) (fun c150 => ?_)
                  · refine go_iconst (v := 0) dX12_readStatement_157 rfl ?_
                    refine go_put dX12_readStatement_158 fp_X12_129_12 (Or.inr (fun _ _ _ h => by cases h; rfl)) mo_obj hq (by omega) (rfl) rfl (Nat.le_of_ble_eq_true rfl) ?_
                    refine go_mem (mo_setO (F' := (upd F1 19 (0))) (K' := K) rfl) ?_
                    refine go_aload_n dX12_readStatement_161 rfl ?_
                    refine go_dup dX12_readStatement_162 rfl ?_
                    refine go_get dX12_readStatement_163 fl_X12_123_12 mo_obj hq (by omega) rfl ?_
                    refine go_tp (z := nI (a + 1 + m)) (g18) ?_
                    refine go_aload_n dX12_readStatement_166 rfl ?_
                    refine go_get dX12_readStatement_167 fl_X12_129_12 mo_obj hq (by omega) rfl ?_
                    refine go_tp (z := 0) (rfl) ?_
                    refine go_if_eq dX12_readStatement_170 (fun c170 => ?_) (fun c170 => ?_)
                    · have c170n := (n0_eq (a := 0) (by omega)).mp c170
                      refine go_iconst (v := 1) dX12_readStatement_177 rfl ?_
                      refine go_iadd dX12_readStatement_178 ?_
                      refine go_tp (z := nI ((a + 1 + m) + 1)) (nI_add (a + 1 + m) 1) ?_
                      refine go_put dX12_readStatement_179 fp_X12_123_12 (Or.inr (fun _ _ _ h => by cases h; rfl)) mo_obj hq (by omega) (rfl) rfl (Nat.le_of_ble_eq_true rfl) ?_
                      refine go_mem (mo_setO (F' := (upd (upd F1 19 (0)) 18 (nI ((a + 1 + m) + 1)))) (K' := K) rfl) ?_
                      refine go_aload_n dX12_readStatement_182 rfl ?_
                      refine go_dup dX12_readStatement_183 rfl ?_
                      refine go_get dX12_readStatement_184 fl_X12_141_12 mo_obj hq (by omega) rfl ?_
                      refine go_tp (z := nI k) ((hW.1 20 (by decide) (by decide)).trans h20) ?_
                      refine go_iconst (v := 1) dX12_readStatement_187 rfl ?_
                      refine go_iadd dX12_readStatement_188 ?_
                      refine go_tp (z := nI (k + 1)) (nI_add k 1) ?_
                      refine go_put dX12_readStatement_189 fp_X12_141_12 (Or.inr (fun _ _ _ h => by cases h; rfl)) mo_obj hq (by omega) (rfl) rfl (Nat.le_of_ble_eq_true rfl) ?_
                      refine go_mem (mo_setO (F' := (upd (upd (upd F1 19 (0)) 18 (nI ((a + 1 + m) + 1))) 20 (nI (k + 1)))) (K' := K) rfl) ?_
                      exact go_vret dX12_readStatement_192 rfl (Nat.le_of_ble_eq_true rfl) (Nat.le_of_ble_eq_true rfl) (hQ9 ▸ ⟨rfl, ⟨_, _, sdR_of hW (st_4 c39 hdg (by have := hb0 (Bool.eq_false_iff.mpr c141); omega) c150) rfl rfl (fun _ => (by have := hb0 (Bool.eq_false_iff.mpr c141); omega)) rfl rfl rfl (fun j h1 h2 h3 => by simp [upd, h1, h2, h3]), rfl⟩, rfl⟩)
                    · have c170n := mt (n0_eq (a := 0) (by omega)).mpr c170
                      first | exact absurd c170n (by decide) | exact absurd (by decide) c170n | exact absurd rfl c170n | omega
                  · refine go_iconst (v := 1) dX12_readStatement_153 rfl ?_
                    refine go_goto dX12_readStatement_154 ?_
                    refine go_put dX12_readStatement_158 fp_X12_129_12 (Or.inr (fun _ _ _ h => by cases h; rfl)) mo_obj hq (by omega) (rfl) rfl (Nat.le_of_ble_eq_true rfl) ?_
                    refine go_mem (mo_setO (F' := (upd F1 19 (1))) (K' := K) rfl) ?_
                    refine go_aload_n dX12_readStatement_161 rfl ?_
                    refine go_dup dX12_readStatement_162 rfl ?_
                    refine go_get dX12_readStatement_163 fl_X12_123_12 mo_obj hq (by omega) rfl ?_
                    refine go_tp (z := nI (a + 1 + m)) (g18) ?_
                    refine go_aload_n dX12_readStatement_166 rfl ?_
                    refine go_get dX12_readStatement_167 fl_X12_129_12 mo_obj hq (by omega) rfl ?_
                    refine go_tp (z := 1) (rfl) ?_
                    refine go_if_eq dX12_readStatement_170 (fun c170 => ?_) (fun c170 => ?_)
                    · have c170n := (n0_eq (a := 1) (by omega)).mp c170
                      first | exact absurd c170n (by decide) | exact absurd (by decide) c170n | exact absurd rfl c170n | omega
                    · have c170n := mt (n0_eq (a := 1) (by omega)).mpr c170
                      refine go_iconst (v := 0) dX12_readStatement_173 rfl ?_
                      refine go_goto dX12_readStatement_174 ?_
                      refine go_iadd dX12_readStatement_178 ?_
                      refine go_tp (z := nI ((a + 1 + m) + 0)) (nI_add (a + 1 + m) 0) ?_
                      refine go_put dX12_readStatement_179 fp_X12_123_12 (Or.inr (fun _ _ _ h => by cases h; rfl)) mo_obj hq (by omega) (rfl) rfl (Nat.le_of_ble_eq_true rfl) ?_
                      refine go_mem (mo_setO (F' := (upd (upd F1 19 (1)) 18 (nI ((a + 1 + m) + 0)))) (K' := K) rfl) ?_
                      refine go_aload_n dX12_readStatement_182 rfl ?_
                      refine go_dup dX12_readStatement_183 rfl ?_
                      refine go_get dX12_readStatement_184 fl_X12_141_12 mo_obj hq (by omega) rfl ?_
                      refine go_tp (z := nI k) ((hW.1 20 (by decide) (by decide)).trans h20) ?_
                      refine go_iconst (v := 1) dX12_readStatement_187 rfl ?_
                      refine go_iadd dX12_readStatement_188 ?_
                      refine go_tp (z := nI (k + 1)) (nI_add k 1) ?_
                      refine go_put dX12_readStatement_189 fp_X12_141_12 (Or.inr (fun _ _ _ h => by cases h; rfl)) mo_obj hq (by omega) (rfl) rfl (Nat.le_of_ble_eq_true rfl) ?_
                      refine go_mem (mo_setO (F' := (upd (upd (upd F1 19 (1)) 18 (nI ((a + 1 + m) + 0))) 20 (nI (k + 1)))) (K' := K) rfl) ?_
                      exact go_vret dX12_readStatement_192 rfl (Nat.le_of_ble_eq_true rfl) (Nat.le_of_ble_eq_true rfl) (hQ9 ▸ ⟨rfl, ⟨_, _, sdR_of hW (st_3 c39 hdg (by have := hb0 (Bool.eq_false_iff.mpr c141); omega) c150) rfl rfl (fun z => by cases z) rfl rfl rfl (fun j h1 h2 h3 => by simp [upd, h1, h2, h3]), rfl⟩, rfl⟩)
              · have c105n := mt (nI_leI (a := ndS (txC L d R a)) (b := i) (by omega) (by omega)).mpr c105
                have c105n := Nat.lt_of_not_le c105n
                have c105 := Int32.not_le.mp c105
                refine go_aload_n dX12_readStatement_108 rfl ?_
                refine go_get dX12_readStatement_109 fl_X12_129_12 mo_obj hq (by omega) rfl ?_
                refine go_tp (z := if b then 1 else 0) (g19) ?_
                refine go_if_ne dX12_readStatement_112 (fun c112 => ?_) (fun c112 => ?_)
                · have c112 := bz_t c112
                  refine go_aload_n dX12_readStatement_136 rfl ?_
                  refine go_aload_n dX12_readStatement_137 rfl ?_
                  refine go_get dX12_readStatement_138 fl_X12_129_12 mo_obj hq (by omega) rfl ?_
                  refine go_tp (z := if b then 1 else 0) (g19) ?_
                  refine go_if_ne dX12_readStatement_141 (fun c141 => ?_) (fun c141 => ?_)
                  · have c141 := bz_t c141
                    refine go_iconst (v := 1) dX12_readStatement_153 rfl ?_
                    refine go_goto dX12_readStatement_154 ?_
                    refine go_put dX12_readStatement_158 fp_X12_129_12 (Or.inr (fun _ _ _ h => by cases h; rfl)) mo_obj hq (by omega) (rfl) rfl (Nat.le_of_ble_eq_true rfl) ?_
                    refine go_mem (mo_setO (F' := (upd F1 19 (1))) (K' := K) rfl) ?_
                    refine go_aload_n dX12_readStatement_161 rfl ?_
                    refine go_dup dX12_readStatement_162 rfl ?_
                    refine go_get dX12_readStatement_163 fl_X12_123_12 mo_obj hq (by omega) rfl ?_
                    refine go_tp (z := nI (a + 1 + m)) (g18) ?_
                    refine go_aload_n dX12_readStatement_166 rfl ?_
                    refine go_get dX12_readStatement_167 fl_X12_129_12 mo_obj hq (by omega) rfl ?_
                    refine go_tp (z := 1) (rfl) ?_
                    refine go_if_eq dX12_readStatement_170 (fun c170 => ?_) (fun c170 => ?_)
                    · have c170n := (n0_eq (a := 1) (by omega)).mp c170
                      first | exact absurd c170n (by decide) | exact absurd (by decide) c170n | exact absurd rfl c170n | omega
                    · have c170n := mt (n0_eq (a := 1) (by omega)).mpr c170
                      refine go_iconst (v := 0) dX12_readStatement_173 rfl ?_
                      refine go_goto dX12_readStatement_174 ?_
                      refine go_iadd dX12_readStatement_178 ?_
                      refine go_tp (z := nI ((a + 1 + m) + 0)) (nI_add (a + 1 + m) 0) ?_
                      refine go_put dX12_readStatement_179 fp_X12_123_12 (Or.inr (fun _ _ _ h => by cases h; rfl)) mo_obj hq (by omega) (rfl) rfl (Nat.le_of_ble_eq_true rfl) ?_
                      refine go_mem (mo_setO (F' := (upd (upd F1 19 (1)) 18 (nI ((a + 1 + m) + 0)))) (K' := K) rfl) ?_
                      refine go_aload_n dX12_readStatement_182 rfl ?_
                      refine go_dup dX12_readStatement_183 rfl ?_
                      refine go_get dX12_readStatement_184 fl_X12_141_12 mo_obj hq (by omega) rfl ?_
                      refine go_tp (z := nI k) ((hW.1 20 (by decide) (by decide)).trans h20) ?_
                      refine go_iconst (v := 1) dX12_readStatement_187 rfl ?_
                      refine go_iadd dX12_readStatement_188 ?_
                      refine go_tp (z := nI (k + 1)) (nI_add k 1) ?_
                      refine go_put dX12_readStatement_189 fp_X12_141_12 (Or.inr (fun _ _ _ h => by cases h; rfl)) mo_obj hq (by omega) (rfl) rfl (Nat.le_of_ble_eq_true rfl) ?_
                      refine go_mem (mo_setO (F' := (upd (upd (upd F1 19 (1)) 18 (nI ((a + 1 + m) + 0))) 20 (nI (k + 1)))) (K' := K) rfl) ?_
                      exact go_vret dX12_readStatement_192 rfl (Nat.le_of_ble_eq_true rfl) (Nat.le_of_ble_eq_true rfl) (hQ9 ▸ ⟨rfl, ⟨_, _, sdR_of hW (st_2 c39 hdg (hb1 c112).2.1 (hb1 c112).2.2) rfl rfl (fun z => by cases z) rfl rfl rfl (fun j h1 h2 h3 => by simp [upd, h1, h2, h3]), rfl⟩, rfl⟩)
                  · have c141 := bz_f c141
                    exact absurd c112 c141
                · have c112 := bz_f c112
                  refine go_aload_n dX12_readStatement_115 rfl ?_
                  refine go_get dX12_readStatement_116 fl_X12_56_12 mo_obj hq (by omega) rfl ?_
                  refine go_iconst (v := 3) dX12_readStatement_119 rfl ?_
                  refine go_iload_n dX12_readStatement_120 rfl ?_
                  refine go_imul dX12_readStatement_121 ?_
                  refine go_tp (z := nI (3 * k)) (pk_mul 3 k) ?_
                  refine go_iload dX12_readStatement_122 rfl ?_
                  refine go_iadd dX12_readStatement_124 ?_
                  refine go_tp (z := nI ((3 * k) + i)) (nI_add (3 * k) i) ?_
                  refine go_aload_n dX12_readStatement_125 rfl ?_
                  refine go_V [] [.int (nI ((3 * k) + i)), .ref (q + 16)] dX12_readStatement_126 vl_X12_148 ⟨by decide, by decide⟩ (e_X12_readDigit (F := F1) (A := A1) (L := L) (K := K) hq hn (a := a + 1 + m) g18 ((hW.1 17 (by decide) (by decide)).trans h17) hd hR ((congrFun (hW.2.1 12 (by decide)) d).trans eR) (by omega) (by rw [g19, if_neg c112])) mo_obj hq (by omega) rfl rfl (Nat.le_of_ble_eq_true rfl) (Nat.le_of_ble_eq_true rfl) (Nat.le_of_ble_eq_true rfl) (fun r126 f126 n126 h126 => ?_)
                  obtain ⟨rfl, rfl, hn126⟩ := h126
                  subst n126
                  refine go_iast dX12_readStatement_129 (mo_arr 16 (by decide)) (by omega) (by omega) (vp_in_nI (n := (3 * k) + i) (by show (3 * k) + i < 153; omega) (by decide)) ?_
                  refine go_mem (mo_setA 16 (by decide) _ _) ?_
                  rw [nI_clamp (by omega)]
                  refine go_iinc (v := nI (i + 1)) (ls' := [some (.ref q), some (.int (nI k)), some (.int (txC L d R a)), some (.int (nI (ndS (txC L d R a)))), some (.int (nI (i + 1)))]) dX12_readStatement_130 rfl (nI_1 (i)) ⟨by decide, rfl, rfl⟩ ?_
                  refine go_goto dX12_readStatement_133 ?_
                  have him : m = i := hb0 (Bool.eq_false_iff.mpr c112)
                  by_cases hdg1 : dgS (txC L d R (a + 1 + m)) = true
                  · simp only [if_pos hdg1]
                    exact ih_lp0 (i + 1) (i + 1) false _ _ (by omega) (by omega) (by subst him; rfl) rfl (fun _ => rfl) (fun z => by cases z) (fun j hj => (Nat.lt_succ_iff_lt_or_eq.mp hj).elim (fun z => hdg j (by omega)) (fun z => by rw [z, ← him]; exact hdg1)) (stW_s hW him (fun j h1 h2 => by simp [upd, h1, h2]) (by rw [him]))
                  · simp only [if_neg hdg1]
                    exact ih_lp0 (i + 1) i true _ _ (by omega) (by omega) (by subst him; rfl) rfl (fun z => by cases z) (fun _ => ⟨by omega, by omega, by rw [← him]; exact Bool.eq_false_iff.mpr hdg1⟩) (fun j hj => hdg j (by omega)) (stW_b hW him (fun j h1 h2 => by simp [upd, h1, h2]))
          have hnd : ndS (txC L d R a) = 3 := by simp [ndS, c74]
          refine go_ls (ls' := [some (.ref q), some (.int (nI k)), some (.int (txC L d R a)), some (.int (nI (ndS (txC L d R a)))), some (.int 0)]) (by rw [hnd]; rfl) ?_
          exact lp0 (ndS (txC L d R a) + 1) 0 0 false _ _ (Nat.zero_le _) (by omega) rfl rfl (fun _ => rfl) (fun z => by cases z) (fun j hj => absurd hj (by omega)) (stW_0 (fun j h1 h2 => by simp [upd, h1, h2]))
      · have c59n := mt (n0_eq (a := 0) (by omega)).mpr c59
        first | exact absurd c59n (by decide) | exact absurd (by decide) c59n | exact absurd rfl c59n | omega
    · have c39 := bz_f c39
      refine go_iconst (v := 1) dX12_readStatement_42 rfl ?_
      refine go_goto dX12_readStatement_43 ?_
      refine go_put dX12_readStatement_47 fp_X12_129_12 (Or.inr (fun _ _ _ h => by cases h; rfl)) mo_obj hq (by omega) (rfl) rfl (Nat.le_of_ble_eq_true rfl) ?_
      refine go_mem (mo_setO (F' := (upd F 19 (1))) (K' := K) rfl) ?_
      refine go_aload_n dX12_readStatement_50 rfl ?_
      refine go_dup dX12_readStatement_51 rfl ?_
      refine go_get dX12_readStatement_52 fl_X12_123_12 mo_obj hq (by omega) rfl ?_
      refine go_tp (z := nI a) (h18) ?_
      refine go_aload_n dX12_readStatement_55 rfl ?_
      refine go_get dX12_readStatement_56 fl_X12_129_12 mo_obj hq (by omega) rfl ?_
      refine go_tp (z := 1) (rfl) ?_
      refine go_if_eq dX12_readStatement_59 (fun c59 => ?_) (fun c59 => ?_)
      · have c59n := (n0_eq (a := 1) (by omega)).mp c59
        first | exact absurd c59n (by decide) | exact absurd (by decide) c59n | exact absurd rfl c59n | omega
      · have c59n := mt (n0_eq (a := 1) (by omega)).mpr c59
        refine go_iconst (v := 0) dX12_readStatement_62 rfl ?_
        refine go_goto dX12_readStatement_63 ?_
        refine go_iadd dX12_readStatement_67 ?_
        refine go_tp (z := nI (a + 0)) (nI_add a 0) ?_
        refine go_put dX12_readStatement_68 fp_X12_123_12 (Or.inr (fun _ _ _ h => by cases h; rfl)) mo_obj hq (by omega) (rfl) rfl (Nat.le_of_ble_eq_true rfl) ?_
        refine go_mem (mo_setO (F' := (upd (upd F 19 (1)) 18 (nI (a + 0)))) (K' := K) rfl) ?_
        refine go_iload_n dX12_readStatement_71 rfl ?_
        refine go_bipush (v := 112) dX12_readStatement_72 rfl ?_
        refine go_icmp_ne dX12_readStatement_74 (fun c74 => ?_) (fun c74 => ?_)
        · refine go_iload_n dX12_readStatement_81 rfl ?_
          refine go_bipush (v := 107) dX12_readStatement_82 rfl ?_
          refine go_icmp_eq dX12_readStatement_84 (fun c84 => ?_) (fun c84 => ?_)
          · exact absurd (by simp [ltrS, c84]) c39
          · refine go_iload_n dX12_readStatement_87 rfl ?_
            refine go_bipush (v := 110) dX12_readStatement_88 rfl ?_
            refine go_icmp_ne dX12_readStatement_90 (fun c90 => ?_) (fun c90 => ?_)
            · refine go_iconst (v := 2) dX12_readStatement_97 rfl ?_
              refine go_istore_n (ls' := [some (.ref q), some (.int (nI k)), some (.int (txC L d R a)), some (.int 2), none]) dX12_readStatement_98 ⟨by decide, rfl, rfl⟩ ?_
              refine go_iconst (v := 0) dX12_readStatement_99 rfl ?_
              refine go_istore (ls' := [some (.ref q), some (.int (nI k)), some (.int (txC L d R a)), some (.int 2), some (.int 0)]) dX12_readStatement_100 ⟨by decide, rfl, rfl⟩ ?_
              refine go_iload dX12_readStatement_102 rfl ?_
              refine go_iload_n dX12_readStatement_104 rfl ?_
              refine go_icmp_ge dX12_readStatement_105 (fun c105 => ?_) (fun c105 => ?_)
              · have c105n := (nI_leI (a := 2) (b := 0) (by omega) (by omega)).mp c105
                have c105n := Nat.not_lt.mpr c105n
                have c105 := Int32.not_lt.mpr c105
                first | exact absurd c105n (by decide) | exact absurd (by decide) c105n | exact absurd rfl c105n | omega
              · have c105n := mt (nI_leI (a := 2) (b := 0) (by omega) (by omega)).mpr c105
                have c105n := Nat.lt_of_not_le c105n
                have c105 := Int32.not_le.mp c105
                refine go_aload_n dX12_readStatement_108 rfl ?_
                refine go_get dX12_readStatement_109 fl_X12_129_12 mo_obj hq (by omega) rfl ?_
                refine go_tp (z := 1) (rfl) ?_
                refine go_if_ne dX12_readStatement_112 (fun c112 => ?_) (fun c112 => ?_)
                · have c112n := mt (n0_eq (a := 1) (by omega)).mpr c112
                  refine go_aload_n dX12_readStatement_136 rfl ?_
                  refine go_aload_n dX12_readStatement_137 rfl ?_
                  refine go_get dX12_readStatement_138 fl_X12_129_12 mo_obj hq (by omega) rfl ?_
                  refine go_tp (z := 1) (rfl) ?_
                  refine go_if_ne dX12_readStatement_141 (fun c141 => ?_) (fun c141 => ?_)
                  · have c141n := mt (n0_eq (a := 1) (by omega)).mpr c141
                    refine go_iconst (v := 1) dX12_readStatement_153 rfl ?_
                    refine go_goto dX12_readStatement_154 ?_
                    refine go_put dX12_readStatement_158 fp_X12_129_12 (Or.inr (fun _ _ _ h => by cases h; rfl)) mo_obj hq (by omega) (rfl) rfl (Nat.le_of_ble_eq_true rfl) ?_
                    refine go_mem (mo_setO (F' := (upd (upd (upd F 19 (1)) 18 (nI (a + 0))) 19 (1))) (K' := K) rfl) ?_
                    refine go_aload_n dX12_readStatement_161 rfl ?_
                    refine go_dup dX12_readStatement_162 rfl ?_
                    refine go_get dX12_readStatement_163 fl_X12_123_12 mo_obj hq (by omega) rfl ?_
                    refine go_tp (z := nI (a + 0)) (rfl) ?_
                    refine go_aload_n dX12_readStatement_166 rfl ?_
                    refine go_get dX12_readStatement_167 fl_X12_129_12 mo_obj hq (by omega) rfl ?_
                    refine go_tp (z := 1) (rfl) ?_
                    refine go_if_eq dX12_readStatement_170 (fun c170 => ?_) (fun c170 => ?_)
                    · have c170n := (n0_eq (a := 1) (by omega)).mp c170
                      first | exact absurd c170n (by decide) | exact absurd (by decide) c170n | exact absurd rfl c170n | omega
                    · have c170n := mt (n0_eq (a := 1) (by omega)).mpr c170
                      refine go_iconst (v := 0) dX12_readStatement_173 rfl ?_
                      refine go_goto dX12_readStatement_174 ?_
                      refine go_iadd dX12_readStatement_178 ?_
                      refine go_tp (z := nI ((a + 0) + 0)) (nI_add (a + 0) 0) ?_
                      refine go_put dX12_readStatement_179 fp_X12_123_12 (Or.inr (fun _ _ _ h => by cases h; rfl)) mo_obj hq (by omega) (rfl) rfl (Nat.le_of_ble_eq_true rfl) ?_
                      refine go_mem (mo_setO (F' := (upd (upd (upd (upd F 19 (1)) 18 (nI (a + 0))) 19 (1)) 18 (nI ((a + 0) + 0)))) (K' := K) rfl) ?_
                      refine go_aload_n dX12_readStatement_182 rfl ?_
                      refine go_dup dX12_readStatement_183 rfl ?_
                      refine go_get dX12_readStatement_184 fl_X12_141_12 mo_obj hq (by omega) rfl ?_
                      refine go_tp (z := nI k) (h20) ?_
                      refine go_iconst (v := 1) dX12_readStatement_187 rfl ?_
                      refine go_iadd dX12_readStatement_188 ?_
                      refine go_tp (z := nI (k + 1)) (nI_add k 1) ?_
                      refine go_put dX12_readStatement_189 fp_X12_141_12 (Or.inr (fun _ _ _ h => by cases h; rfl)) mo_obj hq (by omega) (rfl) rfl (Nat.le_of_ble_eq_true rfl) ?_
                      refine go_mem (mo_setO (F' := (upd (upd (upd (upd (upd F 19 (1)) 18 (nI (a + 0))) 19 (1)) 18 (nI ((a + 0) + 0))) 20 (nI (k + 1)))) (K' := K) rfl) ?_
                      exact go_vret dX12_readStatement_192 rfl (Nat.le_of_ble_eq_true rfl) (Nat.le_of_ble_eq_true rfl) (hQ9 ▸ ⟨rfl, ⟨_, _, sdR_of (m := 0) (stW_0 (F1 := F) (fun _ _ _ => rfl)) (st_1 c39) rfl rfl (fun z => by cases z) rfl rfl rfl (fun j h1 h2 h3 => by simp [upd, h1, h2, h3]), rfl⟩, rfl⟩)
                  · have c141n := (n0_eq (a := 1) (by omega)).mp c141
                    first | exact absurd c141n (by decide) | exact absurd (by decide) c141n | exact absurd rfl c141n | omega
                · have c112n := (n0_eq (a := 1) (by omega)).mp c112
                  first | exact absurd c112n (by decide) | exact absurd (by decide) c112n | exact absurd rfl c112n | omega
            · exact absurd (by simp [ltrS, c90]) c39
        · exact absurd (by simp [ltrS, c74]) c39
set_option maxHeartbeats 4000000 in
set_option maxRecDepth 100000 in
theorem e_X12_comesTold (hq : G.2.1 ≤ q) (hn : q + 25 ≤ n) (hN : F 0 = nI N) (hN8 : N ≤ 8) (hM : F 5 = nI M) (hM5 : M ≤ 5) {P : Int32} (hP : F 9 = P) {k : Nat} {l a b e : Int32} (hk : k < 51) (ea : A 16 (3 * k) = a) (eb : A 16 (3 * k + 1) = b) (ee : A 16 (3 * k + 2) = e) (el : A 15 k = l) : Ev G mX12_comesTold 4 0 0 [.ref q, .int (nI k)] (mo G m0 q F A L K) n (ctQ G m0 q n F L K (N, M, P, A) l a b e) := by
  generalize hQ9 : (ctQ G m0 q n F L K (N, M, P, A) l a b e : RQ) = Q9
  refine ev_of (by decide) (Nat.le_of_ble_eq_true rfl) (ls := [some (.ref q), some (.int (nI k)), none, none, none]) rfl (fun hb => ?_)
  refine go_aload_n dX12_comesTold_0 rfl ?_
  refine go_get dX12_comesTold_1 fl_X12_56_12 mo_obj hq (by omega) rfl ?_
  refine go_iconst (v := 3) dX12_comesTold_4 rfl ?_
  refine go_iload_n dX12_comesTold_5 rfl ?_
  refine go_imul dX12_comesTold_6 ?_
  refine go_tp (z := nI (3 * k)) (pk_mul 3 k) ?_
  refine go_iald dX12_comesTold_7 (mo_arr 16 (by decide)) (by omega) (by omega) (vp_in_nI (n := 3 * k) (by show 3 * k < 153; omega) (by decide)) ?_
  refine go_tp (z := A 16 (3 * k)) (by rw [nI_clamp (by omega)]) ?_
  refine go_tp (z := a) (ea) ?_
  refine go_istore_n (ls' := [some (.ref q), some (.int (nI k)), some (.int a), none, none]) dX12_comesTold_8 ⟨by decide, rfl, rfl⟩ ?_
  refine go_aload_n dX12_comesTold_9 rfl ?_
  refine go_get dX12_comesTold_10 fl_X12_56_12 mo_obj hq (by omega) rfl ?_
  refine go_iconst (v := 3) dX12_comesTold_13 rfl ?_
  refine go_iload_n dX12_comesTold_14 rfl ?_
  refine go_imul dX12_comesTold_15 ?_
  refine go_tp (z := nI (3 * k)) (pk_mul 3 k) ?_
  refine go_iconst (v := 1) dX12_comesTold_16 rfl ?_
  refine go_iadd dX12_comesTold_17 ?_
  refine go_tp (z := nI ((3 * k) + 1)) (nI_add (3 * k) 1) ?_
  refine go_iald dX12_comesTold_18 (mo_arr 16 (by decide)) (by omega) (by omega) (vp_in_nI (n := (3 * k) + 1) (by show (3 * k) + 1 < 153; omega) (by decide)) ?_
  refine go_tp (z := A 16 ((3 * k) + 1)) (by rw [nI_clamp (by omega)]) ?_
  refine go_tp (z := b) (eb) ?_
  refine go_istore_n (ls' := [some (.ref q), some (.int (nI k)), some (.int a), some (.int b), none]) dX12_comesTold_19 ⟨by decide, rfl, rfl⟩ ?_
  refine go_iconst (v := 1) dX12_comesTold_20 rfl ?_
  refine go_istore (ls' := [some (.ref q), some (.int (nI k)), some (.int a), some (.int b), some (.int 1)]) dX12_comesTold_21 ⟨by decide, rfl, rfl⟩ ?_
  refine go_aload_n dX12_comesTold_23 rfl ?_
  refine go_get dX12_comesTold_24 fl_X12_53_12 mo_obj hq (by omega) rfl ?_
  refine go_iload_n dX12_comesTold_27 rfl ?_
  refine go_iald dX12_comesTold_28 (mo_arr 15 (by decide)) (by omega) (by omega) (vp_in_nI (n := k) (by show k < 51; omega) (by decide)) ?_
  refine go_tp (z := A 15 k) (by rw [nI_clamp (by omega)]) ?_
  refine go_tp (z := l) (el) ?_
  by_cases e29_107 : (l : Int32) = 107
  · refine go_tp e29_107 ?_
    refine go_tableIn (off := 190) (tgt := 219) dX12_comesTold_29 (by decide) (by decide) (by decide) (by decide) ?_
    refine go_aload_n dX12_comesTold_219 rfl ?_
    refine go_iload_n dX12_comesTold_220 rfl ?_
    refine go_Vr [.int a] [] dX12_comesTold_221 vl_X12_151 ⟨by decide, by decide⟩ (e_X12_isLocker (F := F) (A := A) (L := L) (K := K) hq hn hM hM5) mo_obj hq (by omega) rfl rfl (Nat.le_of_ble_eq_true rfl) (Nat.le_of_ble_eq_true rfl) (Nat.le_of_ble_eq_true rfl) ?_
    refine go_if_eq dX12_comesTold_224 (fun c224 => ?_) (fun c224 => ?_)
    · have c224 := bz_f c224
      refine go_iconst (v := 0) dX12_comesTold_240 rfl ?_
      refine go_istore (ls' := [some (.ref q), some (.int (nI k)), some (.int a), some (.int b), some (.int 0)]) dX12_comesTold_241 ⟨by decide, rfl, rfl⟩ ?_
      refine go_iload dX12_comesTold_243 rfl ?_
      refine go_if_eq dX12_comesTold_245 (fun c245 => ?_) (fun c245 => ?_)
      · have c245n := (n0_eq (a := 0) (by omega)).mp c245
        refine go_iload dX12_comesTold_258 rfl ?_
        exact go_zret dX12_comesTold_260 rfl (Nat.le_of_ble_eq_true rfl) (Nat.le_of_ble_eq_true rfl) (rfl) (hQ9 ▸ ct_f (s := (N, M, P, A)) (l := l)   (e := e) (by unfold exS; rw [if_neg (by rw [e29_107]; decide), if_neg (by rw [e29_107]; decide), if_neg (by rw [e29_107]; decide), if_neg (by rw [e29_107]; decide), if_pos e29_107]; rw [if_neg (by simp [c224])]))
      · have c245n := mt (n0_eq (a := 0) (by omega)).mpr c245
        first | exact absurd c245n (by decide) | exact absurd (by decide) c245n | exact absurd rfl c245n | omega
    · have c224 := bz_t c224
      obtain ⟨ja, hja, rfl⟩ := okp_nI c224 (by omega)
      have kja : (nI ja).toNatClampNeg = ja := nI_clamp (by omega)
      refine go_aload_n dX12_comesTold_227 rfl ?_
      refine go_get dX12_comesTold_228 fl_X12_28_12 mo_obj hq (by omega) rfl ?_
      refine go_iload_n dX12_comesTold_231 rfl ?_
      refine go_iald dX12_comesTold_232 (mo_arr 7 (by decide)) (by omega) (by omega) (vp_in_nI (n := ja) (by show ja < 5; omega) (by decide)) ?_
      refine go_tp (z := A 7 ja) (by rw [nI_clamp (by omega)]) ?_
      refine go_if_le dX12_comesTold_233 (fun c233 => ?_) (fun c233 => ?_)
      · have c233 := Int32.not_lt.mpr c233
        refine go_iconst (v := 0) dX12_comesTold_240 rfl ?_
        refine go_istore (ls' := [some (.ref q), some (.int (nI k)), some (.int (nI ja)), some (.int b), some (.int 0)]) dX12_comesTold_241 ⟨by decide, rfl, rfl⟩ ?_
        refine go_iload dX12_comesTold_243 rfl ?_
        refine go_if_eq dX12_comesTold_245 (fun c245 => ?_) (fun c245 => ?_)
        · have c245n := (n0_eq (a := 0) (by omega)).mp c245
          refine go_iload dX12_comesTold_258 rfl ?_
          exact go_zret dX12_comesTold_260 rfl (Nat.le_of_ble_eq_true rfl) (Nat.le_of_ble_eq_true rfl) (rfl) (hQ9 ▸ ct_f (s := (N, M, P, A)) (l := l)   (e := e) (by unfold exS; rw [if_neg (by rw [e29_107]; decide), if_neg (by rw [e29_107]; decide), if_neg (by rw [e29_107]; decide), if_neg (by rw [e29_107]; decide), if_pos e29_107]; rw [if_neg (by simp [c224, kja, c233])]))
        · have c245n := mt (n0_eq (a := 0) (by omega)).mpr c245
          first | exact absurd c245n (by decide) | exact absurd (by decide) c245n | exact absurd rfl c245n | omega
      · have c233 := Int32.not_le.mp c233
        refine go_iconst (v := 1) dX12_comesTold_236 rfl ?_
        refine go_goto dX12_comesTold_237 ?_
        refine go_istore (ls' := [some (.ref q), some (.int (nI k)), some (.int (nI ja)), some (.int b), some (.int 1)]) dX12_comesTold_241 ⟨by decide, rfl, rfl⟩ ?_
        refine go_iload dX12_comesTold_243 rfl ?_
        refine go_if_eq dX12_comesTold_245 (fun c245 => ?_) (fun c245 => ?_)
        · have c245n := (n0_eq (a := 1) (by omega)).mp c245
          first | exact absurd c245n (by decide) | exact absurd (by decide) c245n | exact absurd rfl c245n | omega
        · have c245n := mt (n0_eq (a := 1) (by omega)).mpr c245
          refine go_aload_n dX12_comesTold_248 rfl ?_
          refine go_get dX12_comesTold_249 fl_X12_28_12 mo_obj hq (by omega) rfl ?_
          refine go_iload_n dX12_comesTold_252 rfl ?_
          refine go_dup2 dX12_comesTold_253 rfl rfl ?_
          refine go_iald dX12_comesTold_254 (mo_arr 7 (by decide)) (by omega) (by omega) (vp_in_nI (n := ja) (by show ja < 5; omega) (by decide)) ?_
          refine go_tp (z := A 7 ja) (by rw [nI_clamp (by omega)]) ?_
          refine go_iconst (v := 1) dX12_comesTold_255 rfl ?_
          refine go_isub dX12_comesTold_256 ?_
          refine go_iast dX12_comesTold_257 (mo_arr 7 (by decide)) (by omega) (by omega) (vp_in_nI (n := ja) (by show ja < 5; omega) (by decide)) ?_
          refine go_mem (mo_setA 7 (by decide) _ _) ?_
          rw [nI_clamp (by omega)]
          refine go_iload dX12_comesTold_258 rfl ?_
          exact go_zret dX12_comesTold_260 rfl (Nat.le_of_ble_eq_true rfl) (Nat.le_of_ble_eq_true rfl) (rfl) (hQ9 ▸ ct_t (s := (N, M, P, A)) (l := l)   (e := e) (s' := (N, M, P, _)) (by unfold exS; rw [if_neg (by rw [e29_107]; decide), if_neg (by rw [e29_107]; decide), if_neg (by rw [e29_107]; decide), if_neg (by rw [e29_107]; decide), if_pos e29_107]; rw [if_pos (by simp [c224, kja, c233])]; first | (rw [kja]; done) | (rw [kja]; rfl)) hN hM hP (fun _ _ _ _ => rfl))
  · by_cases e29_108 : (l : Int32) = 108
    · refine go_tp e29_108 ?_
      refine go_tableIn (off := 88) (tgt := 117) dX12_comesTold_29 (by decide) (by decide) (by decide) (by decide) ?_
      refine go_aload_n dX12_comesTold_117 rfl ?_
      refine go_iload_n dX12_comesTold_118 rfl ?_
      refine go_iload_n dX12_comesTold_119 rfl ?_
      refine go_V [.int a, .int b] [] dX12_comesTold_120 vl_X12_161 ⟨by decide, by decide⟩ (e_X12_lockerComes (F := F) (A := A) (L := L) (K := K) hq hn hM hM5) mo_obj hq (by omega) rfl rfl (Nat.le_of_ble_eq_true rfl) (Nat.le_of_ble_eq_true rfl) (Nat.le_of_ble_eq_true rfl) (fun r120 f120 n120 h120 => ?_)
      obtain ⟨rfl, rfl, hn120⟩ := h120
      subst n120
      exact go_zret dX12_comesTold_123 rfl (Nat.le_of_ble_eq_true rfl) (Nat.le_of_ble_eq_true rfl) (bz_n _) (hQ9 ▸ ct_i (s := (N, M, P, A)) (l := l) (a := a) (b := b) (e := e) (s' := (N, M + 1, P, lcA M A a b)) (by unfold exS; rw [if_neg (by rw [e29_108]; decide), if_pos e29_108]) hN rfl hP (fun j h1 h2 h3 => by simp [upd, h2]))
    · by_cases e29_109 : (l : Int32) = 109
      · refine go_tp e29_109 ?_
        refine go_tableIn (off := 95) (tgt := 124) dX12_comesTold_29 (by decide) (by decide) (by decide) (by decide) ?_
        refine go_aload_n dX12_comesTold_124 rfl ?_
        refine go_iload_n dX12_comesTold_125 rfl ?_
        refine go_Vr [.int a] [] dX12_comesTold_126 vl_X12_165 ⟨by decide, by decide⟩ (e_X12_isPupil (F := F) (A := A) (L := L) (K := K) hq hn hN hN8) mo_obj hq (by omega) rfl rfl (Nat.le_of_ble_eq_true rfl) (Nat.le_of_ble_eq_true rfl) (Nat.le_of_ble_eq_true rfl) ?_
        refine go_if_eq dX12_comesTold_129 (fun c129 => ?_) (fun c129 => ?_)
        · have c129 := bz_f c129
          refine go_iconst (v := 0) dX12_comesTold_159 rfl ?_
          refine go_istore (ls' := [some (.ref q), some (.int (nI k)), some (.int a), some (.int b), some (.int 0)]) dX12_comesTold_160 ⟨by decide, rfl, rfl⟩ ?_
          refine go_iload dX12_comesTold_162 rfl ?_
          refine go_if_eq dX12_comesTold_164 (fun c164 => ?_) (fun c164 => ?_)
          · have c164n := (n0_eq (a := 0) (by omega)).mp c164
            refine go_iload dX12_comesTold_174 rfl ?_
            exact go_zret dX12_comesTold_176 rfl (Nat.le_of_ble_eq_true rfl) (Nat.le_of_ble_eq_true rfl) (rfl) (hQ9 ▸ ct_f (s := (N, M, P, A)) (l := l)   (e := e) (by unfold exS; rw [if_neg (by rw [e29_109]; decide), if_neg (by rw [e29_109]; decide), if_pos e29_109]; rw [if_neg (by simp [c129])]))
          · have c164n := mt (n0_eq (a := 0) (by omega)).mpr c164
            first | exact absurd c164n (by decide) | exact absurd (by decide) c164n | exact absurd rfl c164n | omega
        · have c129 := bz_t c129
          obtain ⟨ja, hja, rfl⟩ := okp_nI c129 (by omega)
          have kja : (nI ja).toNatClampNeg = ja := nI_clamp (by omega)
          refine go_iload_n dX12_comesTold_132 rfl ?_
          refine go_bipush (v := 9) dX12_comesTold_133 rfl ?_
          refine go_icmp_eq dX12_comesTold_135 (fun c135 => ?_) (fun c135 => ?_)
          · refine go_aload_n dX12_comesTold_146 rfl ?_
            refine go_iload_n dX12_comesTold_147 rfl ?_
            refine go_iload_n dX12_comesTold_148 rfl ?_
            refine go_Vr [.int (nI ja), .int b] [] dX12_comesTold_149 vl_X12_168 ⟨by decide, by decide⟩ (e_X12_mayMove (F := F) (A := A) (L := L) (K := K) hq hn hN hN8 (by omega)) mo_obj hq (by omega) rfl rfl (Nat.le_of_ble_eq_true rfl) (Nat.le_of_ble_eq_true rfl) (Nat.le_of_ble_eq_true rfl) ?_
            refine go_if_eq dX12_comesTold_152 (fun c152 => ?_) (fun c152 => ?_)
            · have c152 := bz_f c152
              refine go_iconst (v := 0) dX12_comesTold_159 rfl ?_
              refine go_istore (ls' := [some (.ref q), some (.int (nI k)), some (.int (nI ja)), some (.int b), some (.int 0)]) dX12_comesTold_160 ⟨by decide, rfl, rfl⟩ ?_
              refine go_iload dX12_comesTold_162 rfl ?_
              refine go_if_eq dX12_comesTold_164 (fun c164 => ?_) (fun c164 => ?_)
              · have c164n := (n0_eq (a := 0) (by omega)).mp c164
                refine go_iload dX12_comesTold_174 rfl ?_
                exact go_zret dX12_comesTold_176 rfl (Nat.le_of_ble_eq_true rfl) (Nat.le_of_ble_eq_true rfl) (rfl) (hQ9 ▸ ct_f (s := (N, M, P, A)) (l := l)   (e := e) (by first | (subst c135; unfold exS; rw [if_neg (by rw [e29_109]; decide), if_neg (by rw [e29_109]; decide), if_pos e29_109]; rw [if_neg (by simp [c129, kja, c152])]; done) | (unfold exS; rw [if_neg (by rw [e29_109]; decide), if_neg (by rw [e29_109]; decide), if_pos e29_109]; rw [if_neg (by simp [c129, kja, c135, c152])]; done)))
              · have c164n := mt (n0_eq (a := 0) (by omega)).mpr c164
                first | exact absurd c164n (by decide) | exact absurd (by decide) c164n | exact absurd rfl c164n | omega
            · have c152 := bz_t c152
              refine go_iconst (v := 1) dX12_comesTold_155 rfl ?_
              refine go_goto dX12_comesTold_156 ?_
              refine go_istore (ls' := [some (.ref q), some (.int (nI k)), some (.int (nI ja)), some (.int b), some (.int 1)]) dX12_comesTold_160 ⟨by decide, rfl, rfl⟩ ?_
              refine go_iload dX12_comesTold_162 rfl ?_
              refine go_if_eq dX12_comesTold_164 (fun c164 => ?_) (fun c164 => ?_)
              · have c164n := (n0_eq (a := 1) (by omega)).mp c164
                first | exact absurd c164n (by decide) | exact absurd (by decide) c164n | exact absurd rfl c164n | omega
              · have c164n := mt (n0_eq (a := 1) (by omega)).mpr c164
                refine go_aload_n dX12_comesTold_167 rfl ?_
                refine go_get dX12_comesTold_168 fl_X12_19_12 mo_obj hq (by omega) rfl ?_
                refine go_iload_n dX12_comesTold_171 rfl ?_
                refine go_iload_n dX12_comesTold_172 rfl ?_
                refine go_iast dX12_comesTold_173 (mo_arr 4 (by decide)) (by omega) (by omega) (vp_in_nI (n := ja) (by show ja < 8; omega) (by decide)) ?_
                refine go_mem (mo_setA 4 (by decide) _ _) ?_
                rw [nI_clamp (by omega)]
                refine go_iload dX12_comesTold_174 rfl ?_
                exact go_zret dX12_comesTold_176 rfl (Nat.le_of_ble_eq_true rfl) (Nat.le_of_ble_eq_true rfl) (rfl) (hQ9 ▸ ct_t (s := (N, M, P, A)) (l := l)   (e := e) (s' := (N, M, P, _)) (by first | (subst c135; unfold exS; rw [if_neg (by rw [e29_109]; decide), if_neg (by rw [e29_109]; decide), if_pos e29_109]; rw [if_pos (by simp [c129, kja, c152])]; first | (rw [kja]; done) | (rw [kja]; rfl); done) | (unfold exS; rw [if_neg (by rw [e29_109]; decide), if_neg (by rw [e29_109]; decide), if_pos e29_109]; rw [if_pos (by simp [c129, kja, c135, c152])]; first | (rw [kja]; done) | (rw [kja]; rfl); done)) hN hM hP (fun _ _ _ _ => rfl))
          · refine go_aload_n dX12_comesTold_138 rfl ?_
            refine go_iload_n dX12_comesTold_139 rfl ?_
            refine go_Vr [.int b] [] dX12_comesTold_140 vl_X12_151 ⟨by decide, by decide⟩ (e_X12_isLocker (F := F) (A := A) (L := L) (K := K) hq hn hM hM5) mo_obj hq (by omega) rfl rfl (Nat.le_of_ble_eq_true rfl) (Nat.le_of_ble_eq_true rfl) (Nat.le_of_ble_eq_true rfl) ?_
            refine go_if_eq dX12_comesTold_143 (fun c143 => ?_) (fun c143 => ?_)
            · have c143 := bz_f c143
              refine go_iconst (v := 0) dX12_comesTold_159 rfl ?_
              refine go_istore (ls' := [some (.ref q), some (.int (nI k)), some (.int (nI ja)), some (.int b), some (.int 0)]) dX12_comesTold_160 ⟨by decide, rfl, rfl⟩ ?_
              refine go_iload dX12_comesTold_162 rfl ?_
              refine go_if_eq dX12_comesTold_164 (fun c164 => ?_) (fun c164 => ?_)
              · have c164n := (n0_eq (a := 0) (by omega)).mp c164
                refine go_iload dX12_comesTold_174 rfl ?_
                exact go_zret dX12_comesTold_176 rfl (Nat.le_of_ble_eq_true rfl) (Nat.le_of_ble_eq_true rfl) (rfl) (hQ9 ▸ ct_f (s := (N, M, P, A)) (l := l)   (e := e) (by first | (subst c135; unfold exS; rw [if_neg (by rw [e29_109]; decide), if_neg (by rw [e29_109]; decide), if_pos e29_109]; rw [if_neg (by simp [c129, kja, c143])]; done) | (unfold exS; rw [if_neg (by rw [e29_109]; decide), if_neg (by rw [e29_109]; decide), if_pos e29_109]; rw [if_neg (by simp [c129, kja, c135, c143])]; done)))
              · have c164n := mt (n0_eq (a := 0) (by omega)).mpr c164
                first | exact absurd c164n (by decide) | exact absurd (by decide) c164n | exact absurd rfl c164n | omega
            · have c143 := bz_t c143
              obtain ⟨jb, hjb, rfl⟩ := okp_nI c143 (by omega)
              have kjb : (nI jb).toNatClampNeg = jb := nI_clamp (by omega)
              refine go_aload_n dX12_comesTold_146 rfl ?_
              refine go_iload_n dX12_comesTold_147 rfl ?_
              refine go_iload_n dX12_comesTold_148 rfl ?_
              refine go_Vr [.int (nI ja), .int (nI jb)] [] dX12_comesTold_149 vl_X12_168 ⟨by decide, by decide⟩ (e_X12_mayMove (F := F) (A := A) (L := L) (K := K) hq hn hN hN8 (by omega)) mo_obj hq (by omega) rfl rfl (Nat.le_of_ble_eq_true rfl) (Nat.le_of_ble_eq_true rfl) (Nat.le_of_ble_eq_true rfl) ?_
              refine go_if_eq dX12_comesTold_152 (fun c152 => ?_) (fun c152 => ?_)
              · have c152 := bz_f c152
                refine go_iconst (v := 0) dX12_comesTold_159 rfl ?_
                refine go_istore (ls' := [some (.ref q), some (.int (nI k)), some (.int (nI ja)), some (.int (nI jb)), some (.int 0)]) dX12_comesTold_160 ⟨by decide, rfl, rfl⟩ ?_
                refine go_iload dX12_comesTold_162 rfl ?_
                refine go_if_eq dX12_comesTold_164 (fun c164 => ?_) (fun c164 => ?_)
                · have c164n := (n0_eq (a := 0) (by omega)).mp c164
                  refine go_iload dX12_comesTold_174 rfl ?_
                  exact go_zret dX12_comesTold_176 rfl (Nat.le_of_ble_eq_true rfl) (Nat.le_of_ble_eq_true rfl) (rfl) (hQ9 ▸ ct_f (s := (N, M, P, A)) (l := l)   (e := e) (by first | (subst c135; unfold exS; rw [if_neg (by rw [e29_109]; decide), if_neg (by rw [e29_109]; decide), if_pos e29_109]; rw [if_neg (by simp [c129, kja, c143, kjb, c152])]; done) | (unfold exS; rw [if_neg (by rw [e29_109]; decide), if_neg (by rw [e29_109]; decide), if_pos e29_109]; rw [if_neg (by simp [c129, kja, c135, c143, kjb, c152])]; done)))
                · have c164n := mt (n0_eq (a := 0) (by omega)).mpr c164
                  first | exact absurd c164n (by decide) | exact absurd (by decide) c164n | exact absurd rfl c164n | omega
              · have c152 := bz_t c152
                refine go_iconst (v := 1) dX12_comesTold_155 rfl ?_
                refine go_goto dX12_comesTold_156 ?_
                refine go_istore (ls' := [some (.ref q), some (.int (nI k)), some (.int (nI ja)), some (.int (nI jb)), some (.int 1)]) dX12_comesTold_160 ⟨by decide, rfl, rfl⟩ ?_
                refine go_iload dX12_comesTold_162 rfl ?_
                refine go_if_eq dX12_comesTold_164 (fun c164 => ?_) (fun c164 => ?_)
                · have c164n := (n0_eq (a := 1) (by omega)).mp c164
                  first | exact absurd c164n (by decide) | exact absurd (by decide) c164n | exact absurd rfl c164n | omega
                · have c164n := mt (n0_eq (a := 1) (by omega)).mpr c164
                  refine go_aload_n dX12_comesTold_167 rfl ?_
                  refine go_get dX12_comesTold_168 fl_X12_19_12 mo_obj hq (by omega) rfl ?_
                  refine go_iload_n dX12_comesTold_171 rfl ?_
                  refine go_iload_n dX12_comesTold_172 rfl ?_
                  refine go_iast dX12_comesTold_173 (mo_arr 4 (by decide)) (by omega) (by omega) (vp_in_nI (n := ja) (by show ja < 8; omega) (by decide)) ?_
                  refine go_mem (mo_setA 4 (by decide) _ _) ?_
                  rw [nI_clamp (by omega)]
                  refine go_iload dX12_comesTold_174 rfl ?_
                  exact go_zret dX12_comesTold_176 rfl (Nat.le_of_ble_eq_true rfl) (Nat.le_of_ble_eq_true rfl) (rfl) (hQ9 ▸ ct_t (s := (N, M, P, A)) (l := l)   (e := e) (s' := (N, M, P, _)) (by first | (subst c135; unfold exS; rw [if_neg (by rw [e29_109]; decide), if_neg (by rw [e29_109]; decide), if_pos e29_109]; rw [if_pos (by simp [c129, kja, c143, kjb, c152])]; first | (rw [kja]; done) | (rw [kja]; rfl); done) | (unfold exS; rw [if_neg (by rw [e29_109]; decide), if_neg (by rw [e29_109]; decide), if_pos e29_109]; rw [if_pos (by simp [c129, kja, c135, c143, kjb, c152])]; first | (rw [kja]; done) | (rw [kja]; rfl); done)) hN hM hP (fun _ _ _ _ => rfl))
      · by_cases e29_112 : (l : Int32) = 112
        · refine go_tp e29_112 ?_
          refine go_tableIn (off := 71) (tgt := 100) dX12_comesTold_29 (by decide) (by decide) (by decide) (by decide) ?_
          refine go_aload_n dX12_comesTold_100 rfl ?_
          refine go_iload_n dX12_comesTold_101 rfl ?_
          refine go_iload_n dX12_comesTold_102 rfl ?_
          refine go_aload_n dX12_comesTold_103 rfl ?_
          refine go_get dX12_comesTold_104 fl_X12_56_12 mo_obj hq (by omega) rfl ?_
          refine go_iconst (v := 3) dX12_comesTold_107 rfl ?_
          refine go_iload_n dX12_comesTold_108 rfl ?_
          refine go_imul dX12_comesTold_109 ?_
          refine go_tp (z := nI (3 * k)) (pk_mul 3 k) ?_
          refine go_iconst (v := 2) dX12_comesTold_110 rfl ?_
          refine go_iadd dX12_comesTold_111 ?_
          refine go_tp (z := nI ((3 * k) + 2)) (nI_add (3 * k) 2) ?_
          refine go_iald dX12_comesTold_112 (mo_arr 16 (by decide)) (by omega) (by omega) (vp_in_nI (n := (3 * k) + 2) (by show (3 * k) + 2 < 153; omega) (by decide)) ?_
          refine go_tp (z := A 16 ((3 * k) + 2)) (by rw [nI_clamp (by omega)]) ?_
          refine go_tp (z := e) (ee) ?_
          refine go_V [.int a, .int b, .int e] [] dX12_comesTold_113 vl_X12_157 ⟨by decide, by decide⟩ (e_X12_pupilComes (F := F) (A := A) (L := L) (K := K) hq hn hN hN8) mo_obj hq (by omega) rfl rfl (Nat.le_of_ble_eq_true rfl) (Nat.le_of_ble_eq_true rfl) (Nat.le_of_ble_eq_true rfl) (fun r113 f113 n113 h113 => ?_)
          obtain ⟨rfl, rfl, hn113⟩ := h113
          subst n113
          exact go_zret dX12_comesTold_116 rfl (Nat.le_of_ble_eq_true rfl) (Nat.le_of_ble_eq_true rfl) (bz_n _) (hQ9 ▸ ct_i (s := (N, M, P, A)) (l := l) (a := a) (b := b) (e := e) (s' := (N + 1, M, P, pcA N A a b e)) (by unfold exS; rw [if_pos e29_112]) rfl hM hP (fun j h1 h2 h3 => by simp [upd, h1]))
        · by_cases e29_120 : (l : Int32) = 120
          · refine go_tp e29_120 ?_
            refine go_tableIn (off := 148) (tgt := 177) dX12_comesTold_29 (by decide) (by decide) (by decide) (by decide) ?_
            refine go_aload_n dX12_comesTold_177 rfl ?_
            refine go_iload_n dX12_comesTold_178 rfl ?_
            refine go_Vr [.int a] [] dX12_comesTold_179 vl_X12_165 ⟨by decide, by decide⟩ (e_X12_isPupil (F := F) (A := A) (L := L) (K := K) hq hn hN hN8) mo_obj hq (by omega) rfl rfl (Nat.le_of_ble_eq_true rfl) (Nat.le_of_ble_eq_true rfl) (Nat.le_of_ble_eq_true rfl) ?_
            refine go_if_eq dX12_comesTold_182 (fun c182 => ?_) (fun c182 => ?_)
            · have c182 := bz_f c182
              refine go_iconst (v := 0) dX12_comesTold_202 rfl ?_
              refine go_istore (ls' := [some (.ref q), some (.int (nI k)), some (.int a), some (.int b), some (.int 0)]) dX12_comesTold_203 ⟨by decide, rfl, rfl⟩ ?_
              refine go_iload dX12_comesTold_205 rfl ?_
              refine go_if_eq dX12_comesTold_207 (fun c207 => ?_) (fun c207 => ?_)
              · have c207n := (n0_eq (a := 0) (by omega)).mp c207
                refine go_iload dX12_comesTold_216 rfl ?_
                exact go_zret dX12_comesTold_218 rfl (Nat.le_of_ble_eq_true rfl) (Nat.le_of_ble_eq_true rfl) (rfl) (hQ9 ▸ ct_f (s := (N, M, P, A)) (l := l)   (e := e) (by unfold exS; rw [if_neg (by rw [e29_120]; decide), if_neg (by rw [e29_120]; decide), if_neg (by rw [e29_120]; decide), if_pos e29_120]; rw [if_neg (by simp [c182])]))
              · have c207n := mt (n0_eq (a := 0) (by omega)).mpr c207
                first | exact absurd c207n (by decide) | exact absurd (by decide) c207n | exact absurd rfl c207n | omega
            · have c182 := bz_t c182
              obtain ⟨ja, hja, rfl⟩ := okp_nI c182 (by omega)
              have kja : (nI ja).toNatClampNeg = ja := nI_clamp (by omega)
              refine go_aload_n dX12_comesTold_185 rfl ?_
              refine go_iload_n dX12_comesTold_186 rfl ?_
              refine go_Vr [.int b] [] dX12_comesTold_187 vl_X12_165 ⟨by decide, by decide⟩ (e_X12_isPupil (F := F) (A := A) (L := L) (K := K) hq hn hN hN8) mo_obj hq (by omega) rfl rfl (Nat.le_of_ble_eq_true rfl) (Nat.le_of_ble_eq_true rfl) (Nat.le_of_ble_eq_true rfl) ?_
              refine go_if_eq dX12_comesTold_190 (fun c190 => ?_) (fun c190 => ?_)
              · have c190 := bz_f c190
                refine go_iconst (v := 0) dX12_comesTold_202 rfl ?_
                refine go_istore (ls' := [some (.ref q), some (.int (nI k)), some (.int (nI ja)), some (.int b), some (.int 0)]) dX12_comesTold_203 ⟨by decide, rfl, rfl⟩ ?_
                refine go_iload dX12_comesTold_205 rfl ?_
                refine go_if_eq dX12_comesTold_207 (fun c207 => ?_) (fun c207 => ?_)
                · have c207n := (n0_eq (a := 0) (by omega)).mp c207
                  refine go_iload dX12_comesTold_216 rfl ?_
                  exact go_zret dX12_comesTold_218 rfl (Nat.le_of_ble_eq_true rfl) (Nat.le_of_ble_eq_true rfl) (rfl) (hQ9 ▸ ct_f (s := (N, M, P, A)) (l := l)   (e := e) (by unfold exS; rw [if_neg (by rw [e29_120]; decide), if_neg (by rw [e29_120]; decide), if_neg (by rw [e29_120]; decide), if_pos e29_120]; rw [if_neg (by simp [c182, kja, c190])]))
                · have c207n := mt (n0_eq (a := 0) (by omega)).mpr c207
                  first | exact absurd c207n (by decide) | exact absurd (by decide) c207n | exact absurd rfl c207n | omega
              · have c190 := bz_t c190
                obtain ⟨jb, hjb, rfl⟩ := okp_nI c190 (by omega)
                have kjb : (nI jb).toNatClampNeg = jb := nI_clamp (by omega)
                refine go_iload_n dX12_comesTold_193 rfl ?_
                refine go_iload_n dX12_comesTold_194 rfl ?_
                refine go_icmp_eq dX12_comesTold_195 (fun c195 => ?_) (fun c195 => ?_)
                · have c195n := (nI_eq (a := ja) (b := jb) (by omega) (by omega)).mp c195
                  refine go_iconst (v := 0) dX12_comesTold_202 rfl ?_
                  refine go_istore (ls' := [some (.ref q), some (.int (nI k)), some (.int (nI ja)), some (.int (nI jb)), some (.int 0)]) dX12_comesTold_203 ⟨by decide, rfl, rfl⟩ ?_
                  refine go_iload dX12_comesTold_205 rfl ?_
                  refine go_if_eq dX12_comesTold_207 (fun c207 => ?_) (fun c207 => ?_)
                  · have c207n := (n0_eq (a := 0) (by omega)).mp c207
                    refine go_iload dX12_comesTold_216 rfl ?_
                    exact go_zret dX12_comesTold_218 rfl (Nat.le_of_ble_eq_true rfl) (Nat.le_of_ble_eq_true rfl) (rfl) (hQ9 ▸ ct_f (s := (N, M, P, A)) (l := l)   (e := e) (by unfold exS; rw [if_neg (by rw [e29_120]; decide), if_neg (by rw [e29_120]; decide), if_neg (by rw [e29_120]; decide), if_pos e29_120]; rw [if_neg (by simp [c182, kja, c190, kjb, c195])]))
                  · have c207n := mt (n0_eq (a := 0) (by omega)).mpr c207
                    first | exact absurd c207n (by decide) | exact absurd (by decide) c207n | exact absurd rfl c207n | omega
                · have c195n := mt (nI_eq (a := ja) (b := jb) (by omega) (by omega)).mpr c195
                  refine go_iconst (v := 1) dX12_comesTold_198 rfl ?_
                  refine go_goto dX12_comesTold_199 ?_
                  refine go_istore (ls' := [some (.ref q), some (.int (nI k)), some (.int (nI ja)), some (.int (nI jb)), some (.int 1)]) dX12_comesTold_203 ⟨by decide, rfl, rfl⟩ ?_
                  refine go_iload dX12_comesTold_205 rfl ?_
                  refine go_if_eq dX12_comesTold_207 (fun c207 => ?_) (fun c207 => ?_)
                  · have c207n := (n0_eq (a := 1) (by omega)).mp c207
                    first | exact absurd c207n (by decide) | exact absurd (by decide) c207n | exact absurd rfl c207n | omega
                  · have c207n := mt (n0_eq (a := 1) (by omega)).mpr c207
                    refine go_aload_n dX12_comesTold_210 rfl ?_
                    refine go_iload_n dX12_comesTold_211 rfl ?_
                    refine go_iload_n dX12_comesTold_212 rfl ?_
                    refine go_V [.int (nI ja), .int (nI jb)] [] dX12_comesTold_213 vl_X12_171 ⟨by decide, by decide⟩ (e_X12_swapPlaces (F := F) (A := A) (L := L) (K := K) hq hn (by omega) (by omega)) mo_obj hq (by omega) rfl rfl (Nat.le_of_ble_eq_true rfl) (Nat.le_of_ble_eq_true rfl) (Nat.le_of_ble_eq_true rfl) (fun r213 f213 n213 h213 => ?_)
                    obtain ⟨rfl, rfl, hn213⟩ := h213
                    subst n213
                    refine go_iload dX12_comesTold_216 rfl ?_
                    exact go_zret dX12_comesTold_218 rfl (Nat.le_of_ble_eq_true rfl) (Nat.le_of_ble_eq_true rfl) (rfl) (hQ9 ▸ ct_t (s := (N, M, P, A)) (l := l)   (e := e) (s' := (N, M, P, _)) (by unfold exS; rw [if_neg (by rw [e29_120]; decide), if_neg (by rw [e29_120]; decide), if_neg (by rw [e29_120]; decide), if_pos e29_120]; rw [if_pos (by simp [c182, kja, c190, kjb, c195, c195n])]; first | (rw [kja, kjb]; done) | (rw [kja, kjb]; rfl)) hN hM hP (fun _ _ _ _ => rfl))
          · refine go_tableDef dX12_comesTold_29 (tgt := 261) (ds := [110, 111, 113, 114, 115, 116, 117, 118, 119]) (by have := i32_ne (v := 107) (k := 107) rfl e29_107; have := i32_ne (v := 108) (k := 108) rfl e29_108; have := i32_ne (v := 109) (k := 109) rfl e29_109; have := i32_ne (v := 112) (k := 112) rfl e29_112; have := i32_ne (v := 120) (k := 120) rfl e29_120; simp; omega) (by decide) (by decide) ?_
            refine go_aload_n dX12_comesTold_261 rfl ?_
            refine go_iload_n dX12_comesTold_262 rfl ?_
            refine go_V [.int a] [] dX12_comesTold_263 vl_X12_175 ⟨by decide, by decide⟩ (e_X12_makesKeys (F := F) (A := A) (L := L) (K := K) hq hn hM hM5 hP) mo_obj hq (by omega) rfl rfl (Nat.le_of_ble_eq_true rfl) (Nat.le_of_ble_eq_true rfl) (Nat.le_of_ble_eq_true rfl) (fun r263 f263 n263 h263 => ?_)
            obtain ⟨rfl, rfl, hn263⟩ := h263
            subst n263
            exact go_zret dX12_comesTold_266 rfl (Nat.le_of_ble_eq_true rfl) (Nat.le_of_ble_eq_true rfl) (bz_n _) (hQ9 ▸ ct_i (s := (N, M, P, A)) (l := l) (a := a) (b := b) (e := e) (s' := (N, M, P + 5, mkA A a)) (by unfold exS; rw [if_neg e29_112, if_neg e29_108, if_neg e29_109, if_neg e29_120, if_neg e29_107]) hN hM rfl (fun j h1 h2 h3 => by simp [upd, h3]))
end M17
