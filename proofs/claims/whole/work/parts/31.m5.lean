section M5
variable {G : GX} {m0 f : Mem} {q n N M : Nat} {F : Nat → Int32} {A : Nat → Nat → Int32} {L : Nat → Nat → Int64} {K : Option Nat}
set_option maxHeartbeats 4000000 in
set_option maxRecDepth 100000 in
theorem e_X12_keep (hq : G.2.1 ≤ q) (hn : q + 25 ≤ n) {d what k fg : Int32} : Ev G mX12_keep 3 0 0 [.ref q, .int d, .int what, .int k, .int fg] (mo G m0 q F A L K) n (fun r f1 n1 => r = some (.int (if kpC d what k fg then 0 else -1)) ∧ f1 = (mo G m0 q (upd F 16 0) (kpA A d what k fg) L K) ∧ n1 = n) := by
  generalize hQ9 : (fun r f1 n1 => r = some (.int (if kpC d what k fg then 0 else -1)) ∧ f1 = (mo G m0 q (upd F 16 0) (kpA A d what k fg) L K) ∧ n1 = n : RQ) = Q9
  refine ev_of (by decide) (Nat.le_of_ble_eq_true rfl) (ls := [some (.ref q), some (.int d), some (.int what), some (.int k), some (.int fg)]) rfl (fun hb => ?_)
  refine go_aload_n dX12_keep_0 rfl ?_
  refine go_iconst (v := 0) dX12_keep_1 rfl ?_
  refine go_put dX12_keep_2 fp_X12_83_12 (Or.inr (fun _ _ _ h => by cases h; rfl)) mo_obj hq (by omega) (rfl) rfl (Nat.le_of_ble_eq_true rfl) ?_
  refine go_mem (mo_setO (F' := (upd F 16 (0))) (K' := K) rfl) ?_
  refine go_iload_n dX12_keep_5 rfl ?_
  refine go_i2l dX12_keep_6 ?_
  refine go_lconst (v := 0) dX12_keep_7 rfl ?_
  refine go_ldc2 (v := 7) dX12_keep_8 wm_1213 ?_
  refine go_Sr [.long (d).toInt64, .long 0, .long 7] [] dX12_keep_11 sl_X12_90 ⟨by decide, by decide⟩ (e_X12_lies) rfl rfl (Nat.le_of_ble_eq_true rfl) (Nat.le_of_ble_eq_true rfl) (Nat.le_of_ble_eq_true rfl) ?_
  refine go_tp (z := if okr d 0 7 then 1 else 0) (ite_c (li_okr rfl rfl)) ?_
  refine go_if_eq dX12_keep_14 (fun c14 => ?_) (fun c14 => ?_)
  · have c14 := bz_f c14
    refine go_iconst (v := (-1)) dX12_keep_57 rfl ?_
    exact go_iret dX12_keep_58 rfl (Nat.le_of_ble_eq_true rfl) (Nat.le_of_ble_eq_true rfl) (hQ9 ▸ ⟨rd_i (a := (-1)) (by simp [kpC, kpA, p1m, c14]), by simp [kpC, kpA, c14], rfl⟩)
  · have c14 := bz_t c14
    obtain ⟨jd, hjd, rfl⟩ := okr_nI (k := 7) rfl (by omega) c14
    have kjd : (nI jd).toNatClampNeg = jd := nI_clamp (by omega)
    refine go_iload_n dX12_keep_17 rfl ?_
    refine go_i2l dX12_keep_18 ?_
    refine go_lconst (v := 0) dX12_keep_19 rfl ?_
    refine go_lconst (v := 1) dX12_keep_20 rfl ?_
    refine go_Sr [.long (what).toInt64, .long 0, .long 1] [] dX12_keep_21 sl_X12_90 ⟨by decide, by decide⟩ (e_X12_lies) rfl rfl (Nat.le_of_ble_eq_true rfl) (Nat.le_of_ble_eq_true rfl) (Nat.le_of_ble_eq_true rfl) ?_
    refine go_tp (z := if okr what 0 1 then 1 else 0) (ite_c (li_okr rfl rfl)) ?_
    refine go_if_eq dX12_keep_24 (fun c24 => ?_) (fun c24 => ?_)
    · have c24 := bz_f c24
      refine go_iconst (v := (-1)) dX12_keep_57 rfl ?_
      exact go_iret dX12_keep_58 rfl (Nat.le_of_ble_eq_true rfl) (Nat.le_of_ble_eq_true rfl) (hQ9 ▸ ⟨rd_i (a := (-1)) (by simp [kpC, kpA, p1m, c14, kjd, c24]), by simp [kpC, kpA, c14, kjd, c24], rfl⟩)
    · have c24 := bz_t c24
      refine go_iload_n dX12_keep_27 rfl ?_
      refine go_iconst (v := 1) dX12_keep_28 rfl ?_
      refine go_icmp_ne dX12_keep_29 (fun c29 => ?_) (fun c29 => ?_)
      · refine go_aload_n dX12_keep_59 rfl ?_
        refine go_get dX12_keep_60 fl_X12_31_12 mo_obj hq (by omega) rfl ?_
        refine go_iload_n dX12_keep_63 rfl ?_
        refine go_iload_n dX12_keep_64 rfl ?_
        refine go_iast dX12_keep_65 (mo_arr 8 (by decide)) (by omega) (by omega) (vp_in_nI (n := jd) (by show jd < 8; omega) (by decide)) ?_
        refine go_mem (mo_setA 8 (by decide) _ _) ?_
        rw [nI_clamp (by omega)]
        refine go_aload_n dX12_keep_66 rfl ?_
        refine go_get dX12_keep_67 fl_X12_34_12 mo_obj hq (by omega) rfl ?_
        refine go_iload_n dX12_keep_70 rfl ?_
        refine go_iload_n dX12_keep_71 rfl ?_
        refine go_iconst (v := 1) dX12_keep_72 rfl ?_
        refine go_icmp_ne dX12_keep_73 (fun c73 => ?_) (fun c73 => ?_)
        · refine go_iconst (v := 0) dX12_keep_80 rfl ?_
          refine go_iast dX12_keep_81 (mo_arr 9 (by decide)) (by omega) (by omega) (vp_in_nI (n := jd) (by show jd < 8; omega) (by decide)) ?_
          refine go_mem (mo_setA 9 (by decide) _ _) ?_
          rw [nI_clamp (by omega)]
          refine go_aload_n dX12_keep_82 rfl ?_
          refine go_get dX12_keep_83 fl_X12_37_12 mo_obj hq (by omega) rfl ?_
          refine go_iload_n dX12_keep_86 rfl ?_
          refine go_iload_n dX12_keep_87 rfl ?_
          refine go_iconst (v := 1) dX12_keep_88 rfl ?_
          refine go_icmp_ne dX12_keep_89 (fun c89 => ?_) (fun c89 => ?_)
          · refine go_iconst (v := 0) dX12_keep_97 rfl ?_
            refine go_iast dX12_keep_98 (mo_arr 10 (by decide)) (by omega) (by omega) (vp_in_nI (n := jd) (by show jd < 8; omega) (by decide)) ?_
            refine go_mem (mo_setA 10 (by decide) _ _) ?_
            rw [nI_clamp (by omega)]
            refine go_iconst (v := 0) dX12_keep_99 rfl ?_
            exact go_iret dX12_keep_100 rfl (Nat.le_of_ble_eq_true rfl) (Nat.le_of_ble_eq_true rfl) (hQ9 ▸ ⟨rd_i (a := 0) (by simp [kpC, kpA, p1m, c14, kjd, c24, c29]), by simp [kpC, kpA, c14, kjd, c24, c29], rfl⟩)
          · exact absurd c89 c29
        · exact absurd c73 c29
      · subst c29
        refine go_iload_n dX12_keep_32 rfl ?_
        refine go_i2l dX12_keep_33 ?_
        refine go_lconst (v := 0) dX12_keep_34 rfl ?_
        refine go_ldc2 (v := 7) dX12_keep_35 wm_1213 ?_
        refine go_Sr [.long (k).toInt64, .long 0, .long 7] [] dX12_keep_38 sl_X12_90 ⟨by decide, by decide⟩ (e_X12_lies) rfl rfl (Nat.le_of_ble_eq_true rfl) (Nat.le_of_ble_eq_true rfl) (Nat.le_of_ble_eq_true rfl) ?_
        refine go_tp (z := if okr k 0 7 then 1 else 0) (ite_c (li_okr rfl rfl)) ?_
        refine go_if_eq dX12_keep_41 (fun c41 => ?_) (fun c41 => ?_)
        · have c41 := bz_f c41
          refine go_iconst (v := (-1)) dX12_keep_57 rfl ?_
          exact go_iret dX12_keep_58 rfl (Nat.le_of_ble_eq_true rfl) (Nat.le_of_ble_eq_true rfl) (hQ9 ▸ ⟨rd_i (a := (-1)) (by simp [kpC, kpA, p1m, c14, kjd, c24, c41]), by simp [kpC, kpA, c14, kjd, c24, c41], rfl⟩)
        · have c41 := bz_t c41
          refine go_iload dX12_keep_44 rfl ?_
          refine go_i2l dX12_keep_46 ?_
          refine go_lconst (v := 0) dX12_keep_47 rfl ?_
          refine go_ldc2 (v := 9) dX12_keep_48 wm_1328 ?_
          refine go_Sr [.long (fg).toInt64, .long 0, .long 9] [] dX12_keep_51 sl_X12_90 ⟨by decide, by decide⟩ (e_X12_lies) rfl rfl (Nat.le_of_ble_eq_true rfl) (Nat.le_of_ble_eq_true rfl) (Nat.le_of_ble_eq_true rfl) ?_
          refine go_tp (z := if okr fg 0 9 then 1 else 0) (ite_c (li_okr rfl rfl)) ?_
          refine go_if_ne dX12_keep_54 (fun c54 => ?_) (fun c54 => ?_)
          · have c54 := bz_t c54
            refine go_aload_n dX12_keep_59 rfl ?_
            refine go_get dX12_keep_60 fl_X12_31_12 mo_obj hq (by omega) rfl ?_
            refine go_iload_n dX12_keep_63 rfl ?_
            refine go_iload_n dX12_keep_64 rfl ?_
            refine go_iast dX12_keep_65 (mo_arr 8 (by decide)) (by omega) (by omega) (vp_in_nI (n := jd) (by show jd < 8; omega) (by decide)) ?_
            refine go_mem (mo_setA 8 (by decide) _ _) ?_
            rw [nI_clamp (by omega)]
            refine go_aload_n dX12_keep_66 rfl ?_
            refine go_get dX12_keep_67 fl_X12_34_12 mo_obj hq (by omega) rfl ?_
            refine go_iload_n dX12_keep_70 rfl ?_
            refine go_iload_n dX12_keep_71 rfl ?_
            refine go_iconst (v := 1) dX12_keep_72 rfl ?_
            refine go_icmp_ne dX12_keep_73 (fun c73 => ?_) (fun c73 => ?_)
            · have c73n := mt (nI_eq (a := 1) (b := 1) (by omega) (by omega)).mpr c73
              first | exact absurd c73n (by decide) | exact absurd (by decide) c73n | exact absurd rfl c73n | omega
            · have c73n := (nI_eq (a := 1) (b := 1) (by omega) (by omega)).mp c73
              refine go_iload_n dX12_keep_76 rfl ?_
              refine go_goto dX12_keep_77 ?_
              refine go_iast dX12_keep_81 (mo_arr 9 (by decide)) (by omega) (by omega) (vp_in_nI (n := jd) (by show jd < 8; omega) (by decide)) ?_
              refine go_mem (mo_setA 9 (by decide) _ _) ?_
              rw [nI_clamp (by omega)]
              refine go_aload_n dX12_keep_82 rfl ?_
              refine go_get dX12_keep_83 fl_X12_37_12 mo_obj hq (by omega) rfl ?_
              refine go_iload_n dX12_keep_86 rfl ?_
              refine go_iload_n dX12_keep_87 rfl ?_
              refine go_iconst (v := 1) dX12_keep_88 rfl ?_
              refine go_icmp_ne dX12_keep_89 (fun c89 => ?_) (fun c89 => ?_)
              · have c89n := mt (nI_eq (a := 1) (b := 1) (by omega) (by omega)).mpr c89
                first | exact absurd c89n (by decide) | exact absurd (by decide) c89n | exact absurd rfl c89n | omega
              · have c89n := (nI_eq (a := 1) (b := 1) (by omega) (by omega)).mp c89
                refine go_iload dX12_keep_92 rfl ?_
                refine go_goto dX12_keep_94 ?_
                refine go_iast dX12_keep_98 (mo_arr 10 (by decide)) (by omega) (by omega) (vp_in_nI (n := jd) (by show jd < 8; omega) (by decide)) ?_
                refine go_mem (mo_setA 10 (by decide) _ _) ?_
                rw [nI_clamp (by omega)]
                refine go_iconst (v := 0) dX12_keep_99 rfl ?_
                exact go_iret dX12_keep_100 rfl (Nat.le_of_ble_eq_true rfl) (Nat.le_of_ble_eq_true rfl) (hQ9 ▸ ⟨rd_i (a := 0) (by simp [kpC, kpA, p1m, c14, kjd, c24, c41, c54]), by simp [kpC, kpA, c14, kjd, c24, c41, c54], rfl⟩)
          · have c54 := bz_f c54
            refine go_iconst (v := (-1)) dX12_keep_57 rfl ?_
            exact go_iret dX12_keep_58 rfl (Nat.le_of_ble_eq_true rfl) (Nat.le_of_ble_eq_true rfl) (hQ9 ▸ ⟨rd_i (a := (-1)) (by simp [kpC, kpA, p1m, c14, kjd, c24, c41, c54]), by simp [kpC, kpA, c14, kjd, c24, c41, c54], rfl⟩)
set_option maxHeartbeats 4000000 in
set_option maxRecDepth 100000 in
theorem e_X12_row (hq : G.2.1 ≤ q) (hn : q + 25 ≤ n) {d s x : Int32} : Ev G mX12_row 3 0 0 [.ref q, .int d, .int s, .int x] (mo G m0 q F A L K) n (fun r f1 n1 => r = some (.int (rwR d s x)) ∧ f1 = (mo G m0 q (upd F 16 0) (rwA A d s x) (rwL L d s x) K) ∧ n1 = n) := by
  generalize hQ9 : (fun r f1 n1 => r = some (.int (rwR d s x)) ∧ f1 = (mo G m0 q (upd F 16 0) (rwA A d s x) (rwL L d s x) K) ∧ n1 = n : RQ) = Q9
  refine ev_of (by decide) (Nat.le_of_ble_eq_true rfl) (ls := [some (.ref q), some (.int d), some (.int s), some (.int x), none]) rfl (fun hb => ?_)
  refine go_aload_n dX12_row_0 rfl ?_
  refine go_iconst (v := 0) dX12_row_1 rfl ?_
  refine go_put dX12_row_2 fp_X12_83_12 (Or.inr (fun _ _ _ h => by cases h; rfl)) mo_obj hq (by omega) (rfl) rfl (Nat.le_of_ble_eq_true rfl) ?_
  refine go_mem (mo_setO (F' := (upd F 16 (0))) (K' := K) rfl) ?_
  refine go_iload_n dX12_row_5 rfl ?_
  refine go_i2l dX12_row_6 ?_
  refine go_lconst (v := 0) dX12_row_7 rfl ?_
  refine go_ldc2 (v := 7) dX12_row_8 wm_1213 ?_
  refine go_Sr [.long (d).toInt64, .long 0, .long 7] [] dX12_row_11 sl_X12_90 ⟨by decide, by decide⟩ (e_X12_lies) rfl rfl (Nat.le_of_ble_eq_true rfl) (Nat.le_of_ble_eq_true rfl) (Nat.le_of_ble_eq_true rfl) ?_
  refine go_tp (z := if okr d 0 7 then 1 else 0) (ite_c (li_okr rfl rfl)) ?_
  refine go_if_eq dX12_row_14 (fun c14 => ?_) (fun c14 => ?_)
  · have c14 := bz_f c14
    refine go_iconst (v := (-1)) dX12_row_35 rfl ?_
    exact go_iret dX12_row_36 rfl (Nat.le_of_ble_eq_true rfl) (Nat.le_of_ble_eq_true rfl) (hQ9 ▸ ⟨rd_i (a := (-1)) (by simp [rwR, rwC, c14]), by simp [rwA, rwL, rwC, c14], rfl⟩)
  · have c14 := bz_t c14
    obtain ⟨jd, hjd, rfl⟩ := okr_nI (k := 7) rfl (by omega) c14
    have kjd : (nI jd).toNatClampNeg = jd := nI_clamp (by omega)
    refine go_iload_n dX12_row_17 rfl ?_
    refine go_i2l dX12_row_18 ?_
    refine go_lconst (v := 0) dX12_row_19 rfl ?_
    refine go_ldc2 (v := 2) dX12_row_20 wm_1534 ?_
    refine go_Sr [.long (s).toInt64, .long 0, .long 2] [] dX12_row_23 sl_X12_90 ⟨by decide, by decide⟩ (e_X12_lies) rfl rfl (Nat.le_of_ble_eq_true rfl) (Nat.le_of_ble_eq_true rfl) (Nat.le_of_ble_eq_true rfl) ?_
    refine go_tp (z := if okr s 0 2 then 1 else 0) (ite_c (li_okr rfl rfl)) ?_
    refine go_if_eq dX12_row_26 (fun c26 => ?_) (fun c26 => ?_)
    · have c26 := bz_f c26
      refine go_iconst (v := (-1)) dX12_row_35 rfl ?_
      exact go_iret dX12_row_36 rfl (Nat.le_of_ble_eq_true rfl) (Nat.le_of_ble_eq_true rfl) (hQ9 ▸ ⟨rd_i (a := (-1)) (by simp [rwR, rwC, c14, kjd, c26]), by simp [rwA, rwL, rwC, c14, kjd, c26], rfl⟩)
    · have c26 := bz_t c26
      refine go_iload_n dX12_row_29 rfl ?_
      refine go_bipush (v := 100) dX12_row_30 rfl ?_
      refine go_icmp_le dX12_row_32 (fun c32 => ?_) (fun c32 => ?_)
      · have c32 := Int32.not_lt.mpr c32
        refine go_iload_n dX12_row_37 rfl ?_
        refine go_if_ge dX12_row_38 (fun c38 => ?_) (fun c38 => ?_)
        · have c38 := Int32.not_lt.mpr c38
          refine go_aload_n dX12_row_44 rfl ?_
          refine go_get dX12_row_45 fl_X12_31_12 mo_obj hq (by omega) rfl ?_
          refine go_iload_n dX12_row_48 rfl ?_
          refine go_iconst (v := 2) dX12_row_49 rfl ?_
          refine go_iast dX12_row_50 (mo_arr 8 (by decide)) (by omega) (by omega) (vp_in_nI (n := jd) (by show jd < 8; omega) (by decide)) ?_
          refine go_mem (mo_setA 8 (by decide) _ _) ?_
          rw [nI_clamp (by omega)]
          refine go_aload_n dX12_row_51 rfl ?_
          refine go_get dX12_row_52 fl_X12_40_12 mo_obj hq (by omega) rfl ?_
          refine go_iload_n dX12_row_55 rfl ?_
          refine go_iload_n dX12_row_56 rfl ?_
          refine go_iast dX12_row_57 (mo_arr 11 (by decide)) (by omega) (by omega) (vp_in_nI (n := jd) (by show jd < 8; omega) (by decide)) ?_
          refine go_mem (mo_setA 11 (by decide) _ _) ?_
          rw [nI_clamp (by omega)]
          refine go_aload_n dX12_row_58 rfl ?_
          refine go_get dX12_row_59 fl_X12_43_12 mo_obj hq (by omega) rfl ?_
          refine go_iload_n dX12_row_62 rfl ?_
          refine go_iload_n dX12_row_63 rfl ?_
          refine go_iast dX12_row_64 (mo_arr 12 (by decide)) (by omega) (by omega) (vp_in_nI (n := jd) (by show jd < 8; omega) (by decide)) ?_
          refine go_mem (mo_setA 12 (by decide) _ _) ?_
          rw [nI_clamp (by omega)]
          refine go_iconst (v := 0) dX12_row_65 rfl ?_
          refine go_istore (ls' := [some (.ref q), some (.int (nI jd)), some (.int s), some (.int x), some (.int 0)]) dX12_row_66 ⟨by decide, rfl, rfl⟩ ?_
          have lp0 : ∀ (μ_lp0 : Nat) (i : Nat) (hi : i ≤ 100) (hmi : 100 + 1 ≤ i + μ_lp0), Go G mX12_row 3 0 0 Q9 0 0 68 [some (.ref q), some (.int (nI jd)), some (.int s), some (.int x), some (.int (nI i))] [] (mo G m0 q (upd F 16 (0)) (upA (upA (upA A 8 jd (2)) 11 jd (s)) 12 jd (x)) (zrL L jd i) K) n := by
            intro μ_lp0
            induction μ_lp0 with
            | zero =>
              intro i hi hmi
              exact absurd hmi (by omega)
            | succ μ_lp0 ih_lp0 =>
              intro i hi hmi
              refine go_iload dX12_row_68 rfl ?_
              refine go_bipush (v := 100) dX12_row_70 rfl ?_
              refine go_icmp_ge dX12_row_72 (fun c72 => ?_) (fun c72 => ?_)
              · have c72n := (nI_leI (a := 100) (b := i) (by omega) (by omega)).mp c72
                have c72n := Nat.not_lt.mpr c72n
                have c72 := Int32.not_lt.mpr c72
                refine go_iconst (v := 0) dX12_row_94 rfl ?_
                exact go_iret dX12_row_95 rfl (Nat.le_of_ble_eq_true rfl) (Nat.le_of_ble_eq_true rfl) (hQ9 ▸ ⟨rd_i (a := 0) (by simp [rwR, rwC, c14, kjd, c26, c32, c38, c72, c72n]), by rw [show i = 100 by omega]; simp [rwA, rwL, rwC, c14, kjd, c26, c32, c38, c72, c72n], rfl⟩)
              · have c72n := mt (nI_leI (a := 100) (b := i) (by omega) (by omega)).mpr c72
                have c72n := Nat.lt_of_not_le c72n
                have c72 := Int32.not_le.mp c72
                refine go_aload_n dX12_row_75 rfl ?_
                refine go_get dX12_row_76 fl_X12_46_12 mo_obj hq (by omega) rfl ?_
                refine go_bipush (v := 100) dX12_row_79 rfl ?_
                refine go_iload_n dX12_row_81 rfl ?_
                refine go_imul dX12_row_82 ?_
                refine go_tp (z := nI (100 * jd)) (pk_mul 100 jd) ?_
                refine go_iload dX12_row_83 rfl ?_
                refine go_iadd dX12_row_85 ?_
                refine go_tp (z := nI ((100 * jd) + i)) (nI_add (100 * jd) i) ?_
                refine go_lconst (v := 0) dX12_row_86 rfl ?_
                refine go_last dX12_row_87 (mo_lrr 13 (by decide)) (by omega) (by omega) (vp_in_nI (n := (100 * jd) + i) (by show (100 * jd) + i < 800; omega) (by decide)) ?_
                refine go_mem (mo_setL 13 (by decide) _ _) ?_
                rw [nI_clamp (by omega)]
                refine go_iinc (v := nI (i + 1)) (ls' := [some (.ref q), some (.int (nI jd)), some (.int s), some (.int x), some (.int (nI (i + 1)))]) dX12_row_88 rfl (nI_1 (i)) ⟨by decide, rfl, rfl⟩ ?_
                refine go_goto dX12_row_91 ?_
                refine go_mem (f' := (mo G m0 q (upd F 16 (0)) (upA (upA (upA A 8 jd (2)) 11 jd (s)) 12 jd (x)) (zrL L jd (i + 1)) K)) (by rw [zrL_s]) ?_
                exact ih_lp0 (i + 1)  (by omega) (by omega) 
          refine go_mem (f' := (mo G m0 q (upd F 16 (0)) (upA (upA (upA A 8 jd (2)) 11 jd (s)) 12 jd (x)) (zrL L jd 0) K)) (by rw [zrL_0]) ?_
          exact lp0 (100 + 1) 0  (Nat.zero_le _) (by omega) 
        · have c38 := Int32.not_le.mp c38
          refine go_bipush (v := (-14)) dX12_row_41 rfl ?_
          exact go_iret dX12_row_43 rfl (Nat.le_of_ble_eq_true rfl) (Nat.le_of_ble_eq_true rfl) (hQ9 ▸ ⟨rd_i (a := (-14)) (by simp [rwR, rwC, c14, kjd, c26, c32, c38]), by simp [rwA, rwL, rwC, c14, kjd, c26, c32, c38], rfl⟩)
      · have c32 := Int32.not_le.mp c32
        refine go_iconst (v := (-1)) dX12_row_35 rfl ?_
        exact go_iret dX12_row_36 rfl (Nat.le_of_ble_eq_true rfl) (Nat.le_of_ble_eq_true rfl) (hQ9 ▸ ⟨rd_i (a := (-1)) (by simp [rwR, rwC, c14, kjd, c26, c32]), by simp [rwA, rwL, rwC, c14, kjd, c26, c32], rfl⟩)
set_option maxHeartbeats 4000000 in
set_option maxRecDepth 100000 in
theorem e_X12_put (hq : G.2.1 ≤ q) (hn : q + 25 ≤ n) (hrl : rlOK A) {d i v : Int32} : Ev G mX12_put 3 0 0 [.ref q, .int d, .int i, .int v] (mo G m0 q F A L K) n (fun r f1 n1 => r = some (.int (ptR A d i)) ∧ f1 = (mo G m0 q (upd F 16 0) A (ptL A L d i v) K) ∧ n1 = n) := by
  generalize hQ9 : (fun r f1 n1 => r = some (.int (ptR A d i)) ∧ f1 = (mo G m0 q (upd F 16 0) A (ptL A L d i v) K) ∧ n1 = n : RQ) = Q9
  refine ev_of (by decide) (Nat.le_of_ble_eq_true rfl) (ls := [some (.ref q), some (.int d), some (.int i), some (.int v), none]) rfl (fun hb => ?_)
  refine go_aload_n dX12_put_0 rfl ?_
  refine go_iconst (v := 0) dX12_put_1 rfl ?_
  refine go_put dX12_put_2 fp_X12_83_12 (Or.inr (fun _ _ _ h => by cases h; rfl)) mo_obj hq (by omega) (rfl) rfl (Nat.le_of_ble_eq_true rfl) ?_
  refine go_mem (mo_setO (F' := (upd F 16 (0))) (K' := K) rfl) ?_
  refine go_aload_n dX12_put_5 rfl ?_
  refine go_iload_n dX12_put_6 rfl ?_
  refine go_Vr [.int d] [] dX12_put_7 vl_X12_178 ⟨by decide, by decide⟩ (e_X12_wrongRow (F := (upd F 16 (0))) (A := A) (L := L) (K := K) hq hn) mo_obj hq (by omega) rfl rfl (Nat.le_of_ble_eq_true rfl) (Nat.le_of_ble_eq_true rfl) (Nat.le_of_ble_eq_true rfl) ?_
  refine go_istore (ls' := [some (.ref q), some (.int d), some (.int i), some (.int v), some (.int (wkS (A 8) 2 (d)))]) dX12_put_10 ⟨by decide, rfl, rfl⟩ ?_
  refine go_iload dX12_put_12 rfl ?_
  refine go_if_ge dX12_put_14 (fun c14 => ?_) (fun c14 => ?_)
  · have c14 := Int32.not_lt.mpr c14
    obtain ⟨jd, hjd, rfl, ejd⟩ := wkS_ok c14
    have kjd : (nI jd).toNatClampNeg = jd := nI_clamp (by omega)
    obtain ⟨R, hR, eR⟩ := hrl jd (by omega)
    refine go_iload_n dX12_put_20 rfl ?_
    refine go_i2l dX12_put_21 ?_
    refine go_lconst (v := 0) dX12_put_22 rfl ?_
    refine go_aload_n dX12_put_23 rfl ?_
    refine go_get dX12_put_24 fl_X12_43_12 mo_obj hq (by omega) rfl ?_
    refine go_iload_n dX12_put_27 rfl ?_
    refine go_iald dX12_put_28 (mo_arr 12 (by decide)) (by omega) (by omega) (vp_in_nI (n := jd) (by show jd < 8; omega) (by decide)) ?_
    refine go_tp (z := A 12 jd) (by rw [nI_clamp (by omega)]) ?_
    refine go_tp (z := nI R) (eR) ?_
    refine go_iconst (v := 1) dX12_put_29 rfl ?_
    refine go_isub dX12_put_30 ?_
    refine go_i2l dX12_put_31 ?_
    refine go_Sr [.long (i).toInt64, .long 0, .long (((nI R) - 1).toInt64)] [] dX12_put_32 sl_X12_90 ⟨by decide, by decide⟩ (e_X12_lies) rfl rfl (Nat.le_of_ble_eq_true rfl) (Nat.le_of_ble_eq_true rfl) (Nat.le_of_ble_eq_true rfl) ?_
    refine go_tp (z := if okp R (i) then 1 else 0) (ite_c (li_okp (by omega))) ?_
    refine go_if_ne dX12_put_35 (fun c35 => ?_) (fun c35 => ?_)
    · have c35 := bz_t c35
      obtain ⟨ji, hji, rfl⟩ := okp_nI c35 (by omega)
      have kji : (nI ji).toNatClampNeg = ji := nI_clamp (by omega)
      refine go_aload_n dX12_put_41 rfl ?_
      refine go_get dX12_put_42 fl_X12_46_12 mo_obj hq (by omega) rfl ?_
      refine go_bipush (v := 100) dX12_put_45 rfl ?_
      refine go_iload_n dX12_put_47 rfl ?_
      refine go_imul dX12_put_48 ?_
      refine go_tp (z := nI (100 * jd)) (pk_mul 100 jd) ?_
      refine go_iload_n dX12_put_49 rfl ?_
      refine go_iadd dX12_put_50 ?_
      refine go_tp (z := nI ((100 * jd) + ji)) (nI_add (100 * jd) ji) ?_
      refine go_iload_n dX12_put_51 rfl ?_
      refine go_aload_n dX12_put_52 rfl ?_
      refine go_get dX12_put_53 fl_X12_40_12 mo_obj hq (by omega) rfl ?_
      refine go_iload_n dX12_put_56 rfl ?_
      refine go_iald dX12_put_57 (mo_arr 11 (by decide)) (by omega) (by omega) (vp_in_nI (n := jd) (by show jd < 8; omega) (by decide)) ?_
      refine go_tp (z := A 11 jd) (by rw [nI_clamp (by omega)]) ?_
      refine go_Sr [.int v, .int (A 11 jd)] [.int (nI ((100 * jd) + ji)), .ref (q + 13)] dX12_put_58 sl_X12_358 ⟨by decide, by decide⟩ (e_X12_narrowed) rfl rfl (Nat.le_of_ble_eq_true rfl) (Nat.le_of_ble_eq_true rfl) (Nat.le_of_ble_eq_true rfl) ?_
      refine go_last dX12_put_61 (mo_lrr 13 (by decide)) (by omega) (by omega) (vp_in_nI (n := (100 * jd) + ji) (by show (100 * jd) + ji < 800; omega) (by decide)) ?_
      refine go_mem (mo_setL 13 (by decide) _ _) ?_
      rw [nI_clamp (by omega)]
      refine go_iconst (v := 0) dX12_put_62 rfl ?_
      exact go_iret dX12_put_63 rfl (Nat.le_of_ble_eq_true rfl) (Nat.le_of_ble_eq_true rfl) (hQ9 ▸ ⟨rd_i (a := 0) (by simp [ptR, c14, kjd, c35, kji, eR, nI_clamp (show R < 2 ^ 31 by omega)]), by simp [ptL, c14, kjd, c35, kji, eR, nI_clamp (show R < 2 ^ 31 by omega)], rfl⟩)
    · have c35 := bz_f c35
      refine go_bipush (v := (-13)) dX12_put_38 rfl ?_
      exact go_iret dX12_put_40 rfl (Nat.le_of_ble_eq_true rfl) (Nat.le_of_ble_eq_true rfl) (hQ9 ▸ ⟨rd_i (a := (-13)) (by simp [ptR, c14, kjd, c35, eR, nI_clamp (show R < 2 ^ 31 by omega)]), by simp [ptL, c14, kjd, c35, eR, nI_clamp (show R < 2 ^ 31 by omega)], rfl⟩)
  · have c14 := Int32.not_le.mp c14
    refine go_iload dX12_put_17 rfl ?_
    exact go_iret dX12_put_19 rfl (Nat.le_of_ble_eq_true rfl) (Nat.le_of_ble_eq_true rfl) (hQ9 ▸ ⟨rd_i (a := wkS (A 8) 2 (d)) (by simp [ptR, c14]), by simp [ptL, c14], rfl⟩)
set_option maxHeartbeats 4000000 in
set_option maxRecDepth 100000 in
theorem e_X12_layClashes (hq : G.2.1 ≤ q) (hn : q + 25 ≤ n) (hN : F 0 = nI N) (hN8 : N ≤ 8) : Ev G mX12_layClashes 1 0 0 [.ref q] (mo G m0 q F A L K) n (fun r f1 n1 => r = none ∧ f1 = mo G m0 q (upd (upd F 30 (c2B (clP A) N 0 N)) 31 (f2B (clP A) N 0 N)) A L K ∧ n1 = n) := by
  generalize hQ9 : (fun r f1 n1 => r = none ∧ f1 = mo G m0 q (upd (upd F 30 (c2B (clP A) N 0 N)) 31 (f2B (clP A) N 0 N)) A L K ∧ n1 = n : RQ) = Q9
  refine ev_of (by decide) (Nat.le_of_ble_eq_true rfl) (ls := [some (.ref q), none, none, none]) rfl (fun hb => ?_)
  refine go_aload_n dX12_layClashes_0 rfl ?_
  refine go_iconst (v := 0) dX12_layClashes_1 rfl ?_
  refine go_put dX12_layClashes_2 fp_X12_230_12 (Or.inr (fun _ _ _ h => by cases h; rfl)) mo_obj hq (by omega) (rfl) rfl (Nat.le_of_ble_eq_true rfl) ?_
  refine go_mem (mo_setO (F' := (upd F 30 (0))) (K' := K) rfl) ?_
  refine go_aload_n dX12_layClashes_5 rfl ?_
  refine go_bipush (v := (-4)) dX12_layClashes_6 rfl ?_
  refine go_put dX12_layClashes_8 fp_X12_233_12 (Or.inr (fun _ _ _ h => by cases h; rfl)) mo_obj hq (by omega) (rfl) rfl (Nat.le_of_ble_eq_true rfl) ?_
  refine go_mem (mo_setO (F' := (upd (upd F 30 (0)) 31 ((-4)))) (K' := K) rfl) ?_
  refine go_aload_n dX12_layClashes_11 rfl ?_
  refine go_get dX12_layClashes_12 fl_X12_87_12 mo_obj hq (by omega) rfl ?_
  refine go_tp (z := nI N) (hN) ?_
  refine go_iconst (v := 1) dX12_layClashes_15 rfl ?_
  refine go_isub dX12_layClashes_16 ?_
  refine go_istore_n (ls' := [some (.ref q), some (.int ((nI N) - 1)), none, none]) dX12_layClashes_17 ⟨by decide, rfl, rfl⟩ ?_
  have lp0 : ∀ (μ_lp0 : Nat) (a : Nat) (x : Int32) (y : Int32) (ha : a ≤ N) (hma : a + 1 ≤ μ_lp0) (hx : x = c2B (clP A) N a (N - a)) (hy : y = f2B (clP A) N a (N - a)), Go G mX12_layClashes 1 0 0 Q9 0 0 18 [some (.ref q), some (.int (nI a - 1)), none, none] [] (mo G m0 q (upd (upd F 30 (x)) 31 (y)) A L K) n := by
    intro μ_lp0
    induction μ_lp0 with
    | zero =>
      intro a x y ha hma hx hy
      exact absurd hma (by omega)
    | succ μ_lp0 ih_lp0 =>
      intro a x y ha hma hx hy
      rcases a with _ | a
      · skip
        refine go_iload_n dX12_layClashes_18 rfl ?_
        refine go_if_lt dX12_layClashes_19 (fun c19 => ?_) (fun c19 => ?_)
        · exact go_vret dX12_layClashes_132 rfl (Nat.le_of_ble_eq_true rfl) (Nat.le_of_ble_eq_true rfl) (hQ9 ▸ ⟨rfl, by rw [hx, hy]; rfl, rfl⟩)
        · exact absurd (by decide) c19
      · refine go_ls (ls' := [some (.ref q), some (.int (nI a)), none, none]) (by rw [nI_pred]) ?_
        refine go_iload_n dX12_layClashes_18 rfl ?_
        refine go_if_lt dX12_layClashes_19 (fun c19 => ?_) (fun c19 => ?_)
        · have c19n := (n0_lt (a := a) (by omega)).mp c19
          first | exact absurd c19n (by decide) | exact absurd (by decide) c19n | exact absurd rfl c19n | omega
        · have c19n := mt (n0_lt (a := a) (by omega)).mpr c19
          refine go_aload_n dX12_layClashes_22 rfl ?_
          refine go_get dX12_layClashes_23 fl_X12_87_12 mo_obj hq (by omega) rfl ?_
          refine go_tp (z := nI N) (hN) ?_
          refine go_iconst (v := 1) dX12_layClashes_26 rfl ?_
          refine go_isub dX12_layClashes_27 ?_
          refine go_istore_n (ls' := [some (.ref q), some (.int (nI a)), some (.int ((nI N) - 1)), none]) dX12_layClashes_28 ⟨by decide, rfl, rfl⟩ ?_
          have lp1 : ∀ (μ_lp1 : Nat) (k : Nat) (u : Int32) (v : Int32) (hlk : a + 1 ≤ k) (hk : k ≤ N) (hmk : k + 1 ≤ μ_lp1) (hu : u = x + cfB (clP A a) k (N - k)) (hv : v = f1B (clP A a) a y k (N - k)), Go G mX12_layClashes 1 0 0 Q9 0 0 29 [some (.ref q), some (.int (nI a)), some (.int (nI k - 1)), none] [] (mo G m0 q (upd (upd F 30 (u)) 31 (v)) A L K) n := by
            intro μ_lp1
            induction μ_lp1 with
            | zero =>
              intro k u v hlk hk hmk hu hv
              exact absurd hmk (by omega)
            | succ μ_lp1 ih_lp1 =>
              intro k u v hlk hk hmk hu hv
              rcases Nat.lt_or_ge (a + 1) k with hzk | hzk
              rotate_left
              · obtain rfl : k = a + 1 := by omega
                refine go_ls (ls' := [some (.ref q), some (.int (nI a)), some (.int (nI a)), none]) (by rw [nI_pred]) ?_
                refine go_iload_n dX12_layClashes_29 rfl ?_
                refine go_iload_n dX12_layClashes_30 rfl ?_
                refine go_icmp_le dX12_layClashes_31 (fun c31 => ?_) (fun c31 => ?_)
                · have c31n := (nI_leI (a := a) (b := a) (by omega) (by omega)).mp c31
                  have c31n := Nat.not_lt.mpr c31n
                  have c31 := Int32.not_lt.mpr c31
                  refine go_iinc (v := (nI a) - 1) (ls' := [some (.ref q), some (.int ((nI a) - 1)), some (.int (nI a)), none]) dX12_layClashes_126 rfl (i32_m1 _) ⟨by decide, rfl, rfl⟩ ?_
                  refine go_goto dX12_layClashes_129 ?_
                  refine go_weak (ls' := [some (.ref q), some (.int ((nI a) - 1)), none, none]) ⟨rfl, rfl, trivial⟩ ?_
                  exact ih_lp0 a _ _ (by omega) (by omega) (by rw [c2B_d (by omega), hu, hx]) (by rw [f2B_d (by omega), hv, hy])
                · have c31n := mt (nI_leI (a := a) (b := a) (by omega) (by omega)).mpr c31
                  have c31n := Nat.lt_of_not_le c31n
                  have c31 := Int32.not_le.mp c31
                  first | exact absurd c31n (by decide) | exact absurd (by decide) c31n | exact absurd rfl c31n | omega
              · obtain ⟨k, rfl⟩ : ∃ z, k = z + 1 := ⟨k - 1, by omega⟩
                refine go_ls (ls' := [some (.ref q), some (.int (nI a)), some (.int (nI k)), none]) (by rw [nI_pred]) ?_
                refine go_iload_n dX12_layClashes_29 rfl ?_
                refine go_iload_n dX12_layClashes_30 rfl ?_
                refine go_icmp_le dX12_layClashes_31 (fun c31 => ?_) (fun c31 => ?_)
                · have c31n := (nI_leI (a := k) (b := a) (by omega) (by omega)).mp c31
                  have c31n := Nat.not_lt.mpr c31n
                  have c31 := Int32.not_lt.mpr c31
                  omega
                · have c31n := mt (nI_leI (a := k) (b := a) (by omega) (by omega)).mpr c31
                  have c31n := Nat.lt_of_not_le c31n
                  have c31 := Int32.not_le.mp c31
                  refine go_aload_n dX12_layClashes_34 rfl ?_
                  refine go_get dX12_layClashes_35 fl_X12_19_12 mo_obj hq (by omega) rfl ?_
                  refine go_iload_n dX12_layClashes_38 rfl ?_
                  refine go_iald dX12_layClashes_39 (mo_arr 4 (by decide)) (by omega) (by omega) (vp_in_nI (n := a) (by show a < 8; omega) (by decide)) ?_
                  refine go_tp (z := A 4 a) (by rw [nI_clamp (by omega)]) ?_
                  refine go_bipush (v := 9) dX12_layClashes_40 rfl ?_
                  refine go_icmp_eq dX12_layClashes_42 (fun c42 => ?_) (fun c42 => ?_)
                  · refine go_iconst (v := 0) dX12_layClashes_79 rfl ?_
                    refine go_istore_n (ls' := [some (.ref q), some (.int (nI a)), some (.int (nI k)), some (.int 0)]) dX12_layClashes_80 ⟨by decide, rfl, rfl⟩ ?_
                    refine go_aload_n dX12_layClashes_81 rfl ?_
                    refine go_dup dX12_layClashes_82 rfl ?_
                    refine go_get dX12_layClashes_83 fl_X12_230_12 mo_obj hq (by omega) rfl ?_
                    refine go_tp (z := u) (rfl) ?_
                    refine go_iload_n dX12_layClashes_86 rfl ?_
                    refine go_if_eq dX12_layClashes_87 (fun c87 => ?_) (fun c87 => ?_)
                    · have c87n := (n0_eq (a := 0) (by omega)).mp c87
                      refine go_iconst (v := 0) dX12_layClashes_94 rfl ?_
                      refine go_iadd dX12_layClashes_95 ?_
                      refine go_put dX12_layClashes_96 fp_X12_230_12 (Or.inr (fun _ _ _ h => by cases h; rfl)) mo_obj hq (by omega) (rfl) rfl (Nat.le_of_ble_eq_true rfl) ?_
                      refine go_mem (mo_setO (F' := (upd (upd (upd F 30 (u)) 31 (v)) 30 (u + 0))) (K' := K) rfl) ?_
                      refine go_aload_n dX12_layClashes_99 rfl ?_
                      refine go_iload_n dX12_layClashes_100 rfl ?_
                      refine go_if_eq dX12_layClashes_101 (fun c101 => ?_) (fun c101 => ?_)
                      · have c101n := (n0_eq (a := 0) (by omega)).mp c101
                        refine go_aload_n dX12_layClashes_113 rfl ?_
                        refine go_get dX12_layClashes_114 fl_X12_233_12 mo_obj hq (by omega) rfl ?_
                        refine go_tp (z := v) (rfl) ?_
                        refine go_put dX12_layClashes_117 fp_X12_233_12 (Or.inr (fun _ _ _ h => by cases h; rfl)) mo_obj hq (by omega) (rfl) rfl (Nat.le_of_ble_eq_true rfl) ?_
                        refine go_mem (mo_setO (F' := (upd (upd (upd (upd F 30 (u)) 31 (v)) 30 (u + 0)) 31 (v))) (K' := K) rfl) ?_
                        refine go_iinc (v := (nI k) - 1) (ls' := [some (.ref q), some (.int (nI a)), some (.int ((nI k) - 1)), some (.int 0)]) dX12_layClashes_120 rfl (i32_m1 _) ⟨by decide, rfl, rfl⟩ ?_
                        refine go_goto dX12_layClashes_123 ?_
                        refine go_weak (ls' := [some (.ref q), some (.int (nI a)), some (.int ((nI k) - 1)), none]) ⟨rfl, rfl, rfl, trivial⟩ ?_
                        refine go_mem (f' := (mo G m0 q (upd (upd F 30 (u + 0)) 31 (v)) A L K)) (congrArg (fun z => mo G m0 q z A L K) (upd4 (by decide))) ?_
                        exact ih_lp1 k _ _ (by omega) (by omega) (by omega) (by rw [cfB_d (by omega), ← Int32.add_assoc, hu]; first | (simp [clP, c31, c31n, c42]; done) | simp [show clP A a k = true from decide_eq_true ⟨c42, c57, c72⟩]) (by rw [f1B_d (by omega)]; first | (simp [hv, clP, c31, c31n, c42]; done) | simp [show clP A a k = true from decide_eq_true ⟨c42, c57, c72⟩])
                      · have c101n := mt (n0_eq (a := 0) (by omega)).mpr c101
                        first | exact absurd c101n (by decide) | exact absurd (by decide) c101n | exact absurd rfl c101n | omega
                    · have c87n := mt (n0_eq (a := 0) (by omega)).mpr c87
                      first | exact absurd c87n (by decide) | exact absurd (by decide) c87n | exact absurd rfl c87n | omega
                  · refine go_aload_n dX12_layClashes_45 rfl ?_
                    refine go_get dX12_layClashes_46 fl_X12_19_12 mo_obj hq (by omega) rfl ?_
                    refine go_iload_n dX12_layClashes_49 rfl ?_
                    refine go_iald dX12_layClashes_50 (mo_arr 4 (by decide)) (by omega) (by omega) (vp_in_nI (n := a) (by show a < 8; omega) (by decide)) ?_
                    refine go_tp (z := A 4 a) (by rw [nI_clamp (by omega)]) ?_
                    refine go_aload_n dX12_layClashes_51 rfl ?_
                    refine go_get dX12_layClashes_52 fl_X12_19_12 mo_obj hq (by omega) rfl ?_
                    refine go_iload_n dX12_layClashes_55 rfl ?_
                    refine go_iald dX12_layClashes_56 (mo_arr 4 (by decide)) (by omega) (by omega) (vp_in_nI (n := k) (by show k < 8; omega) (by decide)) ?_
                    refine go_tp (z := A 4 k) (by rw [nI_clamp (by omega)]) ?_
                    refine go_icmp_ne dX12_layClashes_57 (fun c57 => ?_) (fun c57 => ?_)
                    · refine go_iconst (v := 0) dX12_layClashes_79 rfl ?_
                      refine go_istore_n (ls' := [some (.ref q), some (.int (nI a)), some (.int (nI k)), some (.int 0)]) dX12_layClashes_80 ⟨by decide, rfl, rfl⟩ ?_
                      refine go_aload_n dX12_layClashes_81 rfl ?_
                      refine go_dup dX12_layClashes_82 rfl ?_
                      refine go_get dX12_layClashes_83 fl_X12_230_12 mo_obj hq (by omega) rfl ?_
                      refine go_tp (z := u) (rfl) ?_
                      refine go_iload_n dX12_layClashes_86 rfl ?_
                      refine go_if_eq dX12_layClashes_87 (fun c87 => ?_) (fun c87 => ?_)
                      · have c87n := (n0_eq (a := 0) (by omega)).mp c87
                        refine go_iconst (v := 0) dX12_layClashes_94 rfl ?_
                        refine go_iadd dX12_layClashes_95 ?_
                        refine go_put dX12_layClashes_96 fp_X12_230_12 (Or.inr (fun _ _ _ h => by cases h; rfl)) mo_obj hq (by omega) (rfl) rfl (Nat.le_of_ble_eq_true rfl) ?_
                        refine go_mem (mo_setO (F' := (upd (upd (upd F 30 (u)) 31 (v)) 30 (u + 0))) (K' := K) rfl) ?_
                        refine go_aload_n dX12_layClashes_99 rfl ?_
                        refine go_iload_n dX12_layClashes_100 rfl ?_
                        refine go_if_eq dX12_layClashes_101 (fun c101 => ?_) (fun c101 => ?_)
                        · have c101n := (n0_eq (a := 0) (by omega)).mp c101
                          refine go_aload_n dX12_layClashes_113 rfl ?_
                          refine go_get dX12_layClashes_114 fl_X12_233_12 mo_obj hq (by omega) rfl ?_
                          refine go_tp (z := v) (rfl) ?_
                          refine go_put dX12_layClashes_117 fp_X12_233_12 (Or.inr (fun _ _ _ h => by cases h; rfl)) mo_obj hq (by omega) (rfl) rfl (Nat.le_of_ble_eq_true rfl) ?_
                          refine go_mem (mo_setO (F' := (upd (upd (upd (upd F 30 (u)) 31 (v)) 30 (u + 0)) 31 (v))) (K' := K) rfl) ?_
                          refine go_iinc (v := (nI k) - 1) (ls' := [some (.ref q), some (.int (nI a)), some (.int ((nI k) - 1)), some (.int 0)]) dX12_layClashes_120 rfl (i32_m1 _) ⟨by decide, rfl, rfl⟩ ?_
                          refine go_goto dX12_layClashes_123 ?_
                          refine go_weak (ls' := [some (.ref q), some (.int (nI a)), some (.int ((nI k) - 1)), none]) ⟨rfl, rfl, rfl, trivial⟩ ?_
                          refine go_mem (f' := (mo G m0 q (upd (upd F 30 (u + 0)) 31 (v)) A L K)) (congrArg (fun z => mo G m0 q z A L K) (upd4 (by decide))) ?_
                          exact ih_lp1 k _ _ (by omega) (by omega) (by omega) (by rw [cfB_d (by omega), ← Int32.add_assoc, hu]; first | (simp [clP, c31, c31n, c42, c57]; done) | simp [show clP A a k = true from decide_eq_true ⟨c42, c57, c72⟩]) (by rw [f1B_d (by omega)]; first | (simp [hv, clP, c31, c31n, c42, c57]; done) | simp [show clP A a k = true from decide_eq_true ⟨c42, c57, c72⟩])
                        · have c101n := mt (n0_eq (a := 0) (by omega)).mpr c101
                          first | exact absurd c101n (by decide) | exact absurd (by decide) c101n | exact absurd rfl c101n | omega
                      · have c87n := mt (n0_eq (a := 0) (by omega)).mpr c87
                        first | exact absurd c87n (by decide) | exact absurd (by decide) c87n | exact absurd rfl c87n | omega
                    · refine go_aload_n dX12_layClashes_60 rfl ?_
                      refine go_get dX12_layClashes_61 fl_X12_16_12 mo_obj hq (by omega) rfl ?_
                      refine go_iload_n dX12_layClashes_64 rfl ?_
                      refine go_iald dX12_layClashes_65 (mo_arr 3 (by decide)) (by omega) (by omega) (vp_in_nI (n := a) (by show a < 8; omega) (by decide)) ?_
                      refine go_tp (z := A 3 a) (by rw [nI_clamp (by omega)]) ?_
                      refine go_aload_n dX12_layClashes_66 rfl ?_
                      refine go_get dX12_layClashes_67 fl_X12_16_12 mo_obj hq (by omega) rfl ?_
                      refine go_iload_n dX12_layClashes_70 rfl ?_
                      refine go_iald dX12_layClashes_71 (mo_arr 3 (by decide)) (by omega) (by omega) (vp_in_nI (n := k) (by show k < 8; omega) (by decide)) ?_
                      refine go_tp (z := A 3 k) (by rw [nI_clamp (by omega)]) ?_
                      refine go_icmp_ne dX12_layClashes_72 (fun c72 => ?_) (fun c72 => ?_)
                      · refine go_iconst (v := 0) dX12_layClashes_79 rfl ?_
                        refine go_istore_n (ls' := [some (.ref q), some (.int (nI a)), some (.int (nI k)), some (.int 0)]) dX12_layClashes_80 ⟨by decide, rfl, rfl⟩ ?_
                        refine go_aload_n dX12_layClashes_81 rfl ?_
                        refine go_dup dX12_layClashes_82 rfl ?_
                        refine go_get dX12_layClashes_83 fl_X12_230_12 mo_obj hq (by omega) rfl ?_
                        refine go_tp (z := u) (rfl) ?_
                        refine go_iload_n dX12_layClashes_86 rfl ?_
                        refine go_if_eq dX12_layClashes_87 (fun c87 => ?_) (fun c87 => ?_)
                        · have c87n := (n0_eq (a := 0) (by omega)).mp c87
                          refine go_iconst (v := 0) dX12_layClashes_94 rfl ?_
                          refine go_iadd dX12_layClashes_95 ?_
                          refine go_put dX12_layClashes_96 fp_X12_230_12 (Or.inr (fun _ _ _ h => by cases h; rfl)) mo_obj hq (by omega) (rfl) rfl (Nat.le_of_ble_eq_true rfl) ?_
                          refine go_mem (mo_setO (F' := (upd (upd (upd F 30 (u)) 31 (v)) 30 (u + 0))) (K' := K) rfl) ?_
                          refine go_aload_n dX12_layClashes_99 rfl ?_
                          refine go_iload_n dX12_layClashes_100 rfl ?_
                          refine go_if_eq dX12_layClashes_101 (fun c101 => ?_) (fun c101 => ?_)
                          · have c101n := (n0_eq (a := 0) (by omega)).mp c101
                            refine go_aload_n dX12_layClashes_113 rfl ?_
                            refine go_get dX12_layClashes_114 fl_X12_233_12 mo_obj hq (by omega) rfl ?_
                            refine go_tp (z := v) (rfl) ?_
                            refine go_put dX12_layClashes_117 fp_X12_233_12 (Or.inr (fun _ _ _ h => by cases h; rfl)) mo_obj hq (by omega) (rfl) rfl (Nat.le_of_ble_eq_true rfl) ?_
                            refine go_mem (mo_setO (F' := (upd (upd (upd (upd F 30 (u)) 31 (v)) 30 (u + 0)) 31 (v))) (K' := K) rfl) ?_
                            refine go_iinc (v := (nI k) - 1) (ls' := [some (.ref q), some (.int (nI a)), some (.int ((nI k) - 1)), some (.int 0)]) dX12_layClashes_120 rfl (i32_m1 _) ⟨by decide, rfl, rfl⟩ ?_
                            refine go_goto dX12_layClashes_123 ?_
                            refine go_weak (ls' := [some (.ref q), some (.int (nI a)), some (.int ((nI k) - 1)), none]) ⟨rfl, rfl, rfl, trivial⟩ ?_
                            refine go_mem (f' := (mo G m0 q (upd (upd F 30 (u + 0)) 31 (v)) A L K)) (congrArg (fun z => mo G m0 q z A L K) (upd4 (by decide))) ?_
                            exact ih_lp1 k _ _ (by omega) (by omega) (by omega) (by rw [cfB_d (by omega), ← Int32.add_assoc, hu]; first | (simp [clP, c31, c31n, c42, c57, c72]; done) | simp [show clP A a k = true from decide_eq_true ⟨c42, c57, c72⟩]) (by rw [f1B_d (by omega)]; first | (simp [hv, clP, c31, c31n, c42, c57, c72]; done) | simp [show clP A a k = true from decide_eq_true ⟨c42, c57, c72⟩])
                          · have c101n := mt (n0_eq (a := 0) (by omega)).mpr c101
                            first | exact absurd c101n (by decide) | exact absurd (by decide) c101n | exact absurd rfl c101n | omega
                        · have c87n := mt (n0_eq (a := 0) (by omega)).mpr c87
                          first | exact absurd c87n (by decide) | exact absurd (by decide) c87n | exact absurd rfl c87n | omega
                      · refine go_iconst (v := 1) dX12_layClashes_75 rfl ?_
                        refine go_goto dX12_layClashes_76 ?_
                        refine go_istore_n (ls' := [some (.ref q), some (.int (nI a)), some (.int (nI k)), some (.int 1)]) dX12_layClashes_80 ⟨by decide, rfl, rfl⟩ ?_
                        refine go_aload_n dX12_layClashes_81 rfl ?_
                        refine go_dup dX12_layClashes_82 rfl ?_
                        refine go_get dX12_layClashes_83 fl_X12_230_12 mo_obj hq (by omega) rfl ?_
                        refine go_tp (z := u) (rfl) ?_
                        refine go_iload_n dX12_layClashes_86 rfl ?_
                        refine go_if_eq dX12_layClashes_87 (fun c87 => ?_) (fun c87 => ?_)
                        · have c87n := (n0_eq (a := 1) (by omega)).mp c87
                          first | exact absurd c87n (by decide) | exact absurd (by decide) c87n | exact absurd rfl c87n | omega
                        · have c87n := mt (n0_eq (a := 1) (by omega)).mpr c87
                          refine go_iconst (v := 1) dX12_layClashes_90 rfl ?_
                          refine go_goto dX12_layClashes_91 ?_
                          refine go_iadd dX12_layClashes_95 ?_
                          refine go_put dX12_layClashes_96 fp_X12_230_12 (Or.inr (fun _ _ _ h => by cases h; rfl)) mo_obj hq (by omega) (rfl) rfl (Nat.le_of_ble_eq_true rfl) ?_
                          refine go_mem (mo_setO (F' := (upd (upd (upd F 30 (u)) 31 (v)) 30 (u + 1))) (K' := K) rfl) ?_
                          refine go_aload_n dX12_layClashes_99 rfl ?_
                          refine go_iload_n dX12_layClashes_100 rfl ?_
                          refine go_if_eq dX12_layClashes_101 (fun c101 => ?_) (fun c101 => ?_)
                          · have c101n := (n0_eq (a := 1) (by omega)).mp c101
                            first | exact absurd c101n (by decide) | exact absurd (by decide) c101n | exact absurd rfl c101n | omega
                          · have c101n := mt (n0_eq (a := 1) (by omega)).mpr c101
                            refine go_bipush (v := 10) dX12_layClashes_104 rfl ?_
                            refine go_iload_n dX12_layClashes_106 rfl ?_
                            refine go_imul dX12_layClashes_107 ?_
                            refine go_tp (z := nI (10 * a)) (pk_mul 10 a) ?_
                            refine go_iload_n dX12_layClashes_108 rfl ?_
                            refine go_iadd dX12_layClashes_109 ?_
                            refine go_tp (z := nI ((10 * a) + k)) (nI_add (10 * a) k) ?_
                            refine go_goto dX12_layClashes_110 ?_
                            refine go_put dX12_layClashes_117 fp_X12_233_12 (Or.inr (fun _ _ _ h => by cases h; rfl)) mo_obj hq (by omega) (rfl) rfl (Nat.le_of_ble_eq_true rfl) ?_
                            refine go_mem (mo_setO (F' := (upd (upd (upd (upd F 30 (u)) 31 (v)) 30 (u + 1)) 31 (nI ((10 * a) + k)))) (K' := K) rfl) ?_
                            refine go_iinc (v := (nI k) - 1) (ls' := [some (.ref q), some (.int (nI a)), some (.int ((nI k) - 1)), some (.int 1)]) dX12_layClashes_120 rfl (i32_m1 _) ⟨by decide, rfl, rfl⟩ ?_
                            refine go_goto dX12_layClashes_123 ?_
                            refine go_weak (ls' := [some (.ref q), some (.int (nI a)), some (.int ((nI k) - 1)), none]) ⟨rfl, rfl, rfl, trivial⟩ ?_
                            refine go_mem (f' := (mo G m0 q (upd (upd F 30 (u + 1)) 31 (nI ((10 * a) + k))) A L K)) (congrArg (fun z => mo G m0 q z A L K) (upd4 (by decide))) ?_
                            exact ih_lp1 k _ _ (by omega) (by omega) (by omega) (by rw [cfB_d (by omega), ← Int32.add_assoc, hu]; first | (simp [clP, c31, c31n, c42, c57, c72]; done) | simp [show clP A a k = true from decide_eq_true ⟨c42, c57, c72⟩]) (by rw [f1B_d (by omega)]; first | (simp [hv, clP, c31, c31n, c42, c57, c72]; done) | simp [show clP A a k = true from decide_eq_true ⟨c42, c57, c72⟩])
          exact lp1 (N + 1) N _ _ (by omega) (Nat.le_refl _) (Nat.le_refl _) (by rw [cfB_0, Int32.add_zero]) (by rw [f1B_0])
  exact lp0 (N + 1) N _ _ (Nat.le_refl _) (Nat.le_refl _) (by rw [c2B_0]) (by rw [f2B_0])
set_option maxHeartbeats 4000000 in
set_option maxRecDepth 100000 in
theorem e_X12_clashes (hq : G.2.1 ≤ q) (hn : q + 25 ≤ n) (hN : F 0 = nI N) (hN8 : N ≤ 8) {what : Int32} : Ev G mX12_clashes 3 0 0 [.ref q, .int what] (mo G m0 q F A L K) n (fun r f1 n1 => r = some (.int (claS N A what)) ∧ (∃ F2, (∀ k, k < 30 → F2 k = upd F 16 0 k) ∧ f1 = mo G m0 q F2 A L K) ∧ n1 = n) := by
  generalize hQ9 : (fun r f1 n1 => r = some (.int (claS N A what)) ∧ (∃ F2, (∀ k, k < 30 → F2 k = upd F 16 0 k) ∧ f1 = mo G m0 q F2 A L K) ∧ n1 = n : RQ) = Q9
  refine ev_of (by decide) (Nat.le_of_ble_eq_true rfl) (ls := [some (.ref q), some (.int what)]) rfl (fun hb => ?_)
  refine go_aload_n dX12_clashes_0 rfl ?_
  refine go_iconst (v := 0) dX12_clashes_1 rfl ?_
  refine go_put dX12_clashes_2 fp_X12_83_12 (Or.inr (fun _ _ _ h => by cases h; rfl)) mo_obj hq (by omega) (rfl) rfl (Nat.le_of_ble_eq_true rfl) ?_
  refine go_mem (mo_setO (F' := (upd F 16 (0))) (K' := K) rfl) ?_
  refine go_iload_n dX12_clashes_5 rfl ?_
  refine go_i2l dX12_clashes_6 ?_
  refine go_lconst (v := 0) dX12_clashes_7 rfl ?_
  refine go_lconst (v := 1) dX12_clashes_8 rfl ?_
  refine go_Sr [.long (what).toInt64, .long 0, .long 1] [] dX12_clashes_9 sl_X12_90 ⟨by decide, by decide⟩ (e_X12_lies) rfl rfl (Nat.le_of_ble_eq_true rfl) (Nat.le_of_ble_eq_true rfl) (Nat.le_of_ble_eq_true rfl) ?_
  refine go_tp (z := if okr what 0 1 then 1 else 0) (ite_c (li_okr rfl rfl)) ?_
  refine go_if_ne dX12_clashes_12 (fun c12 => ?_) (fun c12 => ?_)
  · have c12 := bz_t c12
    refine go_aload_n dX12_clashes_17 rfl ?_
    refine go_V [] [] dX12_clashes_18 vl_X12_236 ⟨by decide, by decide⟩ (e_X12_layClashes (F := (upd F 16 (0))) (A := A) (L := L) (K := K) hq hn hN hN8) mo_obj hq (by omega) rfl rfl (Nat.le_of_ble_eq_true rfl) (Nat.le_of_ble_eq_true rfl) (Nat.le_of_ble_eq_true rfl) (fun r18 f18 n18 h18 => ?_)
    obtain ⟨rfl, rfl, rfl⟩ := h18
    refine go_iload_n dX12_clashes_21 rfl ?_
    refine go_if_ne dX12_clashes_22 (fun c22 => ?_) (fun c22 => ?_)
    · refine go_aload_n dX12_clashes_32 rfl ?_
      refine go_get dX12_clashes_33 fl_X12_233_12 mo_obj hq (by omega) rfl ?_
      refine go_tp (z := f2B (clP A) N 0 N) (rfl) ?_
      exact go_iret dX12_clashes_36 rfl (Nat.le_of_ble_eq_true rfl) (Nat.le_of_ble_eq_true rfl) (hQ9 ▸ ⟨rd_i (a := f2B (clP A) N 0 N) (by simp [claS, upd, c12, c22]), ⟨_, fun k hk => by simp [upd, show k ≠ 30 by omega, show k ≠ 31 by omega], rfl⟩, rfl⟩)
    · subst c22
      refine go_aload_n dX12_clashes_25 rfl ?_
      refine go_get dX12_clashes_26 fl_X12_230_12 mo_obj hq (by omega) rfl ?_
      refine go_tp (z := c2B (clP A) N 0 N) (rfl) ?_
      refine go_goto dX12_clashes_29 ?_
      exact go_iret dX12_clashes_36 rfl (Nat.le_of_ble_eq_true rfl) (Nat.le_of_ble_eq_true rfl) (hQ9 ▸ ⟨rd_i (a := c2B (clP A) N 0 N) (by simp [claS, upd, c12]), ⟨_, fun k hk => by simp [upd, show k ≠ 30 by omega, show k ≠ 31 by omega], rfl⟩, rfl⟩)
  · have c12 := bz_f c12
    refine go_iconst (v := (-1)) dX12_clashes_15 rfl ?_
    exact go_iret dX12_clashes_16 rfl (Nat.le_of_ble_eq_true rfl) (Nat.le_of_ble_eq_true rfl) (hQ9 ▸ ⟨rd_i (a := (-1)) (by simp [claS, upd, c12]), ⟨_, fun k hk => rfl, rfl⟩, rfl⟩)
end M5
