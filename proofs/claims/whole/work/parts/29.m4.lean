section M4
variable {G : GX} {m0 f : Mem} {q n N M : Nat} {F : Nat → Int32} {A : Nat → Nat → Int32} {L : Nat → Nat → Int64} {K : Option Nat}
set_option maxHeartbeats 4000000 in
set_option maxRecDepth 100000 in
theorem e_X12_joins (hq : G.2.1 ≤ q) (hn : q + 25 ≤ n) (hN : F 0 = nI N) (hN8 : N ≤ 8) {d h : Int32} : Ev G mX12_joins 3 0 0 [.ref q, .int d, .int h] (mo G m0 q F A L K) n (fun r f1 n1 => r = some (.int (jnR N A d h)) ∧ f1 = (mo G m0 q (if jnC N A d h then upd (upd F 16 0) 0 (nI (N + 1)) else upd F 16 0) (if jnC N A d h then pcA N A (A 9 d.toNatClampNeg) (A 10 d.toNatClampNeg) h else A) L K) ∧ n1 = n) := by
  generalize hQ9 : (fun r f1 n1 => r = some (.int (jnR N A d h)) ∧ f1 = (mo G m0 q (if jnC N A d h then upd (upd F 16 0) 0 (nI (N + 1)) else upd F 16 0) (if jnC N A d h then pcA N A (A 9 d.toNatClampNeg) (A 10 d.toNatClampNeg) h else A) L K) ∧ n1 = n : RQ) = Q9
  refine ev_of (by decide) (Nat.le_of_ble_eq_true rfl) (ls := [some (.ref q), some (.int d), some (.int h), none]) rfl (fun hb => ?_)
  refine go_aload_n dX12_joins_0 rfl ?_
  refine go_iconst (v := 0) dX12_joins_1 rfl ?_
  refine go_put dX12_joins_2 fp_X12_83_12 (Or.inr (fun _ _ _ h => by cases h; rfl)) mo_obj hq (by omega) (rfl) rfl (Nat.le_of_ble_eq_true rfl) ?_
  refine go_mem (mo_setO (F' := (upd F 16 (0))) (K' := K) rfl) ?_
  refine go_iload_n dX12_joins_5 rfl ?_
  refine go_i2l dX12_joins_6 ?_
  refine go_lconst (v := 0) dX12_joins_7 rfl ?_
  refine go_ldc2 (v := 5) dX12_joins_8 wm_1319 ?_
  refine go_Sr [.long (h).toInt64, .long 0, .long 5] [] dX12_joins_11 sl_X12_90 ⟨by decide, by decide⟩ (e_X12_lies) rfl rfl (Nat.le_of_ble_eq_true rfl) (Nat.le_of_ble_eq_true rfl) (Nat.le_of_ble_eq_true rfl) ?_
  refine go_tp (z := if okr h 0 5 then 1 else 0) (ite_c (li_okr rfl rfl)) ?_
  refine go_if_eq dX12_joins_14 (fun c14 => ?_) (fun c14 => ?_)
  · have c14 := bz_f c14
    refine go_iconst (v := (-1)) dX12_joins_25 rfl ?_
    refine go_istore_n (ls' := [some (.ref q), some (.int d), some (.int h), some (.int (-1))]) dX12_joins_26 ⟨by decide, rfl, rfl⟩ ?_
    refine go_iload_n dX12_joins_27 rfl ?_
    refine go_if_ge dX12_joins_28 (fun c28 => ?_) (fun c28 => ?_)
    · have c28 := Int32.not_lt.mpr c28
      first | exact absurd c28 (by decide) | exact absurd (by decide) c28 | exact absurd rfl c28 | omega
    · have c28 := Int32.not_le.mp c28
      refine go_iload_n dX12_joins_31 rfl ?_
      exact go_iret dX12_joins_32 rfl (Nat.le_of_ble_eq_true rfl) (Nat.le_of_ble_eq_true rfl) (hQ9 ▸ ⟨rd_i (a := (-1)) (by simp [jnR, jnC, jnW, p1m, c14]), by simp [jnR, jnC, jnW, c14], rfl⟩)
  · have c14 := bz_t c14
    refine go_aload_n dX12_joins_17 rfl ?_
    refine go_iload_n dX12_joins_18 rfl ?_
    refine go_Vr [.int d] [] dX12_joins_19 vl_X12_221 ⟨by decide, by decide⟩ (e_X12_wrongKept (F := (upd F 16 (0))) (A := A) (L := L) (K := K) hq hn) mo_obj hq (by omega) rfl rfl (Nat.le_of_ble_eq_true rfl) (Nat.le_of_ble_eq_true rfl) (Nat.le_of_ble_eq_true rfl) ?_
    refine go_goto dX12_joins_22 ?_
    refine go_istore_n (ls' := [some (.ref q), some (.int d), some (.int h), some (.int (wkS (A 8) 1 (d)))]) dX12_joins_26 ⟨by decide, rfl, rfl⟩ ?_
    refine go_iload_n dX12_joins_27 rfl ?_
    refine go_if_ge dX12_joins_28 (fun c28 => ?_) (fun c28 => ?_)
    · have c28 := Int32.not_lt.mpr c28
      obtain ⟨jd, hjd, rfl, ejd⟩ := wkS_ok c28
      have kjd : (nI jd).toNatClampNeg = jd := nI_clamp (by omega)
      refine go_aload_n dX12_joins_33 rfl ?_
      refine go_aload_n dX12_joins_34 rfl ?_
      refine go_get dX12_joins_35 fl_X12_34_12 mo_obj hq (by omega) rfl ?_
      refine go_iload_n dX12_joins_38 rfl ?_
      refine go_iald dX12_joins_39 (mo_arr 9 (by decide)) (by omega) (by omega) (vp_in_nI (n := jd) (by show jd < 8; omega) (by decide)) ?_
      refine go_tp (z := A 9 jd) (by rw [nI_clamp (by omega)]) ?_
      refine go_aload_n dX12_joins_40 rfl ?_
      refine go_get dX12_joins_41 fl_X12_37_12 mo_obj hq (by omega) rfl ?_
      refine go_iload_n dX12_joins_44 rfl ?_
      refine go_iald dX12_joins_45 (mo_arr 10 (by decide)) (by omega) (by omega) (vp_in_nI (n := jd) (by show jd < 8; omega) (by decide)) ?_
      refine go_tp (z := A 10 jd) (by rw [nI_clamp (by omega)]) ?_
      refine go_iload_n dX12_joins_46 rfl ?_
      refine go_V [.int (A 9 jd), .int (A 10 jd), .int h] [] dX12_joins_47 vl_X12_157 ⟨by decide, by decide⟩ (e_X12_pupilComes (F := (upd F 16 (0))) (A := A) (L := L) (K := K) hq hn hN hN8) mo_obj hq (by omega) rfl rfl (Nat.le_of_ble_eq_true rfl) (Nat.le_of_ble_eq_true rfl) (Nat.le_of_ble_eq_true rfl) (fun r47 f47 n47 h47 => ?_)
      obtain ⟨rfl, rfl, rfl⟩ := h47
      refine go_if_eq dX12_joins_50 (fun c50 => ?_) (fun c50 => ?_)
      · have c50 := bz_f c50
        refine go_mem (if_neg c50) ?_
        refine go_bipush (v := (-2)) dX12_joins_62 rfl ?_
        exact go_iret dX12_joins_64 rfl (Nat.le_of_ble_eq_true rfl) (Nat.le_of_ble_eq_true rfl) (hQ9 ▸ ⟨rd_i (a := (-2)) (by simp [jnR, jnC, jnW, p1m, c14, c28, kjd, c50]), by simp [jnR, jnC, jnW, c14, c28, kjd, c50], rfl⟩)
      · have c50 := bz_t c50
        refine go_mem (if_pos c50) ?_
        refine go_aload_n dX12_joins_53 rfl ?_
        refine go_get dX12_joins_54 fl_X12_87_12 mo_obj hq (by omega) rfl ?_
        refine go_tp (z := nI (N + 1)) (rfl) ?_
        refine go_iconst (v := 1) dX12_joins_57 rfl ?_
        refine go_isub dX12_joins_58 ?_
        refine go_tp (z := nI N) (nI_pred _) ?_
        refine go_goto dX12_joins_59 ?_
        exact go_iret dX12_joins_64 rfl (Nat.le_of_ble_eq_true rfl) (Nat.le_of_ble_eq_true rfl) (hQ9 ▸ ⟨rd_i (a := nI N) (by simp [jnR, jnC, jnW, p1m, c14, c28, kjd, c50]), by simp [jnR, jnC, jnW, c14, c28, kjd, c50], rfl⟩)
    · have c28 := Int32.not_le.mp c28
      refine go_iload_n dX12_joins_31 rfl ?_
      exact go_iret dX12_joins_32 rfl (Nat.le_of_ble_eq_true rfl) (Nat.le_of_ble_eq_true rfl) (hQ9 ▸ ⟨rd_i (a := wkS (A 8) 1 (d)) (by simp [jnR, jnC, jnW, p1m, c14, c28]), by simp [jnR, jnC, jnW, c14, c28], rfl⟩)
set_option maxHeartbeats 4000000 in
set_option maxRecDepth 100000 in
theorem e_X12_stands (hq : G.2.1 ≤ q) (hn : q + 25 ≤ n) (hM : F 5 = nI M) (hM5 : M ≤ 5) {far ab : Int32} : Ev G mX12_stands 3 0 0 [.ref q, .int far, .int ab] (mo G m0 q F A L K) n (fun r f1 n1 => r = some (.int (stR M far ab)) ∧ f1 = (mo G m0 q (if stC M far ab then upd (upd F 16 0) 5 (nI (M + 1)) else upd F 16 0) (if stC M far ab then lcA M A far ab else A) L K) ∧ n1 = n) := by
  generalize hQ9 : (fun r f1 n1 => r = some (.int (stR M far ab)) ∧ f1 = (mo G m0 q (if stC M far ab then upd (upd F 16 0) 5 (nI (M + 1)) else upd F 16 0) (if stC M far ab then lcA M A far ab else A) L K) ∧ n1 = n : RQ) = Q9
  refine ev_of (by decide) (Nat.le_of_ble_eq_true rfl) (ls := [some (.ref q), some (.int far), some (.int ab)]) rfl (fun hb => ?_)
  refine go_aload_n dX12_stands_0 rfl ?_
  refine go_iconst (v := 0) dX12_stands_1 rfl ?_
  refine go_put dX12_stands_2 fp_X12_83_12 (Or.inr (fun _ _ _ h => by cases h; rfl)) mo_obj hq (by omega) (rfl) rfl (Nat.le_of_ble_eq_true rfl) ?_
  refine go_mem (mo_setO (F' := (upd F 16 (0))) (K' := K) rfl) ?_
  refine go_iload_n dX12_stands_5 rfl ?_
  refine go_i2l dX12_stands_6 ?_
  refine go_lconst (v := 0) dX12_stands_7 rfl ?_
  refine go_ldc2 (v := 9) dX12_stands_8 wm_1328 ?_
  refine go_Sr [.long (far).toInt64, .long 0, .long 9] [] dX12_stands_11 sl_X12_90 ⟨by decide, by decide⟩ (e_X12_lies) rfl rfl (Nat.le_of_ble_eq_true rfl) (Nat.le_of_ble_eq_true rfl) (Nat.le_of_ble_eq_true rfl) ?_
  refine go_tp (z := if okr far 0 9 then 1 else 0) (ite_c (li_okr rfl rfl)) ?_
  refine go_if_eq dX12_stands_14 (fun c14 => ?_) (fun c14 => ?_)
  · have c14 := bz_f c14
    refine go_iconst (v := (-1)) dX12_stands_27 rfl ?_
    exact go_iret dX12_stands_28 rfl (Nat.le_of_ble_eq_true rfl) (Nat.le_of_ble_eq_true rfl) (hQ9 ▸ ⟨rd_i (a := (-1)) (by simp [stR, stC, p1m, c14]), by simp [stR, stC, c14], rfl⟩)
  · have c14 := bz_t c14
    refine go_iload_n dX12_stands_17 rfl ?_
    refine go_i2l dX12_stands_18 ?_
    refine go_lconst (v := 0) dX12_stands_19 rfl ?_
    refine go_lconst (v := 1) dX12_stands_20 rfl ?_
    refine go_Sr [.long (ab).toInt64, .long 0, .long 1] [] dX12_stands_21 sl_X12_90 ⟨by decide, by decide⟩ (e_X12_lies) rfl rfl (Nat.le_of_ble_eq_true rfl) (Nat.le_of_ble_eq_true rfl) (Nat.le_of_ble_eq_true rfl) ?_
    refine go_tp (z := if okr ab 0 1 then 1 else 0) (ite_c (li_okr rfl rfl)) ?_
    refine go_if_ne dX12_stands_24 (fun c24 => ?_) (fun c24 => ?_)
    · have c24 := bz_t c24
      refine go_aload_n dX12_stands_29 rfl ?_
      refine go_iload_n dX12_stands_30 rfl ?_
      refine go_iload_n dX12_stands_31 rfl ?_
      refine go_V [.int far, .int ab] [] dX12_stands_32 vl_X12_161 ⟨by decide, by decide⟩ (e_X12_lockerComes (F := (upd F 16 (0))) (A := A) (L := L) (K := K) hq hn hM hM5) mo_obj hq (by omega) rfl rfl (Nat.le_of_ble_eq_true rfl) (Nat.le_of_ble_eq_true rfl) (Nat.le_of_ble_eq_true rfl) (fun r32 f32 n32 h32 => ?_)
      obtain ⟨rfl, rfl, rfl⟩ := h32
      refine go_if_eq dX12_stands_35 (fun c35 => ?_) (fun c35 => ?_)
      · have c35 := bz_f c35
        refine go_mem (if_neg c35) ?_
        refine go_bipush (v := (-2)) dX12_stands_47 rfl ?_
        exact go_iret dX12_stands_49 rfl (Nat.le_of_ble_eq_true rfl) (Nat.le_of_ble_eq_true rfl) (hQ9 ▸ ⟨rd_i (a := (-2)) (by simp [stR, stC, p1m, c14, c24, c35]), by simp [stR, stC, c14, c24, c35], rfl⟩)
      · have c35 := bz_t c35
        refine go_mem (if_pos c35) ?_
        refine go_aload_n dX12_stands_38 rfl ?_
        refine go_get dX12_stands_39 fl_X12_94_12 mo_obj hq (by omega) rfl ?_
        refine go_tp (z := nI (M + 1)) (rfl) ?_
        refine go_iconst (v := 1) dX12_stands_42 rfl ?_
        refine go_isub dX12_stands_43 ?_
        refine go_tp (z := nI M) (nI_pred _) ?_
        refine go_goto dX12_stands_44 ?_
        exact go_iret dX12_stands_49 rfl (Nat.le_of_ble_eq_true rfl) (Nat.le_of_ble_eq_true rfl) (hQ9 ▸ ⟨rd_i (a := nI M) (by simp [stR, stC, p1m, c14, c24, c35]), by simp [stR, stC, c14, c24, c35], rfl⟩)
    · have c24 := bz_f c24
      refine go_iconst (v := (-1)) dX12_stands_27 rfl ?_
      exact go_iret dX12_stands_28 rfl (Nat.le_of_ble_eq_true rfl) (Nat.le_of_ble_eq_true rfl) (hQ9 ▸ ⟨rd_i (a := (-1)) (by simp [stR, stC, p1m, c14, c24]), by simp [stR, stC, c14, c24], rfl⟩)
set_option maxHeartbeats 4000000 in
set_option maxRecDepth 100000 in
theorem e_X12_makes (hq : G.2.1 ≤ q) (hn : q + 25 ≤ n) (hM : F 5 = nI M) (hM5 : M ≤ 5) {P : Int32} (hP : F 9 = P) {l : Int32} : Ev G mX12_makes 4 0 0 [.ref q, .int l] (mo G m0 q F A L K) n (fun r f1 n1 => r = some (.int (maR M P l)) ∧ f1 = (mo G m0 q (if mkC M P l then upd (upd F 16 0) 9 (P + 5) else upd F 16 0) (if mkC M P l then mkA A l else A) L K) ∧ n1 = n) := by
  generalize hQ9 : (fun r f1 n1 => r = some (.int (maR M P l)) ∧ f1 = (mo G m0 q (if mkC M P l then upd (upd F 16 0) 9 (P + 5) else upd F 16 0) (if mkC M P l then mkA A l else A) L K) ∧ n1 = n : RQ) = Q9
  refine ev_of (by decide) (Nat.le_of_ble_eq_true rfl) (ls := [some (.ref q), some (.int l)]) rfl (fun hb => ?_)
  refine go_aload_n dX12_makes_0 rfl ?_
  refine go_iconst (v := 0) dX12_makes_1 rfl ?_
  refine go_put dX12_makes_2 fp_X12_83_12 (Or.inr (fun _ _ _ h => by cases h; rfl)) mo_obj hq (by omega) (rfl) rfl (Nat.le_of_ble_eq_true rfl) ?_
  refine go_mem (mo_setO (F' := (upd F 16 (0))) (K' := K) rfl) ?_
  refine go_aload_n dX12_makes_5 rfl ?_
  refine go_iload_n dX12_makes_6 rfl ?_
  refine go_Vr [.int l] [] dX12_makes_7 vl_X12_151 ⟨by decide, by decide⟩ (e_X12_isLocker (F := (upd F 16 (0))) (A := A) (L := L) (K := K) hq hn hM hM5) mo_obj hq (by omega) rfl rfl (Nat.le_of_ble_eq_true rfl) (Nat.le_of_ble_eq_true rfl) (Nat.le_of_ble_eq_true rfl) ?_
  refine go_if_ne dX12_makes_10 (fun c10 => ?_) (fun c10 => ?_)
  · have c10 := bz_t c10
    obtain ⟨jl, hjl, rfl⟩ := okp_nI c10 (by omega)
    have kjl : (nI jl).toNatClampNeg = jl := nI_clamp (by omega)
    refine go_aload_n dX12_makes_15 rfl ?_
    refine go_iload_n dX12_makes_16 rfl ?_
    refine go_V [.int (nI jl)] [] dX12_makes_17 vl_X12_175 ⟨by decide, by decide⟩ (e_X12_makesKeys (F := (upd F 16 (0))) (A := A) (L := L) (K := K) hq hn hM hM5 hP) mo_obj hq (by omega) rfl rfl (Nat.le_of_ble_eq_true rfl) (Nat.le_of_ble_eq_true rfl) (Nat.le_of_ble_eq_true rfl) (fun r17 f17 n17 h17 => ?_)
    obtain ⟨rfl, rfl, rfl⟩ := h17
    refine go_if_eq dX12_makes_20 (fun c20 => ?_) (fun c20 => ?_)
    · have c20 := bz_f c20
      refine go_mem (if_neg c20) ?_
      refine go_bipush (v := (-3)) dX12_makes_30 rfl ?_
      exact go_iret dX12_makes_32 rfl (Nat.le_of_ble_eq_true rfl) (Nat.le_of_ble_eq_true rfl) (hQ9 ▸ ⟨rd_i (a := (-3)) (by simp [maR, p1m, c10, kjl, c20]), by simp [maR, c10, kjl, c20], rfl⟩)
    · have c20 := bz_t c20
      refine go_mem (if_pos c20) ?_
      refine go_aload_n dX12_makes_23 rfl ?_
      refine go_get dX12_makes_24 fl_X12_154_12 mo_obj hq (by omega) rfl ?_
      refine go_tp (z := P + 5) (rfl) ?_
      refine go_goto dX12_makes_27 ?_
      exact go_iret dX12_makes_32 rfl (Nat.le_of_ble_eq_true rfl) (Nat.le_of_ble_eq_true rfl) (hQ9 ▸ ⟨rd_i (a := P + 5) (by simp [maR, p1m, c10, kjl, c20]), by simp [maR, c10, kjl, c20], rfl⟩)
  · have c10 := bz_f c10
    refine go_iconst (v := (-1)) dX12_makes_13 rfl ?_
    exact go_iret dX12_makes_14 rfl (Nat.le_of_ble_eq_true rfl) (Nat.le_of_ble_eq_true rfl) (hQ9 ▸ ⟨rd_i (a := (-1)) (by simp [maR, p1m, c10]), by simp [maR, mkC, c10], rfl⟩)
set_option maxHeartbeats 4000000 in
set_option maxRecDepth 100000 in
theorem e_X12_mateBorne (hq : G.2.1 ≤ q) (hn : q + 25 ≤ n) (hN : F 0 = nI N) (hN8 : N ≤ 8) (hmt : mtOK N (A 19)) {p : Nat} (hp : p < N) : Ev G mX12_mateBorne 3 0 0 [.ref q, .int (nI p)] (mo G m0 q F A L K) n (RD (.int (mbS A (A 19) p)) (mo G m0 q F A L K) n) := by
  generalize hQ9 : (RD (.int (mbS A (A 19) p)) (mo G m0 q F A L K) n : RQ) = Q9
  refine ev_of (by decide) (Nat.le_of_ble_eq_true rfl) (ls := [some (.ref q), some (.int (nI p))]) rfl (fun hb => ?_)
  refine go_aload_n dX12_mateBorne_0 rfl ?_
  refine go_get dX12_mateBorne_1 fl_X12_65_12 mo_obj hq (by omega) rfl ?_
  refine go_iload_n dX12_mateBorne_4 rfl ?_
  refine go_iald dX12_mateBorne_5 (mo_arr 19 (by decide)) (by omega) (by omega) (vp_in_nI (n := p) (by show p < 8; omega) (by decide)) ?_
  refine go_tp (z := A 19 p) (by rw [nI_clamp (by omega)]) ?_
  refine go_if_ge dX12_mateBorne_6 (fun c6 => ?_) (fun c6 => ?_)
  · have c6 := Int32.not_lt.mpr c6
    obtain ⟨o, ho, eo⟩ := (hmt p hp).resolve_left c6
    have ko := nI_clamp (n := o) (by omega)
    refine go_aload_n dX12_mateBorne_13 rfl ?_
    refine go_iload_n dX12_mateBorne_14 rfl ?_
    refine go_aload_n dX12_mateBorne_15 rfl ?_
    refine go_get dX12_mateBorne_16 fl_X12_65_12 mo_obj hq (by omega) rfl ?_
    refine go_iload_n dX12_mateBorne_19 rfl ?_
    refine go_iald dX12_mateBorne_20 (mo_arr 19 (by decide)) (by omega) (by omega) (vp_in_nI (n := p) (by show p < 8; omega) (by decide)) ?_
    refine go_tp (z := A 19 p) (by rw [nI_clamp (by omega)]) ?_
    refine go_tp (z := nI o) (eo) ?_
    refine go_Vr [.int (nI p), .int (nI o)] [] dX12_mateBorne_21 vl_X12_108 ⟨by decide, by decide⟩ (e_X12_bearsOf (F := F) (A := A) (L := L) (K := K) hq hn (by omega) (by omega)) mo_obj hq (by omega) rfl rfl (Nat.le_of_ble_eq_true rfl) (Nat.le_of_ble_eq_true rfl) (Nat.le_of_ble_eq_true rfl) ?_
    refine go_tp (z := brS A p o) (rfl) ?_
    exact go_iret dX12_mateBorne_24 rfl (Nat.le_of_ble_eq_true rfl) (Nat.le_of_ble_eq_true rfl) (hQ9 ▸ ⟨rd_i (by unfold mbS; rw [if_neg c6, eo, nI_clamp (by omega)]), rfl, rfl⟩)
  · have c6 := Int32.not_le.mp c6
    refine go_iconst (v := 0) dX12_mateBorne_9 rfl ?_
    refine go_goto dX12_mateBorne_10 ?_
    exact go_iret dX12_mateBorne_24 rfl (Nat.le_of_ble_eq_true rfl) (Nat.le_of_ble_eq_true rfl) (hQ9 ▸ ⟨rd_i (by unfold mbS; rw [if_pos c6]), rfl, rfl⟩)
set_option maxHeartbeats 4000000 in
set_option maxRecDepth 100000 in
theorem e_X12_areRather (hq : G.2.1 ≤ q) (hn : q + 25 ≤ n) (hN : F 0 = nI N) (hN8 : N ≤ 8) (hmt : mtOK N (A 19)) {a b : Nat} (ha : a < N) (hb8 : b < N) : Ev G mX12_areRather 4 0 0 [.ref q, .int (nI a), .int (nI b)] (mo G m0 q F A L K) n (RD (.int (if raS A (A 19) a b then 1 else 0)) (mo G m0 q F A L K) n) := by
  generalize hQ9 : (RD (.int (if raS A (A 19) a b then 1 else 0)) (mo G m0 q F A L K) n : RQ) = Q9
  refine ev_of (by decide) (Nat.le_of_ble_eq_true rfl) (ls := [some (.ref q), some (.int (nI a)), some (.int (nI b))]) rfl (fun hb => ?_)
  refine go_aload_n dX12_areRather_0 rfl ?_
  refine go_get dX12_areRather_1 fl_X12_65_12 mo_obj hq (by omega) rfl ?_
  refine go_iload_n dX12_areRather_4 rfl ?_
  refine go_iald dX12_areRather_5 (mo_arr 19 (by decide)) (by omega) (by omega) (vp_in_nI (n := a) (by show a < 8; omega) (by decide)) ?_
  refine go_tp (z := A 19 a) (by rw [nI_clamp (by omega)]) ?_
  refine go_iload_n dX12_areRather_6 rfl ?_
  refine go_icmp_eq dX12_areRather_7 (fun c7 => ?_) (fun c7 => ?_)
  · refine go_iconst (v := 0) dX12_areRather_42 rfl ?_
    exact go_zret dX12_areRather_43 rfl (Nat.le_of_ble_eq_true rfl) (Nat.le_of_ble_eq_true rfl) (rfl) ((hQ9 ▸ ⟨rd_i (a := 0) (by simp [raS, c7]), rfl, rfl⟩))
  · refine go_aload_n dX12_areRather_10 rfl ?_
    refine go_iload_n dX12_areRather_11 rfl ?_
    refine go_iload_n dX12_areRather_12 rfl ?_
    refine go_Vr [.int (nI a), .int (nI b)] [] dX12_areRather_13 vl_X12_108 ⟨by decide, by decide⟩ (e_X12_bearsOf (F := F) (A := A) (L := L) (K := K) hq hn (by omega) (by omega)) mo_obj hq (by omega) rfl rfl (Nat.le_of_ble_eq_true rfl) (Nat.le_of_ble_eq_true rfl) (Nat.le_of_ble_eq_true rfl) ?_
    refine go_tp (z := brS A a b) (rfl) ?_
    refine go_aload_n dX12_areRather_16 rfl ?_
    refine go_iload_n dX12_areRather_17 rfl ?_
    refine go_Vr [.int (nI a)] [.int (brS A a b)] dX12_areRather_18 vl_X12_239 ⟨by decide, by decide⟩ (e_X12_mateBorne (F := F) (A := A) (L := L) (K := K) hq hn hN hN8 hmt (by omega)) mo_obj hq (by omega) rfl rfl (Nat.le_of_ble_eq_true rfl) (Nat.le_of_ble_eq_true rfl) (Nat.le_of_ble_eq_true rfl) ?_
    refine go_icmp_le dX12_areRather_21 (fun c21 => ?_) (fun c21 => ?_)
    · have c21 := Int32.not_lt.mpr c21
      refine go_iconst (v := 0) dX12_areRather_42 rfl ?_
      exact go_zret dX12_areRather_43 rfl (Nat.le_of_ble_eq_true rfl) (Nat.le_of_ble_eq_true rfl) (rfl) ((hQ9 ▸ ⟨rd_i (a := 0) (by simp [raS, c7, c21]), rfl, rfl⟩))
    · have c21 := Int32.not_le.mp c21
      refine go_aload_n dX12_areRather_24 rfl ?_
      refine go_iload_n dX12_areRather_25 rfl ?_
      refine go_iload_n dX12_areRather_26 rfl ?_
      refine go_Vr [.int (nI b), .int (nI a)] [] dX12_areRather_27 vl_X12_108 ⟨by decide, by decide⟩ (e_X12_bearsOf (F := F) (A := A) (L := L) (K := K) hq hn (by omega) (by omega)) mo_obj hq (by omega) rfl rfl (Nat.le_of_ble_eq_true rfl) (Nat.le_of_ble_eq_true rfl) (Nat.le_of_ble_eq_true rfl) ?_
      refine go_tp (z := brS A b a) (rfl) ?_
      refine go_aload_n dX12_areRather_30 rfl ?_
      refine go_iload_n dX12_areRather_31 rfl ?_
      refine go_Vr [.int (nI b)] [.int (brS A b a)] dX12_areRather_32 vl_X12_239 ⟨by decide, by decide⟩ (e_X12_mateBorne (F := F) (A := A) (L := L) (K := K) hq hn hN hN8 hmt (by omega)) mo_obj hq (by omega) rfl rfl (Nat.le_of_ble_eq_true rfl) (Nat.le_of_ble_eq_true rfl) (Nat.le_of_ble_eq_true rfl) ?_
      refine go_icmp_le dX12_areRather_35 (fun c35 => ?_) (fun c35 => ?_)
      · have c35 := Int32.not_lt.mpr c35
        refine go_iconst (v := 0) dX12_areRather_42 rfl ?_
        exact go_zret dX12_areRather_43 rfl (Nat.le_of_ble_eq_true rfl) (Nat.le_of_ble_eq_true rfl) (rfl) ((hQ9 ▸ ⟨rd_i (a := 0) (by simp [raS, c7, c21, c35]), rfl, rfl⟩))
      · have c35 := Int32.not_le.mp c35
        refine go_iconst (v := 1) dX12_areRather_38 rfl ?_
        refine go_goto dX12_areRather_39 ?_
        exact go_zret dX12_areRather_43 rfl (Nat.le_of_ble_eq_true rfl) (Nat.le_of_ble_eq_true rfl) (rfl) ((hQ9 ▸ ⟨rd_i (a := 1) (by simp [raS, c7, c21, c35]), rfl, rfl⟩))
set_option maxHeartbeats 4000000 in
set_option maxRecDepth 100000 in
theorem e_X12_insteadOf (hq : G.2.1 ≤ q) (hn : q + 25 ≤ n) (hN : F 0 = nI N) (hN8 : N ≤ 8) (hM5 : M ≤ 5) (hI : insOK N M (A 4)) {p o : Nat} (hp : p < N) (ho : o < N) : Ev G mX12_insteadOf 3 0 0 [.ref q, .int (nI p), .int (nI o)] (mo G m0 q F A L K) n (RD (.int (cpS A p (A 4 o) (mateS N (A 4) o))) (mo G m0 q F A L K) n) := by
  generalize hQ9 : (RD (.int (cpS A p (A 4 o) (mateS N (A 4) o))) (mo G m0 q F A L K) n : RQ) = Q9
  refine ev_of (by decide) (Nat.le_of_ble_eq_true rfl) (ls := [some (.ref q), some (.int (nI p)), some (.int (nI o)), none]) rfl (fun hb => ?_)
  refine go_aload_n dX12_insteadOf_0 rfl ?_
  refine go_get dX12_insteadOf_1 fl_X12_19_12 mo_obj hq (by omega) rfl ?_
  refine go_iload_n dX12_insteadOf_4 rfl ?_
  refine go_iald dX12_insteadOf_5 (mo_arr 4 (by decide)) (by omega) (by omega) (vp_in_nI (n := o) (by show o < 8; omega) (by decide)) ?_
  refine go_tp (z := A 4 o) (by rw [nI_clamp (by omega)]) ?_
  refine go_bipush (v := 9) dX12_insteadOf_6 rfl ?_
  refine go_icmp_ne dX12_insteadOf_8 (fun c8 => ?_) (fun c8 => ?_)
  · obtain ⟨l8, hl8, el8⟩ := (hI o (by omega)).resolve_left c8
    refine go_aload_n dX12_insteadOf_14 rfl ?_
    refine go_iload_n dX12_insteadOf_15 rfl ?_
    refine go_Vr [.int (nI o)] [] dX12_insteadOf_16 vl_X12_111 ⟨by decide, by decide⟩ (e_X12_mateOf (F := F) (A := A) (L := L) (K := K) hq hn hN hN8 (by omega)) mo_obj hq (by omega) rfl rfl (Nat.le_of_ble_eq_true rfl) (Nat.le_of_ble_eq_true rfl) (Nat.le_of_ble_eq_true rfl) ?_
    refine go_istore_n (ls' := [some (.ref q), some (.int (nI p)), some (.int (nI o)), some (.int (mateS N (A 4) o))]) dX12_insteadOf_19 ⟨by decide, rfl, rfl⟩ ?_
    refine go_iload_n dX12_insteadOf_20 rfl ?_
    refine go_if_ge dX12_insteadOf_21 (fun c21 => ?_) (fun c21 => ?_)
    · have c21 := Int32.not_lt.mpr c21
      obtain ⟨o21, ho21, hno21, eo21⟩ := mateS_nI hN8 c21
      refine go_ls (ls' := [some (.ref q), some (.int (nI p)), some (.int (nI o)), some (.int (nI o21))]) (by rw [eo21]) ?_
      have ko21 : (mateS N (A 4) o).toNatClampNeg = o21 := by rw [eo21]; exact nI_clamp (by omega)
      refine go_aload_n dX12_insteadOf_29 rfl ?_
      refine go_iload_n dX12_insteadOf_30 rfl ?_
      refine go_iload_n dX12_insteadOf_31 rfl ?_
      refine go_Vr [.int (nI p), .int (nI o21)] [] dX12_insteadOf_32 vl_X12_108 ⟨by decide, by decide⟩ (e_X12_bearsOf (F := F) (A := A) (L := L) (K := K) hq hn (by omega) (by omega)) mo_obj hq (by omega) rfl rfl (Nat.le_of_ble_eq_true rfl) (Nat.le_of_ble_eq_true rfl) (Nat.le_of_ble_eq_true rfl) ?_
      refine go_tp (z := brS A p o21) (rfl) ?_
      refine go_aload_n dX12_insteadOf_35 rfl ?_
      refine go_iload_n dX12_insteadOf_36 rfl ?_
      refine go_aload_n dX12_insteadOf_37 rfl ?_
      refine go_get dX12_insteadOf_38 fl_X12_19_12 mo_obj hq (by omega) rfl ?_
      refine go_iload_n dX12_insteadOf_41 rfl ?_
      refine go_iald dX12_insteadOf_42 (mo_arr 4 (by decide)) (by omega) (by omega) (vp_in_nI (n := o) (by show o < 8; omega) (by decide)) ?_
      refine go_tp (z := A 4 o) (by rw [nI_clamp (by omega)]) ?_
      refine go_tp (z := nI l8) (el8) ?_
      refine go_Vr [.int (nI p), .int (nI l8)] [.int (brS A p o21)] dX12_insteadOf_43 vl_X12_114 ⟨by decide, by decide⟩ (e_X12_troubleOf (F := F) (A := A) (L := L) (K := K) hq hn (by omega) (by omega)) mo_obj hq (by omega) rfl rfl (Nat.le_of_ble_eq_true rfl) (Nat.le_of_ble_eq_true rfl) (Nat.le_of_ble_eq_true rfl) ?_
      refine go_tp (z := trS A p l8) (rfl) ?_
      refine go_isub dX12_insteadOf_46 ?_
      exact go_iret dX12_insteadOf_47 rfl (Nat.le_of_ble_eq_true rfl) (Nat.le_of_ble_eq_true rfl) (hQ9 ▸ ⟨rd_i (by rw [el8, cpS_in (by omega) (by omega) eo21]), rfl, rfl⟩)
    · have c21 := Int32.not_le.mp c21
      refine go_bipush (v := 12) dX12_insteadOf_24 rfl ?_
      refine go_goto dX12_insteadOf_26 ?_
      refine go_aload_n dX12_insteadOf_35 rfl ?_
      refine go_iload_n dX12_insteadOf_36 rfl ?_
      refine go_aload_n dX12_insteadOf_37 rfl ?_
      refine go_get dX12_insteadOf_38 fl_X12_19_12 mo_obj hq (by omega) rfl ?_
      refine go_iload_n dX12_insteadOf_41 rfl ?_
      refine go_iald dX12_insteadOf_42 (mo_arr 4 (by decide)) (by omega) (by omega) (vp_in_nI (n := o) (by show o < 8; omega) (by decide)) ?_
      refine go_tp (z := A 4 o) (by rw [nI_clamp (by omega)]) ?_
      refine go_tp (z := nI l8) (el8) ?_
      refine go_Vr [.int (nI p), .int (nI l8)] [.int 12] dX12_insteadOf_43 vl_X12_114 ⟨by decide, by decide⟩ (e_X12_troubleOf (F := F) (A := A) (L := L) (K := K) hq hn (by omega) (by omega)) mo_obj hq (by omega) rfl rfl (Nat.le_of_ble_eq_true rfl) (Nat.le_of_ble_eq_true rfl) (Nat.le_of_ble_eq_true rfl) ?_
      refine go_tp (z := trS A p l8) (rfl) ?_
      refine go_isub dX12_insteadOf_46 ?_
      exact go_iret dX12_insteadOf_47 rfl (Nat.le_of_ble_eq_true rfl) (Nat.le_of_ble_eq_true rfl) (hQ9 ▸ ⟨rd_i (by rw [el8, cpS_al (by omega) c21]), rfl, rfl⟩)
  · refine go_bipush (v := (-20)) dX12_insteadOf_11 rfl ?_
    exact go_iret dX12_insteadOf_13 rfl (Nat.le_of_ble_eq_true rfl) (Nat.le_of_ble_eq_true rfl) (hQ9 ▸ ⟨rd_i (by rw [c8, cpS_no]), rfl, rfl⟩)
set_option maxHeartbeats 4000000 in
set_option maxRecDepth 100000 in
theorem e_X12_envyOf (hq : G.2.1 ≤ q) (hn : q + 25 ≤ n) (hN : F 0 = nI N) (hN8 : N ≤ 8) (hM5 : M ≤ 5) (hI : insOK N M (A 4)) {p : Nat} (hp : p < N) : Ev G mX12_envyOf 4 0 0 [.ref q, .int (nI p)] (mo G m0 q F A L K) n (RD (.int (evS N A p)) (mo G m0 q F A L K) n) := by
  generalize hQ9 : (RD (.int (evS N A p)) (mo G m0 q F A L K) n : RQ) = Q9
  refine ev_of (by decide) (Nat.le_of_ble_eq_true rfl) (ls := [some (.ref q), some (.int (nI p)), none, none, none, none]) rfl (fun hb => ?_)
  refine go_iconst (v := 0) dX12_envyOf_0 rfl ?_
  refine go_istore_n (ls' := [some (.ref q), some (.int (nI p)), some (.int 0), none, none, none]) dX12_envyOf_1 ⟨by decide, rfl, rfl⟩ ?_
  refine go_aload_n dX12_envyOf_2 rfl ?_
  refine go_iload_n dX12_envyOf_3 rfl ?_
  refine go_Vr [.int (nI p)] [] dX12_envyOf_4 vl_X12_117 ⟨by decide, by decide⟩ (e_X12_contentOf (F := F) (A := A) (L := L) (K := K) hq hn hN hN8 hM5 hI (by omega)) mo_obj hq (by omega) rfl rfl (Nat.le_of_ble_eq_true rfl) (Nat.le_of_ble_eq_true rfl) (Nat.le_of_ble_eq_true rfl) ?_
  refine go_istore_n (ls' := [some (.ref q), some (.int (nI p)), some (.int 0), some (.int (ctS N A p)), none, none]) dX12_envyOf_7 ⟨by decide, rfl, rfl⟩ ?_
  refine go_aload_n dX12_envyOf_8 rfl ?_
  refine go_iload_n dX12_envyOf_9 rfl ?_
  refine go_Vr [.int (nI p)] [] dX12_envyOf_10 vl_X12_111 ⟨by decide, by decide⟩ (e_X12_mateOf (F := F) (A := A) (L := L) (K := K) hq hn hN hN8 (by omega)) mo_obj hq (by omega) rfl rfl (Nat.le_of_ble_eq_true rfl) (Nat.le_of_ble_eq_true rfl) (Nat.le_of_ble_eq_true rfl) ?_
  refine go_istore (ls' := [some (.ref q), some (.int (nI p)), some (.int 0), some (.int (ctS N A p)), some (.int (mateS N (A 4) p)), none]) dX12_envyOf_13 ⟨by decide, rfl, rfl⟩ ?_
  refine go_iconst (v := 0) dX12_envyOf_15 rfl ?_
  refine go_istore (ls' := [some (.ref q), some (.int (nI p)), some (.int 0), some (.int (ctS N A p)), some (.int (mateS N (A 4) p)), some (.int 0)]) dX12_envyOf_16 ⟨by decide, rfl, rfl⟩ ?_
  have lp0 : ∀ (μ_lp0 : Nat) (i : Nat) (x : Int32) (hi : i ≤ N) (hmi : N + 1 ≤ i + μ_lp0) (hx : x = cnS (evP N A p) i), Go G mX12_envyOf 4 0 0 Q9 0 0 18 [some (.ref q), some (.int (nI p)), some (.int x), some (.int (ctS N A p)), some (.int (mateS N (A 4) p)), some (.int (nI i))] [] (mo G m0 q F A L K) n := by
    intro μ_lp0
    induction μ_lp0 with
    | zero =>
      intro i x hi hmi hx
      exact absurd hmi (by omega)
    | succ μ_lp0 ih_lp0 =>
      intro i x hi hmi hx
      refine go_iload dX12_envyOf_18 rfl ?_
      refine go_aload_n dX12_envyOf_20 rfl ?_
      refine go_get dX12_envyOf_21 fl_X12_87_12 mo_obj hq (by omega) rfl ?_
      refine go_tp (z := nI N) (hN) ?_
      refine go_icmp_ge dX12_envyOf_24 (fun c24 => ?_) (fun c24 => ?_)
      · have c24n := (nI_leI (a := N) (b := i) (by omega) (by omega)).mp c24
        have c24n := Nat.not_lt.mpr c24n
        have c24 := Int32.not_lt.mpr c24
        refine go_iload_n dX12_envyOf_65 rfl ?_
        exact go_iret dX12_envyOf_66 rfl (Nat.le_of_ble_eq_true rfl) (Nat.le_of_ble_eq_true rfl) (hQ9 ▸ ⟨rd_i (by rw [hx, show i = N by omega]; rfl), rfl, rfl⟩)
      · have c24n := mt (nI_leI (a := N) (b := i) (by omega) (by omega)).mpr c24
        have c24n := Nat.lt_of_not_le c24n
        have c24 := Int32.not_le.mp c24
        refine go_iload_n dX12_envyOf_27 rfl ?_
        refine go_iload dX12_envyOf_28 rfl ?_
        refine go_iload_n dX12_envyOf_30 rfl ?_
        refine go_icmp_eq dX12_envyOf_31 (fun c31 => ?_) (fun c31 => ?_)
        · have c31n := (nI_eq (a := i) (b := p) (by omega) (by omega)).mp c31
          refine go_iconst (v := 0) dX12_envyOf_56 rfl ?_
          refine go_iadd dX12_envyOf_57 ?_
          refine go_istore_n (ls' := [some (.ref q), some (.int (nI p)), some (.int (x + 0)), some (.int (ctS N A p)), some (.int (mateS N (A 4) p)), some (.int (nI i))]) dX12_envyOf_58 ⟨by decide, rfl, rfl⟩ ?_
          refine go_iinc (v := nI (i + 1)) (ls' := [some (.ref q), some (.int (nI p)), some (.int (x + 0)), some (.int (ctS N A p)), some (.int (mateS N (A 4) p)), some (.int (nI (i + 1)))]) dX12_envyOf_59 rfl (nI_1 (i)) ⟨by decide, rfl, rfl⟩ ?_
          refine go_goto dX12_envyOf_62 ?_
          exact ih_lp0 (i + 1) _ (by omega) (by omega) (by first | (simp [hx, cnS, evP, c24, c24n, c31]; done) | (simp [hx, cnS, evP, c24, c24n, c31, c31n]; done))
        · have c31n := mt (nI_eq (a := i) (b := p) (by omega) (by omega)).mpr c31
          refine go_iload dX12_envyOf_34 rfl ?_
          refine go_iload dX12_envyOf_36 rfl ?_
          refine go_icmp_eq dX12_envyOf_38 (fun c38 => ?_) (fun c38 => ?_)
          · refine go_iconst (v := 0) dX12_envyOf_56 rfl ?_
            refine go_iadd dX12_envyOf_57 ?_
            refine go_istore_n (ls' := [some (.ref q), some (.int (nI p)), some (.int (x + 0)), some (.int (ctS N A p)), some (.int (mateS N (A 4) p)), some (.int (nI i))]) dX12_envyOf_58 ⟨by decide, rfl, rfl⟩ ?_
            refine go_iinc (v := nI (i + 1)) (ls' := [some (.ref q), some (.int (nI p)), some (.int (x + 0)), some (.int (ctS N A p)), some (.int (mateS N (A 4) p)), some (.int (nI (i + 1)))]) dX12_envyOf_59 rfl (nI_1 (i)) ⟨by decide, rfl, rfl⟩ ?_
            refine go_goto dX12_envyOf_62 ?_
            exact ih_lp0 (i + 1) _ (by omega) (by omega) (by simp [hx, cnS, evP, c24, c24n, c31, c31n, c38])
          · refine go_aload_n dX12_envyOf_41 rfl ?_
            refine go_iload_n dX12_envyOf_42 rfl ?_
            refine go_iload dX12_envyOf_43 rfl ?_
            refine go_Vr [.int (nI p), .int (nI i)] [.int x] dX12_envyOf_45 vl_X12_309 ⟨by decide, by decide⟩ (e_X12_insteadOf (F := F) (A := A) (L := L) (K := K) hq hn hN hN8 hM5 hI (by omega) (by omega)) mo_obj hq (by omega) rfl rfl (Nat.le_of_ble_eq_true rfl) (Nat.le_of_ble_eq_true rfl) (Nat.le_of_ble_eq_true rfl) ?_
            refine go_iload_n dX12_envyOf_48 rfl ?_
            refine go_icmp_le dX12_envyOf_49 (fun c49 => ?_) (fun c49 => ?_)
            · have c49 := Int32.not_lt.mpr c49
              refine go_iconst (v := 0) dX12_envyOf_56 rfl ?_
              refine go_iadd dX12_envyOf_57 ?_
              refine go_istore_n (ls' := [some (.ref q), some (.int (nI p)), some (.int (x + 0)), some (.int (ctS N A p)), some (.int (mateS N (A 4) p)), some (.int (nI i))]) dX12_envyOf_58 ⟨by decide, rfl, rfl⟩ ?_
              refine go_iinc (v := nI (i + 1)) (ls' := [some (.ref q), some (.int (nI p)), some (.int (x + 0)), some (.int (ctS N A p)), some (.int (mateS N (A 4) p)), some (.int (nI (i + 1)))]) dX12_envyOf_59 rfl (nI_1 (i)) ⟨by decide, rfl, rfl⟩ ?_
              refine go_goto dX12_envyOf_62 ?_
              exact ih_lp0 (i + 1) _ (by omega) (by omega) (by simp [hx, cnS, evP, c24, c24n, c31, c31n, c38, c49])
            · have c49 := Int32.not_le.mp c49
              refine go_iconst (v := 1) dX12_envyOf_52 rfl ?_
              refine go_goto dX12_envyOf_53 ?_
              refine go_iadd dX12_envyOf_57 ?_
              refine go_istore_n (ls' := [some (.ref q), some (.int (nI p)), some (.int (x + 1)), some (.int (ctS N A p)), some (.int (mateS N (A 4) p)), some (.int (nI i))]) dX12_envyOf_58 ⟨by decide, rfl, rfl⟩ ?_
              refine go_iinc (v := nI (i + 1)) (ls' := [some (.ref q), some (.int (nI p)), some (.int (x + 1)), some (.int (ctS N A p)), some (.int (mateS N (A 4) p)), some (.int (nI (i + 1)))]) dX12_envyOf_59 rfl (nI_1 (i)) ⟨by decide, rfl, rfl⟩ ?_
              refine go_goto dX12_envyOf_62 ?_
              exact ih_lp0 (i + 1) _ (by omega) (by omega) (by simp [hx, cnS, evP, c24, c24n, c31, c31n, c38, c49])
  exact lp0 (N + 1) 0 _ (Nat.zero_le _) (by omega) (rfl)
set_option maxHeartbeats 4000000 in
set_option maxRecDepth 100000 in
theorem e_X12_envy (hq : G.2.1 ≤ q) (hn : q + 25 ≤ n) (hN : F 0 = nI N) (hN8 : N ≤ 8) (hM5 : M ≤ 5) (hI : insOK N M (A 4)) {p : Int32} : Ev G mX12_envy 5 0 0 [.ref q, .int p] (mo G m0 q F A L K) n (fun r f1 n1 => r = some (.int (envS N A p)) ∧ f1 = (mo G m0 q (upd F 16 (0)) A L K) ∧ n1 = n) := by
  generalize hQ9 : (fun r f1 n1 => r = some (.int (envS N A p)) ∧ f1 = (mo G m0 q (upd F 16 (0)) A L K) ∧ n1 = n : RQ) = Q9
  refine ev_of (by decide) (Nat.le_of_ble_eq_true rfl) (ls := [some (.ref q), some (.int p), none, none]) rfl (fun hb => ?_)
  refine go_aload_n dX12_envy_0 rfl ?_
  refine go_iconst (v := 0) dX12_envy_1 rfl ?_
  refine go_put dX12_envy_2 fp_X12_83_12 (Or.inr (fun _ _ _ h => by cases h; rfl)) mo_obj hq (by omega) (rfl) rfl (Nat.le_of_ble_eq_true rfl) ?_
  refine go_mem (mo_setO (F' := (upd F 16 (0))) (K' := K) rfl) ?_
  refine go_iload_n dX12_envy_5 rfl ?_
  refine go_i2l dX12_envy_6 ?_
  refine go_ldc2 (v := -1) dX12_envy_7 wm_1404 ?_
  refine go_aload_n dX12_envy_10 rfl ?_
  refine go_get dX12_envy_11 fl_X12_87_12 mo_obj hq (by omega) rfl ?_
  refine go_tp (z := nI N) (hN) ?_
  refine go_iconst (v := 1) dX12_envy_14 rfl ?_
  refine go_isub dX12_envy_15 ?_
  refine go_i2l dX12_envy_16 ?_
  refine go_Sr [.long (p).toInt64, .long (-1), .long (((nI N) - 1).toInt64)] [] dX12_envy_17 sl_X12_90 ⟨by decide, by decide⟩ (e_X12_lies) rfl rfl (Nat.le_of_ble_eq_true rfl) (Nat.le_of_ble_eq_true rfl) (Nat.le_of_ble_eq_true rfl) ?_
  refine go_tp (z := if okm N (p) then 1 else 0) (ite_c (li_okm (by omega))) ?_
  refine go_if_ne dX12_envy_20 (fun c20 => ?_) (fun c20 => ?_)
  · have c20 := bz_t c20
    refine go_iconst (v := 0) dX12_envy_25 rfl ?_
    refine go_istore_n (ls' := [some (.ref q), some (.int p), some (.int 0), none]) dX12_envy_26 ⟨by decide, rfl, rfl⟩ ?_
    refine go_iconst (v := 0) dX12_envy_27 rfl ?_
    refine go_istore_n (ls' := [some (.ref q), some (.int p), some (.int 0), some (.int 0)]) dX12_envy_28 ⟨by decide, rfl, rfl⟩ ?_
    have lp0 : ∀ (μ_lp0 : Nat) (i : Nat) (x : Int32) (hi : i ≤ N) (hmi : N + 1 ≤ i + μ_lp0) (hx : x = smS (fun o => if p < 0 ∨ nI o = p then evS N A o else 0) i), Go G mX12_envy 5 0 0 Q9 0 0 29 [some (.ref q), some (.int p), some (.int x), some (.int (nI i))] [] (mo G m0 q (upd F 16 (0)) A L K) n := by
      intro μ_lp0
      induction μ_lp0 with
      | zero =>
        intro i x hi hmi hx
        exact absurd hmi (by omega)
      | succ μ_lp0 ih_lp0 =>
        intro i x hi hmi hx
        refine go_iload_n dX12_envy_29 rfl ?_
        refine go_aload_n dX12_envy_30 rfl ?_
        refine go_get dX12_envy_31 fl_X12_87_12 mo_obj hq (by omega) rfl ?_
        refine go_tp (z := nI N) (hN) ?_
        refine go_icmp_ge dX12_envy_34 (fun c34 => ?_) (fun c34 => ?_)
        · have c34n := (nI_leI (a := N) (b := i) (by omega) (by omega)).mp c34
          have c34n := Nat.not_lt.mpr c34n
          have c34 := Int32.not_lt.mpr c34
          refine go_iload_n dX12_envy_64 rfl ?_
          exact go_iret dX12_envy_65 rfl (Nat.le_of_ble_eq_true rfl) (Nat.le_of_ble_eq_true rfl) (hQ9 ▸ ⟨rd_i (by unfold envS; rw [if_pos c20, hx, show i = N by omega]), rfl, rfl⟩)
        · have c34n := mt (nI_leI (a := N) (b := i) (by omega) (by omega)).mpr c34
          have c34n := Nat.lt_of_not_le c34n
          have c34 := Int32.not_le.mp c34
          refine go_iload_n dX12_envy_37 rfl ?_
          refine go_iload_n dX12_envy_38 rfl ?_
          refine go_if_lt dX12_envy_39 (fun c39 => ?_) (fun c39 => ?_)
          · refine go_aload_n dX12_envy_47 rfl ?_
            refine go_iload_n dX12_envy_48 rfl ?_
            refine go_Vr [.int (nI i)] [.int x] dX12_envy_49 vl_X12_312 ⟨by decide, by decide⟩ (e_X12_envyOf (F := (upd F 16 (0))) (A := A) (L := L) (K := K) hq hn hN hN8 hM5 hI (by omega)) mo_obj hq (by omega) rfl rfl (Nat.le_of_ble_eq_true rfl) (Nat.le_of_ble_eq_true rfl) (Nat.le_of_ble_eq_true rfl) ?_
            refine go_goto dX12_envy_52 ?_
            refine go_iadd dX12_envy_56 ?_
            refine go_istore_n (ls' := [some (.ref q), some (.int p), some (.int (x + (evS N A i))), some (.int (nI i))]) dX12_envy_57 ⟨by decide, rfl, rfl⟩ ?_
            refine go_iinc (v := nI (i + 1)) (ls' := [some (.ref q), some (.int p), some (.int (x + (evS N A i))), some (.int (nI (i + 1)))]) dX12_envy_58 rfl (nI_1 (i)) ⟨by decide, rfl, rfl⟩ ?_
            refine go_goto dX12_envy_61 ?_
            exact ih_lp0 (i + 1) _ (by omega) (by omega) (by simp [hx, smS, c20, c34, c34n, c39])
          · refine go_iload_n dX12_envy_42 rfl ?_
            refine go_iload_n dX12_envy_43 rfl ?_
            refine go_icmp_ne dX12_envy_44 (fun c44 => ?_) (fun c44 => ?_)
            · refine go_iconst (v := 0) dX12_envy_55 rfl ?_
              refine go_iadd dX12_envy_56 ?_
              refine go_istore_n (ls' := [some (.ref q), some (.int p), some (.int (x + 0)), some (.int (nI i))]) dX12_envy_57 ⟨by decide, rfl, rfl⟩ ?_
              refine go_iinc (v := nI (i + 1)) (ls' := [some (.ref q), some (.int p), some (.int (x + 0)), some (.int (nI (i + 1)))]) dX12_envy_58 rfl (nI_1 (i)) ⟨by decide, rfl, rfl⟩ ?_
              refine go_goto dX12_envy_61 ?_
              exact ih_lp0 (i + 1) _ (by omega) (by omega) (by simp [hx, smS, c20, c34, c34n, c39, c44])
            · refine go_aload_n dX12_envy_47 rfl ?_
              refine go_iload_n dX12_envy_48 rfl ?_
              refine go_Vr [.int (nI i)] [.int x] dX12_envy_49 vl_X12_312 ⟨by decide, by decide⟩ (e_X12_envyOf (F := (upd F 16 (0))) (A := A) (L := L) (K := K) hq hn hN hN8 hM5 hI (by omega)) mo_obj hq (by omega) rfl rfl (Nat.le_of_ble_eq_true rfl) (Nat.le_of_ble_eq_true rfl) (Nat.le_of_ble_eq_true rfl) ?_
              refine go_goto dX12_envy_52 ?_
              refine go_iadd dX12_envy_56 ?_
              refine go_istore_n (ls' := [some (.ref q), some (.int p), some (.int (x + (evS N A i))), some (.int (nI i))]) dX12_envy_57 ⟨by decide, rfl, rfl⟩ ?_
              refine go_iinc (v := nI (i + 1)) (ls' := [some (.ref q), some (.int p), some (.int (x + (evS N A i))), some (.int (nI (i + 1)))]) dX12_envy_58 rfl (nI_1 (i)) ⟨by decide, rfl, rfl⟩ ?_
              refine go_goto dX12_envy_61 ?_
              exact ih_lp0 (i + 1) _ (by omega) (by omega) (by simp [hx, smS, c20, c34, c34n, c39, c44])
    exact lp0 (N + 1) 0 _ (Nat.zero_le _) (by omega) (rfl)
  · have c20 := bz_f c20
    refine go_iconst (v := (-1)) dX12_envy_23 rfl ?_
    exact go_iret dX12_envy_24 rfl (Nat.le_of_ble_eq_true rfl) (Nat.le_of_ble_eq_true rfl) (hQ9 ▸ ⟨rd_i (by unfold envS; rw [if_neg c20]), rfl, rfl⟩)
set_option maxHeartbeats 4000000 in
set_option maxRecDepth 100000 in
theorem e_X12_wouldPay (hq : G.2.1 ≤ q) (hn : q + 25 ≤ n) (hN : F 0 = nI N) (hN8 : N ≤ 8) {z : Int32} : Ev G mX12_wouldPay 3 0 0 [.ref q, .int z] (mo G m0 q F A L K) n (RD (.int (wpS N A z)) (mo G m0 q F A L K) n) := by
  generalize hQ9 : (RD (.int (wpS N A z)) (mo G m0 q F A L K) n : RQ) = Q9
  refine ev_of (by decide) (Nat.le_of_ble_eq_true rfl) (ls := [some (.ref q), some (.int z), none, none, none]) rfl (fun hb => ?_)
  refine go_iconst (v := 0) dX12_wouldPay_0 rfl ?_
  refine go_istore_n (ls' := [some (.ref q), some (.int z), some (.int 0), none, none]) dX12_wouldPay_1 ⟨by decide, rfl, rfl⟩ ?_
  refine go_iconst (v := 0) dX12_wouldPay_2 rfl ?_
  refine go_istore_n (ls' := [some (.ref q), some (.int z), some (.int 0), some (.int 0), none]) dX12_wouldPay_3 ⟨by decide, rfl, rfl⟩ ?_
  have lp0 : ∀ (μ_lp0 : Nat) (i : Nat) (x : Int32) (hi : i ≤ N) (hmi : N + 1 ≤ i + μ_lp0) (hx : x = cnS (wpP N A z) i), Go G mX12_wouldPay 3 0 0 Q9 0 0 4 [some (.ref q), some (.int z), some (.int x), some (.int (nI i)), none] [] (mo G m0 q F A L K) n := by
    intro μ_lp0
    induction μ_lp0 with
    | zero =>
      intro i x hi hmi hx
      exact absurd hmi (by omega)
    | succ μ_lp0 ih_lp0 =>
      intro i x hi hmi hx
      refine go_iload_n dX12_wouldPay_4 rfl ?_
      refine go_aload_n dX12_wouldPay_5 rfl ?_
      refine go_get dX12_wouldPay_6 fl_X12_87_12 mo_obj hq (by omega) rfl ?_
      refine go_tp (z := nI N) (hN) ?_
      refine go_icmp_ge dX12_wouldPay_9 (fun c9 => ?_) (fun c9 => ?_)
      · have c9n := (nI_leI (a := N) (b := i) (by omega) (by omega)).mp c9
        have c9n := Nat.not_lt.mpr c9n
        have c9 := Int32.not_lt.mpr c9
        refine go_iload_n dX12_wouldPay_52 rfl ?_
        exact go_iret dX12_wouldPay_53 rfl (Nat.le_of_ble_eq_true rfl) (Nat.le_of_ble_eq_true rfl) (hQ9 ▸ ⟨rd_i (by rw [hx, show i = N by omega]; rfl), rfl, rfl⟩)
      · have c9n := mt (nI_leI (a := N) (b := i) (by omega) (by omega)).mpr c9
        have c9n := Nat.lt_of_not_le c9n
        have c9 := Int32.not_le.mp c9
        refine go_aload_n dX12_wouldPay_12 rfl ?_
        refine go_iload_n dX12_wouldPay_13 rfl ?_
        refine go_Vr [.int (nI i)] [] dX12_wouldPay_14 vl_X12_111 ⟨by decide, by decide⟩ (e_X12_mateOf (F := F) (A := A) (L := L) (K := K) hq hn hN hN8 (by omega)) mo_obj hq (by omega) rfl rfl (Nat.le_of_ble_eq_true rfl) (Nat.le_of_ble_eq_true rfl) (Nat.le_of_ble_eq_true rfl) ?_
        refine go_istore (ls' := [some (.ref q), some (.int z), some (.int x), some (.int (nI i)), some (.int (mateS N (A 4) i))]) dX12_wouldPay_17 ⟨by decide, rfl, rfl⟩ ?_
        refine go_iload_n dX12_wouldPay_19 rfl ?_
        refine go_iload dX12_wouldPay_20 rfl ?_
        refine go_if_lt dX12_wouldPay_22 (fun c22 => ?_) (fun c22 => ?_)
        · refine go_iconst (v := 0) dX12_wouldPay_43 rfl ?_
          refine go_iadd dX12_wouldPay_44 ?_
          refine go_istore_n (ls' := [some (.ref q), some (.int z), some (.int (x + 0)), some (.int (nI i)), some (.int (mateS N (A 4) i))]) dX12_wouldPay_45 ⟨by decide, rfl, rfl⟩ ?_
          refine go_iinc (v := nI (i + 1)) (ls' := [some (.ref q), some (.int z), some (.int (x + 0)), some (.int (nI (i + 1))), some (.int (mateS N (A 4) i))]) dX12_wouldPay_46 rfl (nI_1 (i)) ⟨by decide, rfl, rfl⟩ ?_
          refine go_goto dX12_wouldPay_49 ?_
          refine go_weak (ls' := [some (.ref q), some (.int z), some (.int (x + 0)), some (.int (nI (i + 1))), none]) ⟨rfl, rfl, rfl, rfl, trivial⟩ ?_
          exact ih_lp0 (i + 1) _ (by omega) (by omega) (by simp [hx, cnS, wpP, c9, c9n, c22])
        · obtain ⟨o22, ho22, hno22, eo22⟩ := mateS_nI hN8 c22
          refine go_ls (ls' := [some (.ref q), some (.int z), some (.int x), some (.int (nI i)), some (.int (nI o22))]) (by rw [eo22]) ?_
          have ko22 : (mateS N (A 4) i).toNatClampNeg = o22 := by rw [eo22]; exact nI_clamp (by omega)
          refine go_bipush (v := 12) dX12_wouldPay_25 rfl ?_
          refine go_aload_n dX12_wouldPay_27 rfl ?_
          refine go_iload_n dX12_wouldPay_28 rfl ?_
          refine go_iload dX12_wouldPay_29 rfl ?_
          refine go_Vr [.int (nI i), .int (nI o22)] [.int 12, .int x] dX12_wouldPay_31 vl_X12_108 ⟨by decide, by decide⟩ (e_X12_bearsOf (F := F) (A := A) (L := L) (K := K) hq hn (by omega) (by omega)) mo_obj hq (by omega) rfl rfl (Nat.le_of_ble_eq_true rfl) (Nat.le_of_ble_eq_true rfl) (Nat.le_of_ble_eq_true rfl) ?_
          refine go_tp (z := brS A i o22) (rfl) ?_
          refine go_isub dX12_wouldPay_34 ?_
          refine go_iload_n dX12_wouldPay_35 rfl ?_
          refine go_icmp_le dX12_wouldPay_36 (fun c36 => ?_) (fun c36 => ?_)
          · have c36 := Int32.not_lt.mpr c36
            refine go_iconst (v := 0) dX12_wouldPay_43 rfl ?_
            refine go_iadd dX12_wouldPay_44 ?_
            refine go_istore_n (ls' := [some (.ref q), some (.int z), some (.int (x + 0)), some (.int (nI i)), some (.int (nI o22))]) dX12_wouldPay_45 ⟨by decide, rfl, rfl⟩ ?_
            refine go_iinc (v := nI (i + 1)) (ls' := [some (.ref q), some (.int z), some (.int (x + 0)), some (.int (nI (i + 1))), some (.int (nI o22))]) dX12_wouldPay_46 rfl (nI_1 (i)) ⟨by decide, rfl, rfl⟩ ?_
            refine go_goto dX12_wouldPay_49 ?_
            refine go_weak (ls' := [some (.ref q), some (.int z), some (.int (x + 0)), some (.int (nI (i + 1))), none]) ⟨rfl, rfl, rfl, rfl, trivial⟩ ?_
            exact ih_lp0 (i + 1) _ (by omega) (by omega) (by simp [hx, cnS, wpP, c9, c9n, c22, ko22, c36])
          · have c36 := Int32.not_le.mp c36
            refine go_iconst (v := 1) dX12_wouldPay_39 rfl ?_
            refine go_goto dX12_wouldPay_40 ?_
            refine go_iadd dX12_wouldPay_44 ?_
            refine go_istore_n (ls' := [some (.ref q), some (.int z), some (.int (x + 1)), some (.int (nI i)), some (.int (nI o22))]) dX12_wouldPay_45 ⟨by decide, rfl, rfl⟩ ?_
            refine go_iinc (v := nI (i + 1)) (ls' := [some (.ref q), some (.int z), some (.int (x + 1)), some (.int (nI (i + 1))), some (.int (nI o22))]) dX12_wouldPay_46 rfl (nI_1 (i)) ⟨by decide, rfl, rfl⟩ ?_
            refine go_goto dX12_wouldPay_49 ?_
            refine go_weak (ls' := [some (.ref q), some (.int z), some (.int (x + 1)), some (.int (nI (i + 1))), none]) ⟨rfl, rfl, rfl, rfl, trivial⟩ ?_
            exact ih_lp0 (i + 1) _ (by omega) (by omega) (by simp [hx, cnS, wpP, c9, c9n, c22, ko22, c36])
  exact lp0 (N + 1) 0 _ (Nat.zero_le _) (by omega) (rfl)
set_option maxHeartbeats 4000000 in
set_option maxRecDepth 100000 in
theorem e_X12_alone (hq : G.2.1 ≤ q) (hn : q + 25 ≤ n) (hN : F 0 = nI N) (hN8 : N ≤ 8) {z : Int32} : Ev G mX12_alone 4 0 0 [.ref q, .int z] (mo G m0 q F A L K) n (fun r f1 n1 => r = some (.int (aloS N A z)) ∧ f1 = (mo G m0 q (upd F 16 (0)) A L K) ∧ n1 = n) := by
  generalize hQ9 : (fun r f1 n1 => r = some (.int (aloS N A z)) ∧ f1 = (mo G m0 q (upd F 16 (0)) A L K) ∧ n1 = n : RQ) = Q9
  refine ev_of (by decide) (Nat.le_of_ble_eq_true rfl) (ls := [some (.ref q), some (.int z)]) rfl (fun hb => ?_)
  refine go_aload_n dX12_alone_0 rfl ?_
  refine go_iconst (v := 0) dX12_alone_1 rfl ?_
  refine go_put dX12_alone_2 fp_X12_83_12 (Or.inr (fun _ _ _ h => by cases h; rfl)) mo_obj hq (by omega) (rfl) rfl (Nat.le_of_ble_eq_true rfl) ?_
  refine go_mem (mo_setO (F' := (upd F 16 (0))) (K' := K) rfl) ?_
  refine go_iload_n dX12_alone_5 rfl ?_
  refine go_i2l dX12_alone_6 ?_
  refine go_lconst (v := 0) dX12_alone_7 rfl ?_
  refine go_ldc2 (v := 99) dX12_alone_8 wm_1497 ?_
  refine go_Sr [.long (z).toInt64, .long 0, .long 99] [] dX12_alone_11 sl_X12_90 ⟨by decide, by decide⟩ (e_X12_lies) rfl rfl (Nat.le_of_ble_eq_true rfl) (Nat.le_of_ble_eq_true rfl) (Nat.le_of_ble_eq_true rfl) ?_
  refine go_tp (z := if okr z 0 99 then 1 else 0) (ite_c (li_okr rfl rfl)) ?_
  refine go_if_eq dX12_alone_14 (fun c14 => ?_) (fun c14 => ?_)
  · have c14 := bz_f c14
    refine go_iconst (v := (-1)) dX12_alone_25 rfl ?_
    exact go_iret dX12_alone_26 rfl (Nat.le_of_ble_eq_true rfl) (Nat.le_of_ble_eq_true rfl) (hQ9 ▸ ⟨rd_i (a := (-1)) (by simp [aloS, c14]), rfl, rfl⟩)
  · have c14 := bz_t c14
    refine go_aload_n dX12_alone_17 rfl ?_
    refine go_iload_n dX12_alone_18 rfl ?_
    refine go_Vr [.int z] [] dX12_alone_19 vl_X12_303 ⟨by decide, by decide⟩ (e_X12_wouldPay (F := (upd F 16 (0))) (A := A) (L := L) (K := K) hq hn hN hN8) mo_obj hq (by omega) rfl rfl (Nat.le_of_ble_eq_true rfl) (Nat.le_of_ble_eq_true rfl) (Nat.le_of_ble_eq_true rfl) ?_
    refine go_goto dX12_alone_22 ?_
    exact go_iret dX12_alone_26 rfl (Nat.le_of_ble_eq_true rfl) (Nat.le_of_ble_eq_true rfl) (hQ9 ▸ ⟨rd_i (a := wpS N A (z)) (by simp [aloS, c14]), rfl, rfl⟩)
set_option maxHeartbeats 4000000 in
set_option maxRecDepth 100000 in
theorem e_X12_price (hq : G.2.1 ≤ q) (hn : q + 25 ≤ n) (hN : F 0 = nI N) (hN8 : N ≤ 8) {z : Int32} : Ev G mX12_price 4 0 0 [.ref q, .int z] (mo G m0 q F A L K) n (fun r f1 n1 => r = some (.int (priS N A z)) ∧ f1 = (mo G m0 q (upd F 16 (0)) A L K) ∧ n1 = n) := by
  generalize hQ9 : (fun r f1 n1 => r = some (.int (priS N A z)) ∧ f1 = (mo G m0 q (upd F 16 (0)) A L K) ∧ n1 = n : RQ) = Q9
  refine ev_of (by decide) (Nat.le_of_ble_eq_true rfl) (ls := [some (.ref q), some (.int z), none, none]) rfl (fun hb => ?_)
  refine go_aload_n dX12_price_0 rfl ?_
  refine go_iconst (v := 0) dX12_price_1 rfl ?_
  refine go_put dX12_price_2 fp_X12_83_12 (Or.inr (fun _ _ _ h => by cases h; rfl)) mo_obj hq (by omega) (rfl) rfl (Nat.le_of_ble_eq_true rfl) ?_
  refine go_mem (mo_setO (F' := (upd F 16 (0))) (K' := K) rfl) ?_
  refine go_iload_n dX12_price_5 rfl ?_
  refine go_iconst (v := 1) dX12_price_6 rfl ?_
  refine go_icmp_ge dX12_price_7 (fun c7 => ?_) (fun c7 => ?_)
  · have c7 := Int32.not_lt.mpr c7
    refine go_bipush (v := (-4)) dX12_price_12 rfl ?_
    refine go_istore_n (ls' := [some (.ref q), some (.int z), some (.int (-4)), none]) dX12_price_14 ⟨by decide, rfl, rfl⟩ ?_
    refine go_iconst (v := 0) dX12_price_15 rfl ?_
    refine go_istore_n (ls' := [some (.ref q), some (.int z), some (.int (-4)), some (.int 0)]) dX12_price_16 ⟨by decide, rfl, rfl⟩ ?_
    have lp0 : ∀ (μ_lp0 : Nat) (i : Nat) (x : Int32) (hi : i ≤ 100) (hmi : 100 + 1 ≤ i + μ_lp0) (hx : x = lsB (fun q => decide (¬ wpS N A (nI q) < z)) i), Go G mX12_price 4 0 0 Q9 0 0 17 [some (.ref q), some (.int z), some (.int x), some (.int (nI i))] [] (mo G m0 q (upd F 16 (0)) A L K) n := by
      intro μ_lp0
      induction μ_lp0 with
      | zero =>
        intro i x hi hmi hx
        exact absurd hmi (by omega)
      | succ μ_lp0 ih_lp0 =>
        intro i x hi hmi hx
        refine go_iload_n dX12_price_17 rfl ?_
        refine go_bipush (v := 99) dX12_price_18 rfl ?_
        refine go_icmp_gt dX12_price_20 (fun c20 => ?_) (fun c20 => ?_)
        · have c20n := (nI_ltI (a := 99) (b := i) (by omega) (by omega)).mp c20
          refine go_iload_n dX12_price_44 rfl ?_
          exact go_iret dX12_price_45 rfl (Nat.le_of_ble_eq_true rfl) (Nat.le_of_ble_eq_true rfl) (hQ9 ▸ ⟨rd_i (by unfold priS; rw [if_neg c7, hx, show i = 100 by omega]), rfl, rfl⟩)
        · have c20n := mt (nI_ltI (a := 99) (b := i) (by omega) (by omega)).mpr c20
          refine go_aload_n dX12_price_23 rfl ?_
          refine go_iload_n dX12_price_24 rfl ?_
          refine go_Vr [.int (nI i)] [] dX12_price_25 vl_X12_303 ⟨by decide, by decide⟩ (e_X12_wouldPay (F := (upd F 16 (0))) (A := A) (L := L) (K := K) hq hn hN hN8) mo_obj hq (by omega) rfl rfl (Nat.le_of_ble_eq_true rfl) (Nat.le_of_ble_eq_true rfl) (Nat.le_of_ble_eq_true rfl) ?_
          refine go_iload_n dX12_price_28 rfl ?_
          refine go_icmp_lt dX12_price_29 (fun c29 => ?_) (fun c29 => ?_)
          · refine go_iload_n dX12_price_36 rfl ?_
            refine go_istore_n (ls' := [some (.ref q), some (.int z), some (.int x), some (.int (nI i))]) dX12_price_37 ⟨by decide, rfl, rfl⟩ ?_
            refine go_iinc (v := nI (i + 1)) (ls' := [some (.ref q), some (.int z), some (.int x), some (.int (nI (i + 1)))]) dX12_price_38 rfl (nI_1 (i)) ⟨by decide, rfl, rfl⟩ ?_
            refine go_goto dX12_price_41 ?_
            exact ih_lp0 (i + 1) _ (by omega) (by omega) (by simp [hx, lsB, c7, c20, c20n, c29])
          · refine go_iload_n dX12_price_32 rfl ?_
            refine go_goto dX12_price_33 ?_
            refine go_istore_n (ls' := [some (.ref q), some (.int z), some (.int (nI i)), some (.int (nI i))]) dX12_price_37 ⟨by decide, rfl, rfl⟩ ?_
            refine go_iinc (v := nI (i + 1)) (ls' := [some (.ref q), some (.int z), some (.int (nI i)), some (.int (nI (i + 1)))]) dX12_price_38 rfl (nI_1 (i)) ⟨by decide, rfl, rfl⟩ ?_
            refine go_goto dX12_price_41 ?_
            exact ih_lp0 (i + 1) _ (by omega) (by omega) (by simp [hx, lsB, c7, c20, c20n, c29])
    exact lp0 (100 + 1) 0 _ (Nat.zero_le _) (by omega) (rfl)
  · have c7 := Int32.not_le.mp c7
    refine go_iconst (v := (-1)) dX12_price_10 rfl ?_
    exact go_iret dX12_price_11 rfl (Nat.le_of_ble_eq_true rfl) (Nat.le_of_ble_eq_true rfl) (hQ9 ▸ ⟨rd_i (by unfold priS; rw [if_pos c7]), rfl, rfl⟩)
set_option maxHeartbeats 4000000 in
set_option maxRecDepth 100000 in
theorem e_X12_halfOf {p m v : Int32} : Ev G mX12_halfOf 1 0 0 [.ref q, .int p, .int m, .int v] (mo G m0 q F A L K) n (RD (.int (hfS p m v)) (mo G m0 q F A L K) n) := by
  generalize hQ9 : (RD (.int (hfS p m v)) (mo G m0 q F A L K) n : RQ) = Q9
  refine ev_of (by decide) (Nat.le_of_ble_eq_true rfl) (ls := [some (.ref q), some (.int p), some (.int m), some (.int v)]) rfl (fun hb => ?_)
  refine go_iload_n dX12_halfOf_0 rfl ?_
  refine go_iload_n dX12_halfOf_1 rfl ?_
  refine go_icmp_ge dX12_halfOf_2 (fun c2 => ?_) (fun c2 => ?_)
  · have c2 := Int32.not_lt.mpr c2
    refine go_iload_n dX12_halfOf_13 rfl ?_
    refine go_iconst (v := 2) dX12_halfOf_14 rfl ?_
    refine go_idiv dX12_halfOf_15 (by decide) ?_
    exact go_iret dX12_halfOf_16 rfl (Nat.le_of_ble_eq_true rfl) (Nat.le_of_ble_eq_true rfl) ((hQ9 ▸ ⟨rd_i (a := (v) / (2)) (by simp [hfS, c2]), rfl, rfl⟩))
  · have c2 := Int32.not_le.mp c2
    refine go_iload_n dX12_halfOf_5 rfl ?_
    refine go_iload_n dX12_halfOf_6 rfl ?_
    refine go_iconst (v := 2) dX12_halfOf_7 rfl ?_
    refine go_idiv dX12_halfOf_8 (by decide) ?_
    refine go_isub dX12_halfOf_9 ?_
    refine go_goto dX12_halfOf_10 ?_
    exact go_iret dX12_halfOf_16 rfl (Nat.le_of_ble_eq_true rfl) (Nat.le_of_ble_eq_true rfl) ((hQ9 ▸ ⟨rd_i (a := v - ((v) / (2))) (by simp [hfS, c2]), rfl, rfl⟩))
set_option maxHeartbeats 4000000 in
set_option maxRecDepth 100000 in
theorem e_X12_cost (hq : G.2.1 ≤ q) (hn : q + 25 ≤ n) {d : Int32} : Ev G mX12_cost 3 0 0 [.ref q, .int d] (mo G m0 q F A L K) n (fun r f1 n1 => r = some (.int (cosS A d)) ∧ f1 = (mo G m0 q (upd F 16 (0)) A L K) ∧ n1 = n) := by
  generalize hQ9 : (fun r f1 n1 => r = some (.int (cosS A d)) ∧ f1 = (mo G m0 q (upd F 16 (0)) A L K) ∧ n1 = n : RQ) = Q9
  refine ev_of (by decide) (Nat.le_of_ble_eq_true rfl) (ls := [some (.ref q), some (.int d)]) rfl (fun hb => ?_)
  refine go_aload_n dX12_cost_0 rfl ?_
  refine go_iconst (v := 0) dX12_cost_1 rfl ?_
  refine go_put dX12_cost_2 fp_X12_83_12 (Or.inr (fun _ _ _ h => by cases h; rfl)) mo_obj hq (by omega) (rfl) rfl (Nat.le_of_ble_eq_true rfl) ?_
  refine go_mem (mo_setO (F' := (upd F 16 (0))) (K' := K) rfl) ?_
  refine go_aload_n dX12_cost_5 rfl ?_
  refine go_iload_n dX12_cost_6 rfl ?_
  refine go_Vr [.int d] [] dX12_cost_7 vl_X12_221 ⟨by decide, by decide⟩ (e_X12_wrongKept (F := (upd F 16 (0))) (A := A) (L := L) (K := K) hq hn) mo_obj hq (by omega) rfl rfl (Nat.le_of_ble_eq_true rfl) (Nat.le_of_ble_eq_true rfl) (Nat.le_of_ble_eq_true rfl) ?_
  refine go_if_ge dX12_cost_10 (fun c10 => ?_) (fun c10 => ?_)
  · have c10 := Int32.not_lt.mpr c10
    obtain ⟨jd, hjd, rfl, ejd⟩ := wkS_ok c10
    have kjd : (nI jd).toNatClampNeg = jd := nI_clamp (by omega)
    refine go_aload_n dX12_cost_21 rfl ?_
    refine go_get dX12_cost_22 fl_X12_34_12 mo_obj hq (by omega) rfl ?_
    refine go_iload_n dX12_cost_25 rfl ?_
    refine go_iald dX12_cost_26 (mo_arr 9 (by decide)) (by omega) (by omega) (vp_in_nI (n := jd) (by show jd < 8; omega) (by decide)) ?_
    refine go_tp (z := A 9 jd) (by rw [nI_clamp (by omega)]) ?_
    refine go_aload_n dX12_cost_27 rfl ?_
    refine go_get dX12_cost_28 fl_X12_37_12 mo_obj hq (by omega) rfl ?_
    refine go_iload_n dX12_cost_31 rfl ?_
    refine go_iald dX12_cost_32 (mo_arr 10 (by decide)) (by omega) (by omega) (vp_in_nI (n := jd) (by show jd < 8; omega) (by decide)) ?_
    refine go_tp (z := A 10 jd) (by rw [nI_clamp (by omega)]) ?_
    refine go_Sr [.int (A 9 jd), .int (A 10 jd)] [] dX12_cost_33 sl_X12_362 ⟨by decide, by decide⟩ (e_X12_costOf) rfl rfl (Nat.le_of_ble_eq_true rfl) (Nat.le_of_ble_eq_true rfl) (Nat.le_of_ble_eq_true rfl) ?_
    exact go_iret dX12_cost_36 rfl (Nat.le_of_ble_eq_true rfl) (Nat.le_of_ble_eq_true rfl) (hQ9 ▸ ⟨rd_i (a := costS (A 9 jd) (A 10 jd)) (by simp [cosS, c10, kjd]), rfl, rfl⟩)
  · have c10 := Int32.not_le.mp c10
    refine go_aload_n dX12_cost_13 rfl ?_
    refine go_iload_n dX12_cost_14 rfl ?_
    refine go_Vr [.int d] [] dX12_cost_15 vl_X12_221 ⟨by decide, by decide⟩ (e_X12_wrongKept (F := (upd F 16 (0))) (A := A) (L := L) (K := K) hq hn) mo_obj hq (by omega) rfl rfl (Nat.le_of_ble_eq_true rfl) (Nat.le_of_ble_eq_true rfl) (Nat.le_of_ble_eq_true rfl) ?_
    refine go_goto dX12_cost_18 ?_
    exact go_iret dX12_cost_36 rfl (Nat.le_of_ble_eq_true rfl) (Nat.le_of_ble_eq_true rfl) (hQ9 ▸ ⟨rd_i (a := wkS (A 8) 1 (d)) (by simp [cosS, c10]), rfl, rfl⟩)
set_option maxHeartbeats 4000000 in
set_option maxRecDepth 100000 in
theorem e_X12_toss (hq : G.2.1 ≤ q) (hn : q + 25 ≤ n) {d : Int32} : Ev G mX12_toss 3 0 0 [.ref q, .int d] (mo G m0 q F A L K) n (fun r f1 n1 => r = some (.int (tosS A d)) ∧ f1 = (mo G m0 q (upd F 16 (0)) A L K) ∧ n1 = n) := by
  generalize hQ9 : (fun r f1 n1 => r = some (.int (tosS A d)) ∧ f1 = (mo G m0 q (upd F 16 (0)) A L K) ∧ n1 = n : RQ) = Q9
  refine ev_of (by decide) (Nat.le_of_ble_eq_true rfl) (ls := [some (.ref q), some (.int d), none, none]) rfl (fun hb => ?_)
  refine go_aload_n dX12_toss_0 rfl ?_
  refine go_iconst (v := 0) dX12_toss_1 rfl ?_
  refine go_put dX12_toss_2 fp_X12_83_12 (Or.inr (fun _ _ _ h => by cases h; rfl)) mo_obj hq (by omega) (rfl) rfl (Nat.le_of_ble_eq_true rfl) ?_
  refine go_mem (mo_setO (F' := (upd F 16 (0))) (K' := K) rfl) ?_
  refine go_aload_n dX12_toss_5 rfl ?_
  refine go_iload_n dX12_toss_6 rfl ?_
  refine go_Vr [.int d] [] dX12_toss_7 vl_X12_221 ⟨by decide, by decide⟩ (e_X12_wrongKept (F := (upd F 16 (0))) (A := A) (L := L) (K := K) hq hn) mo_obj hq (by omega) rfl rfl (Nat.le_of_ble_eq_true rfl) (Nat.le_of_ble_eq_true rfl) (Nat.le_of_ble_eq_true rfl) ?_
  refine go_if_ge dX12_toss_10 (fun c10 => ?_) (fun c10 => ?_)
  · have c10 := Int32.not_lt.mpr c10
    obtain ⟨jd, hjd, rfl, ejd⟩ := wkS_ok c10
    have kjd : (nI jd).toNatClampNeg = jd := nI_clamp (by omega)
    refine go_aload_n dX12_toss_19 rfl ?_
    refine go_get dX12_toss_20 fl_X12_34_12 mo_obj hq (by omega) rfl ?_
    refine go_iload_n dX12_toss_23 rfl ?_
    refine go_iald dX12_toss_24 (mo_arr 9 (by decide)) (by omega) (by omega) (vp_in_nI (n := jd) (by show jd < 8; omega) (by decide)) ?_
    refine go_tp (z := A 9 jd) (by rw [nI_clamp (by omega)]) ?_
    refine go_istore_n (ls' := [some (.ref q), some (.int (nI jd)), some (.int (A 9 jd)), none]) dX12_toss_25 ⟨by decide, rfl, rfl⟩ ?_
    refine go_aload_n dX12_toss_26 rfl ?_
    refine go_get dX12_toss_27 fl_X12_37_12 mo_obj hq (by omega) rfl ?_
    refine go_iload_n dX12_toss_30 rfl ?_
    refine go_iald dX12_toss_31 (mo_arr 10 (by decide)) (by omega) (by omega) (vp_in_nI (n := jd) (by show jd < 8; omega) (by decide)) ?_
    refine go_tp (z := A 10 jd) (by rw [nI_clamp (by omega)]) ?_
    refine go_istore_n (ls' := [some (.ref q), some (.int (nI jd)), some (.int (A 9 jd)), some (.int (A 10 jd))]) dX12_toss_32 ⟨by decide, rfl, rfl⟩ ?_
    refine go_iload_n dX12_toss_33 rfl ?_
    refine go_iconst (v := 1) dX12_toss_34 rfl ?_
    refine go_icmp_eq dX12_toss_35 (fun c35 => ?_) (fun c35 => ?_)
    · refine go_bipush (v := (-15)) dX12_toss_47 rfl ?_
      exact go_iret dX12_toss_49 rfl (Nat.le_of_ble_eq_true rfl) (Nat.le_of_ble_eq_true rfl) (hQ9 ▸ ⟨rd_i (a := (-15)) (by simp [tosS, tosV, c10, kjd, c35]), rfl, rfl⟩)
    · refine go_iload_n dX12_toss_38 rfl ?_
      refine go_iconst (v := 5) dX12_toss_39 rfl ?_
      refine go_icmp_eq dX12_toss_40 (fun c40 => ?_) (fun c40 => ?_)
      · refine go_bipush (v := (-15)) dX12_toss_47 rfl ?_
        exact go_iret dX12_toss_49 rfl (Nat.le_of_ble_eq_true rfl) (Nat.le_of_ble_eq_true rfl) (hQ9 ▸ ⟨rd_i (a := (-15)) (by simp [tosS, tosV, c10, kjd, c35, c40]), rfl, rfl⟩)
      · refine go_iload_n dX12_toss_43 rfl ?_
        refine go_if_ne dX12_toss_44 (fun c44 => ?_) (fun c44 => ?_)
        · refine go_iload_n dX12_toss_50 rfl ?_
          refine go_iconst (v := 4) dX12_toss_51 rfl ?_
          refine go_icmp_ne dX12_toss_52 (fun c52 => ?_) (fun c52 => ?_)
          · refine go_iload_n dX12_toss_67 rfl ?_
            refine go_iconst (v := 2) dX12_toss_68 rfl ?_
            refine go_icmp_eq dX12_toss_69 (fun c69 => ?_) (fun c69 => ?_)
            · refine go_bipush (v := 100) dX12_toss_78 rfl ?_
              refine go_iload_n dX12_toss_80 rfl ?_
              refine go_iadd dX12_toss_81 ?_
              refine go_goto dX12_toss_82 ?_
              exact go_iret dX12_toss_86 rfl (Nat.le_of_ble_eq_true rfl) (Nat.le_of_ble_eq_true rfl) (hQ9 ▸ ⟨rd_i (a := 100 + (A 10 jd)) (by simp [tosS, tosV, c10, kjd, c35, c40, c44, c52, c69]), rfl, rfl⟩)
            · refine go_iload_n dX12_toss_72 rfl ?_
              refine go_bipush (v := 6) dX12_toss_73 rfl ?_
              refine go_icmp_ne dX12_toss_75 (fun c75 => ?_) (fun c75 => ?_)
              · refine go_iload_n dX12_toss_85 rfl ?_
                exact go_iret dX12_toss_86 rfl (Nat.le_of_ble_eq_true rfl) (Nat.le_of_ble_eq_true rfl) (hQ9 ▸ ⟨rd_i (a := A 10 jd) (by simp [tosS, tosV, c10, kjd, c35, c40, c44, c52, c69, c75]), rfl, rfl⟩)
              · refine go_bipush (v := 100) dX12_toss_78 rfl ?_
                refine go_iload_n dX12_toss_80 rfl ?_
                refine go_iadd dX12_toss_81 ?_
                refine go_goto dX12_toss_82 ?_
                exact go_iret dX12_toss_86 rfl (Nat.le_of_ble_eq_true rfl) (Nat.le_of_ble_eq_true rfl) (hQ9 ▸ ⟨rd_i (a := 100 + (A 10 jd)) (by simp [tosS, tosV, c10, kjd, c35, c40, c44, c52, c69, c75]), rfl, rfl⟩)
          · refine go_sipush (v := 200) dX12_toss_55 rfl ?_
            refine go_iload_n dX12_toss_58 rfl ?_
            refine go_iload_n dX12_toss_59 rfl ?_
            refine go_Sr [.int (A 9 jd), .int (A 10 jd)] [.int 200] dX12_toss_60 sl_X12_362 ⟨by decide, by decide⟩ (e_X12_costOf) rfl rfl (Nat.le_of_ble_eq_true rfl) (Nat.le_of_ble_eq_true rfl) (Nat.le_of_ble_eq_true rfl) ?_
            refine go_iadd dX12_toss_63 ?_
            refine go_goto dX12_toss_64 ?_
            exact go_iret dX12_toss_86 rfl (Nat.le_of_ble_eq_true rfl) (Nat.le_of_ble_eq_true rfl) (hQ9 ▸ ⟨rd_i (a := 200 + (costS (A 9 jd) (A 10 jd))) (by simp [tosS, tosV, c10, kjd, c35, c40, c44, c52]), rfl, rfl⟩)
        · refine go_bipush (v := (-15)) dX12_toss_47 rfl ?_
          exact go_iret dX12_toss_49 rfl (Nat.le_of_ble_eq_true rfl) (Nat.le_of_ble_eq_true rfl) (hQ9 ▸ ⟨rd_i (a := (-15)) (by simp [tosS, tosV, c10, kjd, c35, c40, c44]), rfl, rfl⟩)
  · have c10 := Int32.not_le.mp c10
    refine go_aload_n dX12_toss_13 rfl ?_
    refine go_iload_n dX12_toss_14 rfl ?_
    refine go_Vr [.int d] [] dX12_toss_15 vl_X12_221 ⟨by decide, by decide⟩ (e_X12_wrongKept (F := (upd F 16 (0))) (A := A) (L := L) (K := K) hq hn) mo_obj hq (by omega) rfl rfl (Nat.le_of_ble_eq_true rfl) (Nat.le_of_ble_eq_true rfl) (Nat.le_of_ble_eq_true rfl) ?_
    exact go_iret dX12_toss_18 rfl (Nat.le_of_ble_eq_true rfl) (Nat.le_of_ble_eq_true rfl) (hQ9 ▸ ⟨rd_i (a := wkS (A 8) 1 (d)) (by simp [tosS, tosV, c10]), rfl, rfl⟩)
end M4
