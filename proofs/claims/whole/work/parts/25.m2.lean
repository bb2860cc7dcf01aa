section M2
variable {G : GX} {m0 f : Mem} {q n N M : Nat} {F : Nat → Int32} {A : Nat → Nat → Int32} {L : Nat → Nat → Int64} {K : Option Nat}
set_option maxHeartbeats 4000000 in
set_option maxRecDepth 100000 in
theorem e_X12_contentOf (hq : G.2.1 ≤ q) (hn : q + 25 ≤ n) (hN : F 0 = nI N) (hN8 : N ≤ 8) (hM5 : M ≤ 5) (hI : insOK N M (A 4)) {p : Nat} (hp : p < N) : Ev G mX12_contentOf 3 0 0 [.ref q, .int (nI p)] (mo G m0 q F A L K) n (RD (.int (ctS N A p)) (mo G m0 q F A L K) n) := by
  generalize hQ9 : (RD (.int (ctS N A p)) (mo G m0 q F A L K) n : RQ) = Q9
  refine ev_of (by decide) (Nat.le_of_ble_eq_true rfl) (ls := [some (.ref q), some (.int (nI p)), none]) rfl (fun hb => ?_)
  refine go_aload_n dX12_contentOf_0 rfl ?_
  refine go_get dX12_contentOf_1 fl_X12_19_12 mo_obj hq (by omega) rfl ?_
  refine go_iload_n dX12_contentOf_4 rfl ?_
  refine go_iald dX12_contentOf_5 (mo_arr 4 (by decide)) (by omega) (by omega) (vp_in_nI (n := p) (by show p < 8; omega) (by decide)) ?_
  refine go_tp (z := A 4 p) (by rw [nI_clamp (by omega)]) ?_
  refine go_bipush (v := 9) dX12_contentOf_6 rfl ?_
  refine go_icmp_ne dX12_contentOf_8 (fun c8 => ?_) (fun c8 => ?_)
  · obtain ⟨l8, hl8, el8⟩ := (hI p (by omega)).resolve_left c8
    refine go_aload_n dX12_contentOf_14 rfl ?_
    refine go_iload_n dX12_contentOf_15 rfl ?_
    refine go_Vr [.int (nI p)] [] dX12_contentOf_16 vl_X12_111 ⟨by decide, by decide⟩ (e_X12_mateOf (F := F) (A := A) (L := L) (K := K) hq hn hN hN8 (by omega)) mo_obj hq (by omega) rfl rfl (Nat.le_of_ble_eq_true rfl) (Nat.le_of_ble_eq_true rfl) (Nat.le_of_ble_eq_true rfl) ?_
    refine go_istore_n (ls' := [some (.ref q), some (.int (nI p)), some (.int (mateS N (A 4) p))]) dX12_contentOf_19 ⟨by decide, rfl, rfl⟩ ?_
    refine go_iload_n dX12_contentOf_20 rfl ?_
    refine go_if_ge dX12_contentOf_21 (fun c21 => ?_) (fun c21 => ?_)
    · have c21 := Int32.not_lt.mpr c21
      obtain ⟨o21, ho21, hno21, eo21⟩ := mateS_nI hN8 c21
      refine go_ls (ls' := [some (.ref q), some (.int (nI p)), some (.int (nI o21))]) (by rw [eo21]) ?_
      have ko21 : (mateS N (A 4) p).toNatClampNeg = o21 := by rw [eo21]; exact nI_clamp (by omega)
      refine go_aload_n dX12_contentOf_29 rfl ?_
      refine go_iload_n dX12_contentOf_30 rfl ?_
      refine go_iload_n dX12_contentOf_31 rfl ?_
      refine go_Vr [.int (nI p), .int (nI o21)] [] dX12_contentOf_32 vl_X12_108 ⟨by decide, by decide⟩ (e_X12_bearsOf (F := F) (A := A) (L := L) (K := K) hq hn (by omega) (by omega)) mo_obj hq (by omega) rfl rfl (Nat.le_of_ble_eq_true rfl) (Nat.le_of_ble_eq_true rfl) (Nat.le_of_ble_eq_true rfl) ?_
      refine go_tp (z := brS A p o21) (rfl) ?_
      refine go_aload_n dX12_contentOf_35 rfl ?_
      refine go_iload_n dX12_contentOf_36 rfl ?_
      refine go_aload_n dX12_contentOf_37 rfl ?_
      refine go_get dX12_contentOf_38 fl_X12_19_12 mo_obj hq (by omega) rfl ?_
      refine go_iload_n dX12_contentOf_41 rfl ?_
      refine go_iald dX12_contentOf_42 (mo_arr 4 (by decide)) (by omega) (by omega) (vp_in_nI (n := p) (by show p < 8; omega) (by decide)) ?_
      refine go_tp (z := A 4 p) (by rw [nI_clamp (by omega)]) ?_
      refine go_tp (z := nI l8) (el8) ?_
      refine go_Vr [.int (nI p), .int (nI l8)] [.int (brS A p o21)] dX12_contentOf_43 vl_X12_114 ⟨by decide, by decide⟩ (e_X12_troubleOf (F := F) (A := A) (L := L) (K := K) hq hn (by omega) (by omega)) mo_obj hq (by omega) rfl rfl (Nat.le_of_ble_eq_true rfl) (Nat.le_of_ble_eq_true rfl) (Nat.le_of_ble_eq_true rfl) ?_
      refine go_tp (z := trS A p l8) (rfl) ?_
      refine go_isub dX12_contentOf_46 ?_
      exact go_iret dX12_contentOf_47 rfl (Nat.le_of_ble_eq_true rfl) (Nat.le_of_ble_eq_true rfl) ((hQ9 ▸ ⟨rd_i (by show _ = cpS _ _ _ _; rw [el8, cpS_in (by omega) (by omega) eo21]), rfl, rfl⟩))
    · have c21 := Int32.not_le.mp c21
      refine go_bipush (v := 12) dX12_contentOf_24 rfl ?_
      refine go_goto dX12_contentOf_26 ?_
      refine go_aload_n dX12_contentOf_35 rfl ?_
      refine go_iload_n dX12_contentOf_36 rfl ?_
      refine go_aload_n dX12_contentOf_37 rfl ?_
      refine go_get dX12_contentOf_38 fl_X12_19_12 mo_obj hq (by omega) rfl ?_
      refine go_iload_n dX12_contentOf_41 rfl ?_
      refine go_iald dX12_contentOf_42 (mo_arr 4 (by decide)) (by omega) (by omega) (vp_in_nI (n := p) (by show p < 8; omega) (by decide)) ?_
      refine go_tp (z := A 4 p) (by rw [nI_clamp (by omega)]) ?_
      refine go_tp (z := nI l8) (el8) ?_
      refine go_Vr [.int (nI p), .int (nI l8)] [.int 12] dX12_contentOf_43 vl_X12_114 ⟨by decide, by decide⟩ (e_X12_troubleOf (F := F) (A := A) (L := L) (K := K) hq hn (by omega) (by omega)) mo_obj hq (by omega) rfl rfl (Nat.le_of_ble_eq_true rfl) (Nat.le_of_ble_eq_true rfl) (Nat.le_of_ble_eq_true rfl) ?_
      refine go_tp (z := trS A p l8) (rfl) ?_
      refine go_isub dX12_contentOf_46 ?_
      exact go_iret dX12_contentOf_47 rfl (Nat.le_of_ble_eq_true rfl) (Nat.le_of_ble_eq_true rfl) ((hQ9 ▸ ⟨rd_i (by show _ = cpS _ _ _ _; rw [el8, cpS_al (by omega) c21]), rfl, rfl⟩))
  · refine go_bipush (v := (-20)) dX12_contentOf_11 rfl ?_
    exact go_iret dX12_contentOf_13 rfl (Nat.le_of_ble_eq_true rfl) (Nat.le_of_ble_eq_true rfl) ((hQ9 ▸ ⟨rd_i (by show _ = cpS _ _ _ _; rw [c8, cpS_no]), rfl, rfl⟩))
set_option maxHeartbeats 4000000 in
set_option maxRecDepth 100000 in
theorem e_X12_allContent (hq : G.2.1 ≤ q) (hn : q + 25 ≤ n) (hN : F 0 = nI N) (hN8 : N ≤ 8) (hM5 : M ≤ 5) (hI : insOK N M (A 4)) : Ev G mX12_allContent 4 0 0 [.ref q] (mo G m0 q F A L K) n (RD (.int (alS N A)) (mo G m0 q F A L K) n) := by
  generalize hQ9 : (RD (.int (alS N A)) (mo G m0 q F A L K) n : RQ) = Q9
  refine ev_of (by decide) (Nat.le_of_ble_eq_true rfl) (ls := [some (.ref q), none, none]) rfl (fun hb => ?_)
  refine go_iconst (v := 0) dX12_allContent_0 rfl ?_
  refine go_istore_n (ls' := [some (.ref q), some (.int 0), none]) dX12_allContent_1 ⟨by decide, rfl, rfl⟩ ?_
  refine go_iconst (v := 0) dX12_allContent_2 rfl ?_
  refine go_istore_n (ls' := [some (.ref q), some (.int 0), some (.int 0)]) dX12_allContent_3 ⟨by decide, rfl, rfl⟩ ?_
  have lp0 : ∀ (μ_lp0 : Nat) (i : Nat) (x : Int32) (hi : i ≤ N) (hmi : N + 1 ≤ i + μ_lp0) (hx : x = smS (ctS N A) i), Go G mX12_allContent 4 0 0 Q9 0 0 4 [some (.ref q), some (.int x), some (.int (nI i))] [] (mo G m0 q F A L K) n := by
    intro μ_lp0
    induction μ_lp0 with
    | zero =>
      intro i x hi hmi hx
      exact absurd hmi (by omega)
    | succ μ_lp0 ih_lp0 =>
      intro i x hi hmi hx
      refine go_iload_n dX12_allContent_4 rfl ?_
      refine go_aload_n dX12_allContent_5 rfl ?_
      refine go_get dX12_allContent_6 fl_X12_87_12 mo_obj hq (by omega) rfl ?_
      refine go_tp (z := nI N) (hN) ?_
      refine go_icmp_ge dX12_allContent_9 (fun c9 => ?_) (fun c9 => ?_)
      · have c9n := (nI_leI (a := N) (b := i) (by omega) (by omega)).mp c9
        have c9n := Nat.not_lt.mpr c9n
        have c9 := Int32.not_lt.mpr c9
        refine go_iload_n dX12_allContent_26 rfl ?_
        exact go_iret dX12_allContent_27 rfl (Nat.le_of_ble_eq_true rfl) (Nat.le_of_ble_eq_true rfl) ((hQ9 ▸ ⟨rd_i (by rw [hx, show i = N by omega]; rfl), rfl, rfl⟩))
      · have c9n := mt (nI_leI (a := N) (b := i) (by omega) (by omega)).mpr c9
        have c9n := Nat.lt_of_not_le c9n
        have c9 := Int32.not_le.mp c9
        refine go_iload_n dX12_allContent_12 rfl ?_
        refine go_aload_n dX12_allContent_13 rfl ?_
        refine go_iload_n dX12_allContent_14 rfl ?_
        refine go_Vr [.int (nI i)] [.int x] dX12_allContent_15 vl_X12_117 ⟨by decide, by decide⟩ (e_X12_contentOf (F := F) (A := A) (L := L) (K := K) hq hn hN hN8 hM5 hI (by omega)) mo_obj hq (by omega) rfl rfl (Nat.le_of_ble_eq_true rfl) (Nat.le_of_ble_eq_true rfl) (Nat.le_of_ble_eq_true rfl) ?_
        refine go_iadd dX12_allContent_18 ?_
        refine go_istore_n (ls' := [some (.ref q), some (.int (x + (ctS N A i))), some (.int (nI i))]) dX12_allContent_19 ⟨by decide, rfl, rfl⟩ ?_
        refine go_iinc (v := nI (i + 1)) (ls' := [some (.ref q), some (.int (x + (ctS N A i))), some (.int (nI (i + 1)))]) dX12_allContent_20 rfl (nI_1 (i)) ⟨by decide, rfl, rfl⟩ ?_
        refine go_goto dX12_allContent_23 ?_
        exact ih_lp0 (i + 1) _ (by omega) (by omega) (by rw [hx]; rfl)
  exact lp0 (N + 1) 0 _ (Nat.zero_le _) (by omega) (rfl)
set_option maxHeartbeats 4000000 in
set_option maxRecDepth 100000 in
theorem e_X12_inside (hq : G.2.1 ≤ q) (hn : q + 25 ≤ n) (hN : F 0 = nI N) (hN8 : N ≤ 8) {l : Int32} : Ev G mX12_inside 1 0 0 [.ref q, .int l] (mo G m0 q F A L K) n (RD (.int (inS N (A 4) l)) (mo G m0 q F A L K) n) := by
  generalize hQ9 : (RD (.int (inS N (A 4) l)) (mo G m0 q F A L K) n : RQ) = Q9
  refine ev_of (by decide) (Nat.le_of_ble_eq_true rfl) (ls := [some (.ref q), some (.int l), none, none]) rfl (fun hb => ?_)
  refine go_iconst (v := 0) dX12_inside_0 rfl ?_
  refine go_istore_n (ls' := [some (.ref q), some (.int l), some (.int 0), none]) dX12_inside_1 ⟨by decide, rfl, rfl⟩ ?_
  refine go_iconst (v := 0) dX12_inside_2 rfl ?_
  refine go_istore_n (ls' := [some (.ref q), some (.int l), some (.int 0), some (.int 0)]) dX12_inside_3 ⟨by decide, rfl, rfl⟩ ?_
  have lp0 : ∀ (μ_lp0 : Nat) (i : Nat) (x : Int32) (hi : i ≤ N) (hmi : N + 1 ≤ i + μ_lp0) (hx : x = cnS (fun p => decide (A 4 p = l)) i), Go G mX12_inside 1 0 0 Q9 0 0 4 [some (.ref q), some (.int l), some (.int x), some (.int (nI i))] [] (mo G m0 q F A L K) n := by
    intro μ_lp0
    induction μ_lp0 with
    | zero =>
      intro i x hi hmi hx
      exact absurd hmi (by omega)
    | succ μ_lp0 ih_lp0 =>
      intro i x hi hmi hx
      refine go_iload_n dX12_inside_4 rfl ?_
      refine go_aload_n dX12_inside_5 rfl ?_
      refine go_get dX12_inside_6 fl_X12_87_12 mo_obj hq (by omega) rfl ?_
      refine go_tp (z := nI N) (hN) ?_
      refine go_icmp_ge dX12_inside_9 (fun c9 => ?_) (fun c9 => ?_)
      · have c9n := (nI_leI (a := N) (b := i) (by omega) (by omega)).mp c9
        have c9n := Nat.not_lt.mpr c9n
        have c9 := Int32.not_lt.mpr c9
        refine go_iload_n dX12_inside_36 rfl ?_
        exact go_iret dX12_inside_37 rfl (Nat.le_of_ble_eq_true rfl) (Nat.le_of_ble_eq_true rfl) ((hQ9 ▸ ⟨rd_i (by rw [hx, show i = N by omega]; rfl), rfl, rfl⟩))
      · have c9n := mt (nI_leI (a := N) (b := i) (by omega) (by omega)).mpr c9
        have c9n := Nat.lt_of_not_le c9n
        have c9 := Int32.not_le.mp c9
        refine go_iload_n dX12_inside_12 rfl ?_
        refine go_aload_n dX12_inside_13 rfl ?_
        refine go_get dX12_inside_14 fl_X12_19_12 mo_obj hq (by omega) rfl ?_
        refine go_iload_n dX12_inside_17 rfl ?_
        refine go_iald dX12_inside_18 (mo_arr 4 (by decide)) (by omega) (by omega) (vp_in_nI (n := i) (by show i < 8; omega) (by decide)) ?_
        refine go_tp (z := A 4 i) (by rw [nI_clamp (by omega)]) ?_
        refine go_iload_n dX12_inside_19 rfl ?_
        refine go_icmp_ne dX12_inside_20 (fun c20 => ?_) (fun c20 => ?_)
        · refine go_iconst (v := 0) dX12_inside_27 rfl ?_
          refine go_iadd dX12_inside_28 ?_
          refine go_istore_n (ls' := [some (.ref q), some (.int l), some (.int (x + 0)), some (.int (nI i))]) dX12_inside_29 ⟨by decide, rfl, rfl⟩ ?_
          refine go_iinc (v := nI (i + 1)) (ls' := [some (.ref q), some (.int l), some (.int (x + 0)), some (.int (nI (i + 1)))]) dX12_inside_30 rfl (nI_1 (i)) ⟨by decide, rfl, rfl⟩ ?_
          refine go_goto dX12_inside_33 ?_
          exact ih_lp0 (i + 1) _ (by omega) (by omega) (by simp [hx, cnS, c9, c9n, c20])
        · refine go_iconst (v := 1) dX12_inside_23 rfl ?_
          refine go_goto dX12_inside_24 ?_
          refine go_iadd dX12_inside_28 ?_
          refine go_istore_n (ls' := [some (.ref q), some (.int l), some (.int (x + 1)), some (.int (nI i))]) dX12_inside_29 ⟨by decide, rfl, rfl⟩ ?_
          refine go_iinc (v := nI (i + 1)) (ls' := [some (.ref q), some (.int l), some (.int (x + 1)), some (.int (nI (i + 1)))]) dX12_inside_30 rfl (nI_1 (i)) ⟨by decide, rfl, rfl⟩ ?_
          refine go_goto dX12_inside_33 ?_
          exact ih_lp0 (i + 1) _ (by omega) (by omega) (by simp [hx, cnS, c9, c9n, c20])
  exact lp0 (N + 1) 0 _ (Nat.zero_le _) (by omega) (rfl)
set_option maxHeartbeats 4000000 in
set_option maxRecDepth 100000 in
theorem e_X12_mayMove (hq : G.2.1 ≤ q) (hn : q + 25 ≤ n) (hN : F 0 = nI N) (hN8 : N ≤ 8) {p : Nat} {l : Int32} (hp : p < 8) : Ev G mX12_mayMove 2 0 0 [.ref q, .int (nI p), .int l] (mo G m0 q F A L K) n (RD (.int (if mmS N (A 4) p l then 1 else 0)) (mo G m0 q F A L K) n) := by
  generalize hQ9 : (RD (.int (if mmS N (A 4) p l then 1 else 0)) (mo G m0 q F A L K) n : RQ) = Q9
  refine ev_of (by decide) (Nat.le_of_ble_eq_true rfl) (ls := [some (.ref q), some (.int (nI p)), some (.int l)]) rfl (fun hb => ?_)
  refine go_iload_n dX12_mayMove_0 rfl ?_
  refine go_bipush (v := 9) dX12_mayMove_1 rfl ?_
  refine go_icmp_eq dX12_mayMove_3 (fun c3 => ?_) (fun c3 => ?_)
  · subst c3
    refine go_iconst (v := 1) dX12_mayMove_25 rfl ?_
    refine go_goto dX12_mayMove_26 ?_
    exact go_zret dX12_mayMove_30 rfl (Nat.le_of_ble_eq_true rfl) (Nat.le_of_ble_eq_true rfl) (rfl) ((hQ9 ▸ ⟨rd_i (a := 1) (by simp [mmS]), rfl, rfl⟩))
  · refine go_aload_n dX12_mayMove_6 rfl ?_
    refine go_get dX12_mayMove_7 fl_X12_19_12 mo_obj hq (by omega) rfl ?_
    refine go_iload_n dX12_mayMove_10 rfl ?_
    refine go_iald dX12_mayMove_11 (mo_arr 4 (by decide)) (by omega) (by omega) (vp_in_nI (n := p) (by show p < 8; omega) (by decide)) ?_
    refine go_tp (z := A 4 p) (by rw [nI_clamp (by omega)]) ?_
    refine go_iload_n dX12_mayMove_12 rfl ?_
    refine go_icmp_eq dX12_mayMove_13 (fun c13 => ?_) (fun c13 => ?_)
    · refine go_iconst (v := 1) dX12_mayMove_25 rfl ?_
      refine go_goto dX12_mayMove_26 ?_
      exact go_zret dX12_mayMove_30 rfl (Nat.le_of_ble_eq_true rfl) (Nat.le_of_ble_eq_true rfl) (rfl) ((hQ9 ▸ ⟨rd_i (a := 1) (by simp [mmS, c3, c13]), rfl, rfl⟩))
    · refine go_aload_n dX12_mayMove_16 rfl ?_
      refine go_iload_n dX12_mayMove_17 rfl ?_
      refine go_Vr [.int l] [] dX12_mayMove_18 vl_X12_120 ⟨by decide, by decide⟩ (e_X12_inside (F := F) (A := A) (L := L) (K := K) hq hn hN hN8) mo_obj hq (by omega) rfl rfl (Nat.le_of_ble_eq_true rfl) (Nat.le_of_ble_eq_true rfl) (Nat.le_of_ble_eq_true rfl) ?_
      refine go_iconst (v := 2) dX12_mayMove_21 rfl ?_
      refine go_icmp_ge dX12_mayMove_22 (fun c22 => ?_) (fun c22 => ?_)
      · have c22 := Int32.not_lt.mpr c22
        refine go_iconst (v := 0) dX12_mayMove_29 rfl ?_
        exact go_zret dX12_mayMove_30 rfl (Nat.le_of_ble_eq_true rfl) (Nat.le_of_ble_eq_true rfl) (rfl) ((hQ9 ▸ ⟨rd_i (a := 0) (by simp [mmS, c3, c13, c22]), rfl, rfl⟩))
      · have c22 := Int32.not_le.mp c22
        refine go_iconst (v := 1) dX12_mayMove_25 rfl ?_
        refine go_goto dX12_mayMove_26 ?_
        exact go_zret dX12_mayMove_30 rfl (Nat.le_of_ble_eq_true rfl) (Nat.le_of_ble_eq_true rfl) (rfl) ((hQ9 ▸ ⟨rd_i (a := 1) (by simp [mmS, c3, c13, c22]), rfl, rfl⟩))
set_option maxHeartbeats 4000000 in
set_option maxRecDepth 100000 in
theorem e_X12_swapPlaces (hq : G.2.1 ≤ q) (hn : q + 25 ≤ n) {a b : Nat} (ha : a < 8) (hb8 : b < 8) : Ev G mX12_swapPlaces 1 0 0 [.ref q, .int (nI a), .int (nI b)] (mo G m0 q F A L K) n (fun r f1 n1 => r = none ∧ f1 = mo G m0 q F (swS A a b) L K ∧ n1 = n) := by
  generalize hQ9 : (fun r f1 n1 => r = none ∧ f1 = mo G m0 q F (swS A a b) L K ∧ n1 = n : RQ) = Q9
  refine ev_of (by decide) (Nat.le_of_ble_eq_true rfl) (ls := [some (.ref q), some (.int (nI a)), some (.int (nI b)), none]) rfl (fun hb => ?_)
  refine go_aload_n dX12_swapPlaces_0 rfl ?_
  refine go_get dX12_swapPlaces_1 fl_X12_19_12 mo_obj hq (by omega) rfl ?_
  refine go_iload_n dX12_swapPlaces_4 rfl ?_
  refine go_iald dX12_swapPlaces_5 (mo_arr 4 (by decide)) (by omega) (by omega) (vp_in_nI (n := a) (by show a < 8; omega) (by decide)) ?_
  refine go_tp (z := A 4 a) (by rw [nI_clamp (by omega)]) ?_
  refine go_istore_n (ls' := [some (.ref q), some (.int (nI a)), some (.int (nI b)), some (.int (A 4 a))]) dX12_swapPlaces_6 ⟨by decide, rfl, rfl⟩ ?_
  refine go_aload_n dX12_swapPlaces_7 rfl ?_
  refine go_get dX12_swapPlaces_8 fl_X12_19_12 mo_obj hq (by omega) rfl ?_
  refine go_iload_n dX12_swapPlaces_11 rfl ?_
  refine go_aload_n dX12_swapPlaces_12 rfl ?_
  refine go_get dX12_swapPlaces_13 fl_X12_19_12 mo_obj hq (by omega) rfl ?_
  refine go_iload_n dX12_swapPlaces_16 rfl ?_
  refine go_iald dX12_swapPlaces_17 (mo_arr 4 (by decide)) (by omega) (by omega) (vp_in_nI (n := b) (by show b < 8; omega) (by decide)) ?_
  refine go_tp (z := A 4 b) (by rw [nI_clamp (by omega)]) ?_
  refine go_iast dX12_swapPlaces_18 (mo_arr 4 (by decide)) (by omega) (by omega) (vp_in_nI (n := a) (by show a < 8; omega) (by decide)) ?_
  refine go_mem (mo_setA 4 (by decide) _ _) ?_
  rw [nI_clamp (by omega)]
  refine go_aload_n dX12_swapPlaces_19 rfl ?_
  refine go_get dX12_swapPlaces_20 fl_X12_19_12 mo_obj hq (by omega) rfl ?_
  refine go_iload_n dX12_swapPlaces_23 rfl ?_
  refine go_iload_n dX12_swapPlaces_24 rfl ?_
  refine go_iast dX12_swapPlaces_25 (mo_arr 4 (by decide)) (by omega) (by omega) (vp_in_nI (n := b) (by show b < 8; omega) (by decide)) ?_
  refine go_mem (mo_setA 4 (by decide) _ _) ?_
  rw [nI_clamp (by omega)]
  exact go_vret dX12_swapPlaces_26 rfl (Nat.le_of_ble_eq_true rfl) (Nat.le_of_ble_eq_true rfl) ((hQ9 ▸ ⟨rfl, rfl, rfl⟩))
set_option maxHeartbeats 4000000 in
set_option maxRecDepth 100000 in
theorem e_X12_wrongKept (hq : G.2.1 ≤ q) (hn : q + 25 ≤ n) {d : Int32} : Ev G mX12_wrongKept 2 0 0 [.ref q, .int d] (mo G m0 q F A L K) n (RD (.int (wkS (A 8) 1 d)) (mo G m0 q F A L K) n) := by
  generalize hQ9 : (RD (.int (wkS (A 8) 1 d)) (mo G m0 q F A L K) n : RQ) = Q9
  refine ev_of (by decide) (Nat.le_of_ble_eq_true rfl) (ls := [some (.ref q), some (.int d)]) rfl (fun hb => ?_)
  refine go_iload_n dX12_wrongKept_0 rfl ?_
  refine go_i2l dX12_wrongKept_1 ?_
  refine go_lconst (v := 0) dX12_wrongKept_2 rfl ?_
  refine go_ldc2 (v := 7) dX12_wrongKept_3 wm_1213 ?_
  refine go_Sr [.long (d).toInt64, .long 0, .long 7] [] dX12_wrongKept_6 sl_X12_90 ⟨by decide, by decide⟩ (e_X12_lies) rfl rfl (Nat.le_of_ble_eq_true rfl) (Nat.le_of_ble_eq_true rfl) (Nat.le_of_ble_eq_true rfl) ?_
  refine go_tp (z := if okr d 0 7 then 1 else 0) (ite_c (li_okr rfl rfl)) ?_
  refine go_if_ne dX12_wrongKept_9 (fun c9 => ?_) (fun c9 => ?_)
  · have c9 := bz_t c9
    obtain ⟨jd, hjd, rfl⟩ := okr_nI (k := 7) rfl (by omega) c9
    have kjd : (nI jd).toNatClampNeg = jd := nI_clamp (by omega)
    refine go_aload_n dX12_wrongKept_16 rfl ?_
    refine go_get dX12_wrongKept_17 fl_X12_31_12 mo_obj hq (by omega) rfl ?_
    refine go_iload_n dX12_wrongKept_20 rfl ?_
    refine go_iald dX12_wrongKept_21 (mo_arr 8 (by decide)) (by omega) (by omega) (vp_in_nI (n := jd) (by show jd < 8; omega) (by decide)) ?_
    refine go_tp (z := A 8 jd) (by rw [nI_clamp (by omega)]) ?_
    refine go_if_ne dX12_wrongKept_22 (fun c22 => ?_) (fun c22 => ?_)
    · refine go_aload_n dX12_wrongKept_30 rfl ?_
      refine go_get dX12_wrongKept_31 fl_X12_31_12 mo_obj hq (by omega) rfl ?_
      refine go_iload_n dX12_wrongKept_34 rfl ?_
      refine go_iald dX12_wrongKept_35 (mo_arr 8 (by decide)) (by omega) (by omega) (vp_in_nI (n := jd) (by show jd < 8; omega) (by decide)) ?_
      refine go_tp (z := A 8 jd) (by rw [nI_clamp (by omega)]) ?_
      refine go_iconst (v := 1) dX12_wrongKept_36 rfl ?_
      refine go_icmp_eq dX12_wrongKept_37 (fun c37 => ?_) (fun c37 => ?_)
      · refine go_iconst (v := 0) dX12_wrongKept_45 rfl ?_
        exact go_iret dX12_wrongKept_46 rfl (Nat.le_of_ble_eq_true rfl) (Nat.le_of_ble_eq_true rfl) ((hQ9 ▸ ⟨rd_i (by simp only [wkS]; rw [if_neg (fun h => h c9), nI_clamp (by omega)]; simp [c22, c37]), rfl, rfl⟩))
      · refine go_bipush (v := (-12)) dX12_wrongKept_40 rfl ?_
        refine go_goto dX12_wrongKept_42 ?_
        exact go_iret dX12_wrongKept_46 rfl (Nat.le_of_ble_eq_true rfl) (Nat.le_of_ble_eq_true rfl) ((hQ9 ▸ ⟨rd_i (by simp only [wkS]; rw [if_neg (fun h => h c9), nI_clamp (by omega)]; simp [c22, c37]), rfl, rfl⟩))
    · refine go_bipush (v := (-11)) dX12_wrongKept_25 rfl ?_
      refine go_goto dX12_wrongKept_27 ?_
      exact go_iret dX12_wrongKept_46 rfl (Nat.le_of_ble_eq_true rfl) (Nat.le_of_ble_eq_true rfl) ((hQ9 ▸ ⟨rd_i (by simp only [wkS]; rw [if_neg (fun h => h c9), nI_clamp (by omega)]; simp [c22]), rfl, rfl⟩))
  · have c9 := bz_f c9
    refine go_iconst (v := (-1)) dX12_wrongKept_12 rfl ?_
    refine go_goto dX12_wrongKept_13 ?_
    exact go_iret dX12_wrongKept_46 rfl (Nat.le_of_ble_eq_true rfl) (Nat.le_of_ble_eq_true rfl) ((hQ9 ▸ ⟨rd_i (by simp only [wkS]; rw [if_pos c9]), rfl, rfl⟩))
set_option maxHeartbeats 4000000 in
set_option maxRecDepth 100000 in
theorem e_X12_wrongRow (hq : G.2.1 ≤ q) (hn : q + 25 ≤ n) {d : Int32} : Ev G mX12_wrongRow 2 0 0 [.ref q, .int d] (mo G m0 q F A L K) n (RD (.int (wkS (A 8) 2 d)) (mo G m0 q F A L K) n) := by
  generalize hQ9 : (RD (.int (wkS (A 8) 2 d)) (mo G m0 q F A L K) n : RQ) = Q9
  refine ev_of (by decide) (Nat.le_of_ble_eq_true rfl) (ls := [some (.ref q), some (.int d)]) rfl (fun hb => ?_)
  refine go_iload_n dX12_wrongRow_0 rfl ?_
  refine go_i2l dX12_wrongRow_1 ?_
  refine go_lconst (v := 0) dX12_wrongRow_2 rfl ?_
  refine go_ldc2 (v := 7) dX12_wrongRow_3 wm_1213 ?_
  refine go_Sr [.long (d).toInt64, .long 0, .long 7] [] dX12_wrongRow_6 sl_X12_90 ⟨by decide, by decide⟩ (e_X12_lies) rfl rfl (Nat.le_of_ble_eq_true rfl) (Nat.le_of_ble_eq_true rfl) (Nat.le_of_ble_eq_true rfl) ?_
  refine go_tp (z := if okr d 0 7 then 1 else 0) (ite_c (li_okr rfl rfl)) ?_
  refine go_if_ne dX12_wrongRow_9 (fun c9 => ?_) (fun c9 => ?_)
  · have c9 := bz_t c9
    obtain ⟨jd, hjd, rfl⟩ := okr_nI (k := 7) rfl (by omega) c9
    have kjd : (nI jd).toNatClampNeg = jd := nI_clamp (by omega)
    refine go_aload_n dX12_wrongRow_16 rfl ?_
    refine go_get dX12_wrongRow_17 fl_X12_31_12 mo_obj hq (by omega) rfl ?_
    refine go_iload_n dX12_wrongRow_20 rfl ?_
    refine go_iald dX12_wrongRow_21 (mo_arr 8 (by decide)) (by omega) (by omega) (vp_in_nI (n := jd) (by show jd < 8; omega) (by decide)) ?_
    refine go_tp (z := A 8 jd) (by rw [nI_clamp (by omega)]) ?_
    refine go_if_ne dX12_wrongRow_22 (fun c22 => ?_) (fun c22 => ?_)
    · refine go_aload_n dX12_wrongRow_30 rfl ?_
      refine go_get dX12_wrongRow_31 fl_X12_31_12 mo_obj hq (by omega) rfl ?_
      refine go_iload_n dX12_wrongRow_34 rfl ?_
      refine go_iald dX12_wrongRow_35 (mo_arr 8 (by decide)) (by omega) (by omega) (vp_in_nI (n := jd) (by show jd < 8; omega) (by decide)) ?_
      refine go_tp (z := A 8 jd) (by rw [nI_clamp (by omega)]) ?_
      refine go_iconst (v := 2) dX12_wrongRow_36 rfl ?_
      refine go_icmp_eq dX12_wrongRow_37 (fun c37 => ?_) (fun c37 => ?_)
      · refine go_iconst (v := 0) dX12_wrongRow_45 rfl ?_
        exact go_iret dX12_wrongRow_46 rfl (Nat.le_of_ble_eq_true rfl) (Nat.le_of_ble_eq_true rfl) ((hQ9 ▸ ⟨rd_i (by simp only [wkS]; rw [if_neg (fun h => h c9), nI_clamp (by omega)]; simp [c22, c37]), rfl, rfl⟩))
      · refine go_bipush (v := (-12)) dX12_wrongRow_40 rfl ?_
        refine go_goto dX12_wrongRow_42 ?_
        exact go_iret dX12_wrongRow_46 rfl (Nat.le_of_ble_eq_true rfl) (Nat.le_of_ble_eq_true rfl) ((hQ9 ▸ ⟨rd_i (by simp only [wkS]; rw [if_neg (fun h => h c9), nI_clamp (by omega)]; simp [c22, c37]), rfl, rfl⟩))
    · refine go_bipush (v := (-11)) dX12_wrongRow_25 rfl ?_
      refine go_goto dX12_wrongRow_27 ?_
      exact go_iret dX12_wrongRow_46 rfl (Nat.le_of_ble_eq_true rfl) (Nat.le_of_ble_eq_true rfl) ((hQ9 ▸ ⟨rd_i (by simp only [wkS]; rw [if_neg (fun h => h c9), nI_clamp (by omega)]; simp [c22]), rfl, rfl⟩))
  · have c9 := bz_f c9
    refine go_iconst (v := (-1)) dX12_wrongRow_12 rfl ?_
    refine go_goto dX12_wrongRow_13 ?_
    exact go_iret dX12_wrongRow_46 rfl (Nat.le_of_ble_eq_true rfl) (Nat.le_of_ble_eq_true rfl) ((hQ9 ▸ ⟨rd_i (by simp only [wkS]; rw [if_pos c9]), rfl, rfl⟩))
end M2
