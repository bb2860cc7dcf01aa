section M14
variable {G : GX} {m0 f : Mem} {q n N M : Nat} {F : Nat → Int32} {A : Nat → Nat → Int32} {L : Nat → Nat → Int64} {K : Option Nat}
set_option maxHeartbeats 4000000 in
set_option maxRecDepth 100000 in
theorem e_X12_changeAll (hq : G.2.1 ≤ q) (hn : q + 25 ≤ n) (hN : F 0 = nI N) (hN8 : N ≤ 8) (hM5 : M ≤ 5) (hI : insOK N M (A 4)) : Ev G mX12_changeAll 5 0 0 [.ref q] (mo G m0 q F A L K) n (fun r f1 n1 => r = some (.int (if nxS N (chE N 60 A) < 0 then nI (chC N 60 A) else -4)) ∧ f1 = mo G m0 q F (chE N 60 A) L K ∧ n1 = n) := by
  generalize hQ9 : (fun r f1 n1 => r = some (.int (if nxS N (chE N 60 A) < 0 then nI (chC N 60 A) else -4)) ∧ f1 = mo G m0 q F (chE N 60 A) L K ∧ n1 = n : RQ) = Q9
  refine ev_of (by decide) (Nat.le_of_ble_eq_true rfl) (ls := [some (.ref q), none, none]) rfl (fun hb => ?_)
  refine go_iconst (v := 0) dX12_changeAll_0 rfl ?_
  refine go_istore_n (ls' := [some (.ref q), some (.int 0), none]) dX12_changeAll_1 ⟨by decide, rfl, rfl⟩ ?_
  refine go_aload_n dX12_changeAll_2 rfl ?_
  refine go_Vr [] [] dX12_changeAll_3 vl_X12_292 ⟨by decide, by decide⟩ (e_X12_nextChange (F := F) (A := A) (L := L) (K := K) hq hn hN hN8 hM5 hI) mo_obj hq (by omega) rfl rfl (Nat.le_of_ble_eq_true rfl) (Nat.le_of_ble_eq_true rfl) (Nat.le_of_ble_eq_true rfl) ?_
  refine go_istore_n (ls' := [some (.ref q), some (.int 0), some (.int (nxS N A))]) dX12_changeAll_6 ⟨by decide, rfl, rfl⟩ ?_
  have lp0 : ∀ (μ_lp0 : Nat) (i : Nat) (A1 : Nat → Nat → Int32) (hi : i ≤ 60) (hmi : 61 ≤ i + μ_lp0) (hC : chC N 60 A = i + chC N (60 - i) A1) (hE : chE N 60 A = chE N (60 - i) A1) (hI1 : insOK N M (A1 4)), Go G mX12_changeAll 5 0 0 Q9 0 0 7 [some (.ref q), some (.int (nI i)), some (.int (nxS N A1))] [] (mo G m0 q F A1 L K) n := by
    intro μ_lp0
    induction μ_lp0 with
    | zero =>
      intro i A1 hi hmi hC hE hI1
      exact absurd hmi (by omega)
    | succ μ_lp0 ih_lp0 =>
      intro i A1 hi hmi hC hE hI1
      refine go_iload_n dX12_changeAll_7 rfl ?_
      refine go_bipush (v := 60) dX12_changeAll_8 rfl ?_
      refine go_icmp_ge dX12_changeAll_10 (fun c10 => ?_) (fun c10 => ?_)
      · have c10n := (nI_leI (a := 60) (b := i) (by omega) (by omega)).mp c10
        have c10n := Nat.not_lt.mpr c10n
        have c10 := Int32.not_lt.mpr c10
        refine go_iload_n dX12_changeAll_40 rfl ?_
        refine go_if_lt dX12_changeAll_41 (fun c41 => ?_) (fun c41 => ?_)
        · refine go_iload_n dX12_changeAll_49 rfl ?_
          exact go_iret dX12_changeAll_50 rfl (Nat.le_of_ble_eq_true rfl) (Nat.le_of_ble_eq_true rfl) (hQ9 ▸ ⟨rd_i (by rw [hE, hC, show 60 - i = 0 by omega]; unfold chE chC; rw [if_pos c41, Nat.add_zero]), by rw [hE, show 60 - i = 0 by omega]; rfl, rfl⟩)
        · refine go_bipush (v := (-4)) dX12_changeAll_44 rfl ?_
          refine go_goto dX12_changeAll_46 ?_
          exact go_iret dX12_changeAll_50 rfl (Nat.le_of_ble_eq_true rfl) (Nat.le_of_ble_eq_true rfl) (hQ9 ▸ ⟨rd_i (by rw [hE, hC, show 60 - i = 0 by omega]; unfold chE chC; rw [if_neg c41]), by rw [hE, show 60 - i = 0 by omega]; rfl, rfl⟩)
      · have c10n := mt (nI_leI (a := 60) (b := i) (by omega) (by omega)).mpr c10
        have c10n := Nat.lt_of_not_le c10n
        have c10 := Int32.not_le.mp c10
        refine go_iload_n dX12_changeAll_13 rfl ?_
        refine go_if_lt dX12_changeAll_14 (fun c14 => ?_) (fun c14 => ?_)
        · refine go_iload_n dX12_changeAll_40 rfl ?_
          refine go_if_lt dX12_changeAll_41 (fun c41 => ?_) (fun c41 => ?_)
          · refine go_iload_n dX12_changeAll_49 rfl ?_
            exact go_iret dX12_changeAll_50 rfl (Nat.le_of_ble_eq_true rfl) (Nat.le_of_ble_eq_true rfl) (hQ9 ▸ ⟨rd_i (by rw [hE, hC, chE_z c14, chC_z c14, if_pos c14, Nat.add_zero]), by rw [hE, chE_z c14], rfl⟩)
          · exact absurd c14 c41
        · obtain ⟨a, b, hab, hbN, ex⟩ := nxS_nI c14
          refine go_ls (ls' := [some (.ref q), some (.int (nI i)), some (.int (nI (10 * a + b)))]) (by rw [ex]) ?_
          refine go_aload_n dX12_changeAll_17 rfl ?_
          refine go_iload_n dX12_changeAll_18 rfl ?_
          refine go_bipush (v := 10) dX12_changeAll_19 rfl ?_
          refine go_idiv dX12_changeAll_21 (by decide) ?_
          refine go_tp (z := nI ((10 * a + b) / 10)) (pk_div (a := 10 * a + b) (d := 10) (by omega) (by omega) (by omega)) ?_
          refine go_tp (z := nI a) (by rw [show (10 * a + b) / 10 = a by omega]) ?_
          refine go_iload_n dX12_changeAll_22 rfl ?_
          refine go_bipush (v := 10) dX12_changeAll_23 rfl ?_
          refine go_irem dX12_changeAll_25 (by decide) ?_
          refine go_tp (z := nI ((10 * a + b) % 10)) (pk_rem (a := 10 * a + b) (d := 10) (by omega) (by omega) (by omega)) ?_
          refine go_tp (z := nI b) (by rw [show (10 * a + b) % 10 = b by omega]) ?_
          refine go_V [.int (nI a), .int (nI b)] [] dX12_changeAll_26 vl_X12_171 ⟨by decide, by decide⟩ (e_X12_swapPlaces (F := F) (A := A1) (L := L) (K := K) hq hn (by omega) (by omega)) mo_obj hq (by omega) rfl rfl (Nat.le_of_ble_eq_true rfl) (Nat.le_of_ble_eq_true rfl) (Nat.le_of_ble_eq_true rfl) (fun r26 f26 n26 h26 => ?_)
          obtain ⟨rfl, rfl, hn26⟩ := h26
          subst n26
          refine go_iinc (v := nI (i + 1)) (ls' := [some (.ref q), some (.int (nI (i + 1))), some (.int (nI (10 * a + b)))]) dX12_changeAll_29 rfl (nI_1 (i)) ⟨by decide, rfl, rfl⟩ ?_
          refine go_aload_n dX12_changeAll_32 rfl ?_
          refine go_Vr [] [] dX12_changeAll_33 vl_X12_292 ⟨by decide, by decide⟩ (e_X12_nextChange (F := F) (A := (swS A1 a b)) (L := L) (K := K) hq hn hN hN8 hM5 (insOK_sw hI1 (by omega) (by omega))) mo_obj hq (by omega) rfl rfl (Nat.le_of_ble_eq_true rfl) (Nat.le_of_ble_eq_true rfl) (Nat.le_of_ble_eq_true rfl) ?_
          refine go_istore_n (ls' := [some (.ref q), some (.int (nI (i + 1))), some (.int (nxS N (swS A1 a b)))]) dX12_changeAll_36 ⟨by decide, rfl, rfl⟩ ?_
          refine go_goto dX12_changeAll_37 ?_
          obtain ⟨g, hg⟩ : ∃ g, 60 - i = g + 1 := ⟨59 - i, by omega⟩
          rw [hg, chC_s c14 (by omega) (by omega) ex] at hC
          rw [hg, chE_s c14 (by omega) (by omega) ex] at hE
          exact ih_lp0 (i + 1) _ (by omega) (by omega) (by rw [hC, show 60 - (i + 1) = g by omega]; omega) (by rw [hE, show 60 - (i + 1) = g by omega]) (insOK_sw hI1 (by omega) (by omega))
  exact lp0 61 0 A (by omega) (by omega) (Nat.zero_add _).symm rfl hI
set_option maxHeartbeats 4000000 in
set_option maxRecDepth 100000 in
theorem e_X12_agreed (hq : G.2.1 ≤ q) (hn : q + 25 ≤ n) (hN : F 0 = nI N) (hN8 : N ≤ 8) (hM5 : M ≤ 5) (hI : insOK N M (A 4)) : Ev G mX12_agreed 6 0 0 [.ref q] (mo G m0 q F A L K) n (fun r f1 n1 => r = some (.int (agrS N A)) ∧ (∃ F' A' K', kpF F A F' A' ∧ f1 = mo G m0 q F' A' L K') ∧ n1 = n) := by
  generalize hQ9 : (fun r f1 n1 => r = some (.int (agrS N A)) ∧ (∃ F' A' K', kpF F A F' A' ∧ f1 = mo G m0 q F' A' L K') ∧ n1 = n : RQ) = Q9
  refine ev_of (by decide) (Nat.le_of_ble_eq_true rfl) (ls := [some (.ref q), none]) rfl (fun hb => ?_)
  refine go_aload_n dX12_agreed_0 rfl ?_
  refine go_iconst (v := 0) dX12_agreed_1 rfl ?_
  refine go_put dX12_agreed_2 fp_X12_83_12 (Or.inr (fun _ _ _ h => by cases h; rfl)) mo_obj hq (by omega) (rfl) rfl (Nat.le_of_ble_eq_true rfl) ?_
  refine go_mem (mo_setO (F' := (upd F 16 (0))) (K' := K) rfl) ?_
  refine go_aload_n dX12_agreed_5 rfl ?_
  refine go_V [] [] dX12_agreed_6 vl_X12_184 ⟨by decide, by decide⟩ (e_X12_open (F := (upd F 16 (0))) (A := A) (L := L) (K := K) hq hn) mo_obj hq (by omega) rfl rfl (Nat.le_of_ble_eq_true rfl) (Nat.le_of_ble_eq_true rfl) (Nat.le_of_ble_eq_true rfl) (fun r6 f6 n6 h6 => ?_)
  obtain ⟨rfl, ⟨F6, A6, hc6, rfl⟩, hn6⟩ := h6
  subst n6
  have hN : F6 0 = nI N := by rw [hc6.1 0 (by decide) (by decide)]; exact hN
  have hEq : EqR A A6 := hc6.eq (by decide)
  have hI1 : insOK N M (A6 4) := by rw [hc6.2.1 4 (by decide)]; exact hI
  refine go_aload_n dX12_agreed_9 rfl ?_
  refine go_V [] [] dX12_agreed_10 vl_X12_295 ⟨by decide, by decide⟩ (e_X12_changeAll (F := F6) (A := A6) (L := L) (K := (some (q + 17))) hq hn hN hN8 hM5 hI1) mo_obj hq (by omega) rfl rfl (Nat.le_of_ble_eq_true rfl) (Nat.le_of_ble_eq_true rfl) (Nat.le_of_ble_eq_true rfl) (fun r10 f10 n10 h10 => ?_)
  obtain ⟨rfl, rfl, hn10⟩ := h10
  subst n10
  have hok := chE_ok (M := M) hN8 60 hI1
  refine go_tp (z := agrS N A) (hEq.agr) ?_
  refine go_istore_n (ls' := [some (.ref q), some (.int (agrS N A))]) dX12_agreed_13 ⟨by decide, rfl, rfl⟩ ?_
  refine go_aload_n dX12_agreed_14 rfl ?_
  refine go_V [] [] dX12_agreed_15 vl_X12_190 ⟨by decide, by decide⟩ (e_X12_close (F := F6) (A := (chE N 60 A6)) (L := L) (K := (some (q + 17))) hq hn) mo_obj hq (by omega) rfl rfl (Nat.le_of_ble_eq_true rfl) (Nat.le_of_ble_eq_true rfl) (Nat.le_of_ble_eq_true rfl) (fun r15 f15 n15 h15 => ?_)
  obtain ⟨rfl, ⟨F15, A15, hc15, rfl⟩, hn15⟩ := h15
  subst n15
  refine go_iload_n dX12_agreed_18 rfl ?_
  exact go_iret dX12_agreed_19 rfl (Nat.le_of_ble_eq_true rfl) (Nat.le_of_ble_eq_true rfl) (hQ9 ▸ ⟨rfl, ⟨_, _, _, kpF_of hc6 hok.2 hc15 rfl, rfl⟩, rfl⟩)
set_option maxHeartbeats 4000000 in
set_option maxRecDepth 100000 in
theorem e_X12_agreedContent (hq : G.2.1 ≤ q) (hn : q + 25 ≤ n) (hN : F 0 = nI N) (hN8 : N ≤ 8) (hM5 : M ≤ 5) (hI : insOK N M (A 4)) : Ev G mX12_agreedContent 6 0 0 [.ref q] (mo G m0 q F A L K) n (fun r f1 n1 => r = some (.int (alS N (chE N 60 A))) ∧ (∃ F' A' K', kpF F A F' A' ∧ f1 = mo G m0 q F' A' L K') ∧ n1 = n) := by
  generalize hQ9 : (fun r f1 n1 => r = some (.int (alS N (chE N 60 A))) ∧ (∃ F' A' K', kpF F A F' A' ∧ f1 = mo G m0 q F' A' L K') ∧ n1 = n : RQ) = Q9
  refine ev_of (by decide) (Nat.le_of_ble_eq_true rfl) (ls := [some (.ref q), none]) rfl (fun hb => ?_)
  refine go_aload_n dX12_agreedContent_0 rfl ?_
  refine go_iconst (v := 0) dX12_agreedContent_1 rfl ?_
  refine go_put dX12_agreedContent_2 fp_X12_83_12 (Or.inr (fun _ _ _ h => by cases h; rfl)) mo_obj hq (by omega) (rfl) rfl (Nat.le_of_ble_eq_true rfl) ?_
  refine go_mem (mo_setO (F' := (upd F 16 (0))) (K' := K) rfl) ?_
  refine go_aload_n dX12_agreedContent_5 rfl ?_
  refine go_V [] [] dX12_agreedContent_6 vl_X12_184 ⟨by decide, by decide⟩ (e_X12_open (F := (upd F 16 (0))) (A := A) (L := L) (K := K) hq hn) mo_obj hq (by omega) rfl rfl (Nat.le_of_ble_eq_true rfl) (Nat.le_of_ble_eq_true rfl) (Nat.le_of_ble_eq_true rfl) (fun r6 f6 n6 h6 => ?_)
  obtain ⟨rfl, ⟨F6, A6, hc6, rfl⟩, hn6⟩ := h6
  subst n6
  have hN : F6 0 = nI N := by rw [hc6.1 0 (by decide) (by decide)]; exact hN
  have hEq : EqR A A6 := hc6.eq (by decide)
  have hI1 : insOK N M (A6 4) := by rw [hc6.2.1 4 (by decide)]; exact hI
  refine go_aload_n dX12_agreedContent_9 rfl ?_
  refine go_V [] [] dX12_agreedContent_10 vl_X12_295 ⟨by decide, by decide⟩ (e_X12_changeAll (F := F6) (A := A6) (L := L) (K := (some (q + 17))) hq hn hN hN8 hM5 hI1) mo_obj hq (by omega) rfl rfl (Nat.le_of_ble_eq_true rfl) (Nat.le_of_ble_eq_true rfl) (Nat.le_of_ble_eq_true rfl) (fun r10 f10 n10 h10 => ?_)
  obtain ⟨rfl, rfl, hn10⟩ := h10
  subst n10
  have hok := chE_ok (M := M) hN8 60 hI1
  refine go_tp (z := agrS N A) (hEq.agr) ?_
  refine go_pop dX12_agreedContent_13 rfl ?_
  refine go_aload_n dX12_agreedContent_14 rfl ?_
  refine go_Vr [] [] dX12_agreedContent_15 vl_X12_298 ⟨by decide, by decide⟩ (e_X12_allContent (F := F6) (A := (chE N 60 A6)) (L := L) (K := (some (q + 17))) hq hn hN hN8 hM5 hok.1) mo_obj hq (by omega) rfl rfl (Nat.le_of_ble_eq_true rfl) (Nat.le_of_ble_eq_true rfl) (Nat.le_of_ble_eq_true rfl) ?_
  refine go_istore_n (ls' := [some (.ref q), some (.int (alS N (chE N 60 A6)))]) dX12_agreedContent_18 ⟨by decide, rfl, rfl⟩ ?_
  refine go_aload_n dX12_agreedContent_19 rfl ?_
  refine go_V [] [] dX12_agreedContent_20 vl_X12_190 ⟨by decide, by decide⟩ (e_X12_close (F := F6) (A := (chE N 60 A6)) (L := L) (K := (some (q + 17))) hq hn) mo_obj hq (by omega) rfl rfl (Nat.le_of_ble_eq_true rfl) (Nat.le_of_ble_eq_true rfl) (Nat.le_of_ble_eq_true rfl) (fun r20 f20 n20 h20 => ?_)
  obtain ⟨rfl, ⟨F20, A20, hc20, rfl⟩, hn20⟩ := h20
  subst n20
  refine go_iload_n dX12_agreedContent_23 rfl ?_
  exact go_iret dX12_agreedContent_24 rfl (Nat.le_of_ble_eq_true rfl) (Nat.le_of_ble_eq_true rfl) (hQ9 ▸ ⟨rd_i (by rw [(EqR.ch 60 hEq).2.al N]), ⟨_, _, _, kpF_of hc6 hok.2 hc20 rfl, rfl⟩, rfl⟩)
set_option maxHeartbeats 4000000 in
set_option maxRecDepth 100000 in
theorem e_X12_list (hq : G.2.1 ≤ q) (hn : q + 25 ≤ n) (hN : F 0 = nI N) (hN8 : N ≤ 8) (hM : F 5 = nI M) (hM5 : M ≤ 5) (hI : insOK N M (A 4)) {what : Int32} : Ev G mX12_list 5 0 0 [.ref q, .int what] (mo G m0 q F A L K) n (fun r f1 n1 => r = some (.int (lisS N M A what)) ∧ (∃ F' A' K', kpF F A F' A' ∧ f1 = mo G m0 q F' A' L K') ∧ n1 = n) := by
  generalize hQ9 : (fun r f1 n1 => r = some (.int (lisS N M A what)) ∧ (∃ F' A' K', kpF F A F' A' ∧ f1 = mo G m0 q F' A' L K') ∧ n1 = n : RQ) = Q9
  refine ev_of (by decide) (Nat.le_of_ble_eq_true rfl) (ls := [some (.ref q), some (.int what), none, none, none]) rfl (fun hb => ?_)
  refine go_aload_n dX12_list_0 rfl ?_
  refine go_iconst (v := 0) dX12_list_1 rfl ?_
  refine go_put dX12_list_2 fp_X12_83_12 (Or.inr (fun _ _ _ h => by cases h; rfl)) mo_obj hq (by omega) (rfl) rfl (Nat.le_of_ble_eq_true rfl) ?_
  refine go_mem (mo_setO (F' := (upd F 16 (0))) (K' := K) rfl) ?_
  refine go_iload_n dX12_list_5 rfl ?_
  refine go_i2l dX12_list_6 ?_
  refine go_lconst (v := 0) dX12_list_7 rfl ?_
  refine go_lconst (v := 1) dX12_list_8 rfl ?_
  refine go_Sr [.long (what).toInt64, .long 0, .long 1] [] dX12_list_9 sl_X12_90 ⟨by decide, by decide⟩ (e_X12_lies) rfl rfl (Nat.le_of_ble_eq_true rfl) (Nat.le_of_ble_eq_true rfl) (Nat.le_of_ble_eq_true rfl) ?_
  refine go_tp (z := if okr what 0 1 then 1 else 0) (ite_c (li_okr rfl rfl)) ?_
  refine go_if_ne dX12_list_12 (fun c12 => ?_) (fun c12 => ?_)
  · have c12 := bz_t c12
    refine go_iconst (v := 0) dX12_list_18 rfl ?_
    refine go_istore_n (ls' := [some (.ref q), some (.int what), some (.int 0), none, none]) dX12_list_19 ⟨by decide, rfl, rfl⟩ ?_
    refine go_aload_n dX12_list_20 rfl ?_
    refine go_V [] [] dX12_list_21 vl_X12_184 ⟨by decide, by decide⟩ (e_X12_open (F := (upd F 16 (0))) (A := A) (L := L) (K := K) hq hn) mo_obj hq (by omega) rfl rfl (Nat.le_of_ble_eq_true rfl) (Nat.le_of_ble_eq_true rfl) (Nat.le_of_ble_eq_true rfl) (fun r21 f21 n21 h21 => ?_)
    obtain ⟨rfl, ⟨F21, A21, hc21, rfl⟩, hn21⟩ := h21
    subst n21
    have hN : F21 0 = nI N := by rw [hc21.1 0 (by decide) (by decide)]; exact hN
    have hEq : EqR A A21 := hc21.eq (by decide)
    have hM : F21 5 = nI M := by rw [hc21.1 5 (by decide) (by decide)]; exact hM
    have hI1 : insOK N M (A21 4) := by rw [hc21.2.1 4 (by decide)]; exact hI
    refine go_iconst (v := 0) dX12_list_24 rfl ?_
    refine go_istore_n (ls' := [some (.ref q), some (.int what), some (.int 0), some (.int 0), none]) dX12_list_25 ⟨by decide, rfl, rfl⟩ ?_
    have lp0 : ∀ (μ_lp0 : Nat) (i : Nat) (x : Int32) (hi : i ≤ N) (hmi : N + 1 ≤ i + μ_lp0) (hx : x = cnS (fun p => decide (¬ A21 4 p = liV M p)) i), Go G mX12_list 5 0 0 Q9 0 0 26 [some (.ref q), some (.int what), some (.int x), some (.int (nI i)), none] [] (mo G m0 q F21 (liA i M A21) L (some (q + 17))) n := by
      intro μ_lp0
      induction μ_lp0 with
      | zero =>
        intro i x hi hmi hx
        exact absurd hmi (by omega)
      | succ μ_lp0 ih_lp0 =>
        intro i x hi hmi hx
        refine go_iload_n dX12_list_26 rfl ?_
        refine go_aload_n dX12_list_27 rfl ?_
        refine go_get dX12_list_28 fl_X12_87_12 mo_obj hq (by omega) rfl ?_
        refine go_tp (z := nI N) (hN) ?_
        refine go_icmp_ge dX12_list_31 (fun c31 => ?_) (fun c31 => ?_)
        · have c31n := (nI_leI (a := N) (b := i) (by omega) (by omega)).mp c31
          have c31n := Nat.not_lt.mpr c31n
          have c31 := Int32.not_lt.mpr c31
          have hIl : insOK N M (liA i M A21 4) := by rw [show i = N by omega]; exact liA_in
          refine go_aload_n dX12_list_87 rfl ?_
          refine go_Vr [] [] dX12_list_88 vl_X12_298 ⟨by decide, by decide⟩ (e_X12_allContent (F := F21) (A := (liA i M A21)) (L := L) (K := (some (q + 17))) hq hn hN hN8 hM5 hIl) mo_obj hq (by omega) rfl rfl (Nat.le_of_ble_eq_true rfl) (Nat.le_of_ble_eq_true rfl) (Nat.le_of_ble_eq_true rfl) ?_
          refine go_istore_n (ls' := [some (.ref q), some (.int what), some (.int x), some (.int (alS N (liA i M A21))), none]) dX12_list_91 ⟨by decide, rfl, rfl⟩ ?_
          refine go_aload_n dX12_list_92 rfl ?_
          refine go_V [] [] dX12_list_93 vl_X12_190 ⟨by decide, by decide⟩ (e_X12_close (F := F21) (A := (liA i M A21)) (L := L) (K := (some (q + 17))) hq hn) mo_obj hq (by omega) rfl rfl (Nat.le_of_ble_eq_true rfl) (Nat.le_of_ble_eq_true rfl) (Nat.le_of_ble_eq_true rfl) (fun r93 f93 n93 h93 => ?_)
          obtain ⟨rfl, ⟨F93, A93, hc93, rfl⟩, hn93⟩ := h93
          subst n93
          refine go_iload_n dX12_list_96 rfl ?_
          refine go_if_ne dX12_list_97 (fun c97 => ?_) (fun c97 => ?_)
          · refine go_iload_n dX12_list_104 rfl ?_
            exact go_iret dX12_list_105 rfl (Nat.le_of_ble_eq_true rfl) (Nat.le_of_ble_eq_true rfl) (hQ9 ▸ ⟨rd_i (by unfold lisS; rw [if_pos c12, show N = i by omega, ← (hEq.li i M).al i, ← hEq 4 (by decide), ← hx]; simp [c97]), ⟨_, _, _, kpF_of hc21 (liA_rw (by omega)) hc93 rfl, rfl⟩, rfl⟩)
          · subst c97
            refine go_iload_n dX12_list_100 rfl ?_
            refine go_goto dX12_list_101 ?_
            exact go_iret dX12_list_105 rfl (Nat.le_of_ble_eq_true rfl) (Nat.le_of_ble_eq_true rfl) (hQ9 ▸ ⟨rd_i (by unfold lisS; rw [if_pos c12, show N = i by omega, ← (hEq.li i M).al i, ← hEq 4 (by decide), ← hx]; simp []), ⟨_, _, _, kpF_of hc21 (liA_rw (by omega)) hc93 rfl, rfl⟩, rfl⟩)
        · have c31n := mt (nI_leI (a := N) (b := i) (by omega) (by omega)).mpr c31
          have c31n := Nat.lt_of_not_le c31n
          have c31 := Int32.not_le.mp c31
          refine go_iload_n dX12_list_34 rfl ?_
          refine go_iconst (v := 2) dX12_list_35 rfl ?_
          refine go_idiv dX12_list_36 (by decide) ?_
          refine go_tp (z := nI (i / 2)) (pk_div (a := i) (d := 2) (by omega) (by omega) (by omega)) ?_
          refine go_aload_n dX12_list_37 rfl ?_
          refine go_get dX12_list_38 fl_X12_94_12 mo_obj hq (by omega) rfl ?_
          refine go_tp (z := nI M) (hM) ?_
          refine go_icmp_ge dX12_list_41 (fun c41 => ?_) (fun c41 => ?_)
          · have c41n := (nI_leI (a := M) (b := i / 2) (by omega) (by omega)).mp c41
            have c41n := Nat.not_lt.mpr c41n
            have c41 := Int32.not_lt.mpr c41
            refine go_bipush (v := 9) dX12_list_50 rfl ?_
            refine go_istore (ls' := [some (.ref q), some (.int what), some (.int x), some (.int (nI i)), some (.int 9)]) dX12_list_52 ⟨by decide, rfl, rfl⟩ ?_
            refine go_iload_n dX12_list_54 rfl ?_
            refine go_aload_n dX12_list_55 rfl ?_
            refine go_get dX12_list_56 fl_X12_19_12 mo_obj hq (by omega) rfl ?_
            refine go_iload_n dX12_list_59 rfl ?_
            refine go_iald dX12_list_60 (mo_arr 4 (by decide)) (by omega) (by omega) (vp_in_nI (n := i) (by show i < 8; omega) (by decide)) ?_
            refine go_tp (z := (liA i M A21) 4 i) (by rw [nI_clamp (by omega)]) ?_
            refine go_tp (z := A21 4 i) (by simp [liA]) ?_
            refine go_iload dX12_list_61 rfl ?_
            refine go_icmp_ne dX12_list_63 (fun c63 => ?_) (fun c63 => ?_)
            · refine go_iconst (v := 1) dX12_list_70 rfl ?_
              refine go_iadd dX12_list_71 ?_
              refine go_istore_n (ls' := [some (.ref q), some (.int what), some (.int (x + 1)), some (.int (nI i)), some (.int 9)]) dX12_list_72 ⟨by decide, rfl, rfl⟩ ?_
              refine go_aload_n dX12_list_73 rfl ?_
              refine go_get dX12_list_74 fl_X12_19_12 mo_obj hq (by omega) rfl ?_
              refine go_iload_n dX12_list_77 rfl ?_
              refine go_iload dX12_list_78 rfl ?_
              refine go_iast dX12_list_80 (mo_arr 4 (by decide)) (by omega) (by omega) (vp_in_nI (n := i) (by show i < 8; omega) (by decide)) ?_
              refine go_mem (mo_setA 4 (by decide) _ _) ?_
              rw [nI_clamp (by omega)]
              refine go_iinc (v := nI (i + 1)) (ls' := [some (.ref q), some (.int what), some (.int (x + 1)), some (.int (nI (i + 1))), some (.int 9)]) dX12_list_81 rfl (nI_1 (i)) ⟨by decide, rfl, rfl⟩ ?_
              refine go_goto dX12_list_84 ?_
              refine go_weak (ls' := [some (.ref q), some (.int what), some (.int (x + 1)), some (.int (nI (i + 1))), none]) ⟨rfl, rfl, rfl, rfl, trivial⟩ ?_
              have hv : liV M i = 9 := by simp [liV, c41, c41n]
              refine go_mem (f' := (mo G m0 q F21 (liA (i + 1) M A21) L (some (q + 17)))) (by rw [← liA_s, hv]) ?_
              exact ih_lp0 (i + 1) _ (by omega) (by omega) (by simp [hx, cnS, hv, c63])
            · refine go_iconst (v := 0) dX12_list_66 rfl ?_
              refine go_goto dX12_list_67 ?_
              refine go_iadd dX12_list_71 ?_
              refine go_istore_n (ls' := [some (.ref q), some (.int what), some (.int (x + 0)), some (.int (nI i)), some (.int 9)]) dX12_list_72 ⟨by decide, rfl, rfl⟩ ?_
              refine go_aload_n dX12_list_73 rfl ?_
              refine go_get dX12_list_74 fl_X12_19_12 mo_obj hq (by omega) rfl ?_
              refine go_iload_n dX12_list_77 rfl ?_
              refine go_iload dX12_list_78 rfl ?_
              refine go_iast dX12_list_80 (mo_arr 4 (by decide)) (by omega) (by omega) (vp_in_nI (n := i) (by show i < 8; omega) (by decide)) ?_
              refine go_mem (mo_setA 4 (by decide) _ _) ?_
              rw [nI_clamp (by omega)]
              refine go_iinc (v := nI (i + 1)) (ls' := [some (.ref q), some (.int what), some (.int (x + 0)), some (.int (nI (i + 1))), some (.int 9)]) dX12_list_81 rfl (nI_1 (i)) ⟨by decide, rfl, rfl⟩ ?_
              refine go_goto dX12_list_84 ?_
              refine go_weak (ls' := [some (.ref q), some (.int what), some (.int (x + 0)), some (.int (nI (i + 1))), none]) ⟨rfl, rfl, rfl, rfl, trivial⟩ ?_
              have hv : liV M i = 9 := by simp [liV, c41, c41n]
              refine go_mem (f' := (mo G m0 q F21 (liA (i + 1) M A21) L (some (q + 17)))) (by rw [← liA_s, hv]) ?_
              exact ih_lp0 (i + 1) _ (by omega) (by omega) (by simp [hx, cnS, hv, c63])
          · have c41n := mt (nI_leI (a := M) (b := i / 2) (by omega) (by omega)).mpr c41
            have c41n := Nat.lt_of_not_le c41n
            have c41 := Int32.not_le.mp c41
            refine go_iload_n dX12_list_44 rfl ?_
            refine go_iconst (v := 2) dX12_list_45 rfl ?_
            refine go_idiv dX12_list_46 (by decide) ?_
            refine go_tp (z := nI (i / 2)) (pk_div (a := i) (d := 2) (by omega) (by omega) (by omega)) ?_
            refine go_goto dX12_list_47 ?_
            refine go_istore (ls' := [some (.ref q), some (.int what), some (.int x), some (.int (nI i)), some (.int (nI (i / 2)))]) dX12_list_52 ⟨by decide, rfl, rfl⟩ ?_
            refine go_iload_n dX12_list_54 rfl ?_
            refine go_aload_n dX12_list_55 rfl ?_
            refine go_get dX12_list_56 fl_X12_19_12 mo_obj hq (by omega) rfl ?_
            refine go_iload_n dX12_list_59 rfl ?_
            refine go_iald dX12_list_60 (mo_arr 4 (by decide)) (by omega) (by omega) (vp_in_nI (n := i) (by show i < 8; omega) (by decide)) ?_
            refine go_tp (z := (liA i M A21) 4 i) (by rw [nI_clamp (by omega)]) ?_
            refine go_tp (z := A21 4 i) (by simp [liA]) ?_
            refine go_iload dX12_list_61 rfl ?_
            refine go_icmp_ne dX12_list_63 (fun c63 => ?_) (fun c63 => ?_)
            · refine go_iconst (v := 1) dX12_list_70 rfl ?_
              refine go_iadd dX12_list_71 ?_
              refine go_istore_n (ls' := [some (.ref q), some (.int what), some (.int (x + 1)), some (.int (nI i)), some (.int (nI (i / 2)))]) dX12_list_72 ⟨by decide, rfl, rfl⟩ ?_
              refine go_aload_n dX12_list_73 rfl ?_
              refine go_get dX12_list_74 fl_X12_19_12 mo_obj hq (by omega) rfl ?_
              refine go_iload_n dX12_list_77 rfl ?_
              refine go_iload dX12_list_78 rfl ?_
              refine go_iast dX12_list_80 (mo_arr 4 (by decide)) (by omega) (by omega) (vp_in_nI (n := i) (by show i < 8; omega) (by decide)) ?_
              refine go_mem (mo_setA 4 (by decide) _ _) ?_
              rw [nI_clamp (by omega)]
              refine go_iinc (v := nI (i + 1)) (ls' := [some (.ref q), some (.int what), some (.int (x + 1)), some (.int (nI (i + 1))), some (.int (nI (i / 2)))]) dX12_list_81 rfl (nI_1 (i)) ⟨by decide, rfl, rfl⟩ ?_
              refine go_goto dX12_list_84 ?_
              refine go_weak (ls' := [some (.ref q), some (.int what), some (.int (x + 1)), some (.int (nI (i + 1))), none]) ⟨rfl, rfl, rfl, rfl, trivial⟩ ?_
              have hv : liV M i = nI (i / 2) := by simp [liV, c41, c41n]
              refine go_mem (f' := (mo G m0 q F21 (liA (i + 1) M A21) L (some (q + 17)))) (by rw [← liA_s, hv]) ?_
              exact ih_lp0 (i + 1) _ (by omega) (by omega) (by simp [hx, cnS, hv, c63])
            · refine go_iconst (v := 0) dX12_list_66 rfl ?_
              refine go_goto dX12_list_67 ?_
              refine go_iadd dX12_list_71 ?_
              refine go_istore_n (ls' := [some (.ref q), some (.int what), some (.int (x + 0)), some (.int (nI i)), some (.int (nI (i / 2)))]) dX12_list_72 ⟨by decide, rfl, rfl⟩ ?_
              refine go_aload_n dX12_list_73 rfl ?_
              refine go_get dX12_list_74 fl_X12_19_12 mo_obj hq (by omega) rfl ?_
              refine go_iload_n dX12_list_77 rfl ?_
              refine go_iload dX12_list_78 rfl ?_
              refine go_iast dX12_list_80 (mo_arr 4 (by decide)) (by omega) (by omega) (vp_in_nI (n := i) (by show i < 8; omega) (by decide)) ?_
              refine go_mem (mo_setA 4 (by decide) _ _) ?_
              rw [nI_clamp (by omega)]
              refine go_iinc (v := nI (i + 1)) (ls' := [some (.ref q), some (.int what), some (.int (x + 0)), some (.int (nI (i + 1))), some (.int (nI (i / 2)))]) dX12_list_81 rfl (nI_1 (i)) ⟨by decide, rfl, rfl⟩ ?_
              refine go_goto dX12_list_84 ?_
              refine go_weak (ls' := [some (.ref q), some (.int what), some (.int (x + 0)), some (.int (nI (i + 1))), none]) ⟨rfl, rfl, rfl, rfl, trivial⟩ ?_
              have hv : liV M i = nI (i / 2) := by simp [liV, c41, c41n]
              refine go_mem (f' := (mo G m0 q F21 (liA (i + 1) M A21) L (some (q + 17)))) (by rw [← liA_s, hv]) ?_
              exact ih_lp0 (i + 1) _ (by omega) (by omega) (by simp [hx, cnS, hv, c63])
    refine go_mem (f' := (mo G m0 q F21 (liA 0 M A21) L (some (q + 17)))) (by rw [liA_0]) ?_
    exact lp0 (N + 1) 0 _ (Nat.zero_le _) (by omega) rfl
  · have c12 := bz_f c12
    refine go_ldc (v := 1000000001) dX12_list_15 wm_1379 ?_
    exact go_iret dX12_list_17 rfl (Nat.le_of_ble_eq_true rfl) (Nat.le_of_ble_eq_true rfl) (hQ9 ▸ ⟨rd_i (by unfold lisS; rw [if_neg c12]), ⟨upd F 16 0, A, K, ⟨rfl, rfl, rfl, rfl, fun _ _ => rfl⟩, rfl⟩, rfl⟩)
end M14
section M15
variable {G : GX} {m0 f : Mem} {q n N M : Nat} {F : Nat → Int32} {A : Nat → Nat → Int32} {L : Nat → Nat → Int64} {K : Option Nat}
set_option maxHeartbeats 4000000 in
set_option maxRecDepth 100000 in
theorem e_X12_copy (hq : G.2.1 ≤ q) (hn : q + 25 ≤ n) (hrl : rlOK A) {d i e j x : Int32} : Ev G mX12_copy 3 0 0 [.ref q, .int d, .int i, .int e, .int j, .int x] (mo G m0 q F A L K) n (fun r f1 n1 => r = some (.int (coR A d i e j x)) ∧ f1 = (mo G m0 q (upd F 16 0) A (coL A L d i e j x) K) ∧ n1 = n) := by
  generalize hQ9 : (fun r f1 n1 => r = some (.int (coR A d i e j x)) ∧ f1 = (mo G m0 q (upd F 16 0) A (coL A L d i e j x) K) ∧ n1 = n : RQ) = Q9
  refine ev_of (by decide) (Nat.le_of_ble_eq_true rfl) (ls := [some (.ref q), some (.int d), some (.int i), some (.int e), some (.int j), some (.int x), none]) rfl (fun hb => ?_)
  refine go_aload_n dX12_copy_0 rfl ?_
  refine go_iconst (v := 0) dX12_copy_1 rfl ?_
  refine go_put dX12_copy_2 fp_X12_83_12 (Or.inr (fun _ _ _ h => by cases h; rfl)) mo_obj hq (by omega) (rfl) rfl (Nat.le_of_ble_eq_true rfl) ?_
  refine go_mem (mo_setO (F' := (upd F 16 (0))) (K' := K) rfl) ?_
  refine go_iload_n dX12_copy_5 rfl ?_
  refine go_i2l dX12_copy_6 ?_
  refine go_lconst (v := 0) dX12_copy_7 rfl ?_
  refine go_ldc2 (v := 7) dX12_copy_8 wm_1213 ?_
  refine go_Sr [.long (d).toInt64, .long 0, .long 7] [] dX12_copy_11 sl_X12_90 ⟨by decide, by decide⟩ (e_X12_lies) rfl rfl (Nat.le_of_ble_eq_true rfl) (Nat.le_of_ble_eq_true rfl) (Nat.le_of_ble_eq_true rfl) ?_
  refine go_tp (z := if okr d 0 7 then 1 else 0) (ite_c (li_okr rfl rfl)) ?_
  refine go_if_eq dX12_copy_14 (fun c14 => ?_) (fun c14 => ?_)
  · have c14 := bz_f c14
    refine go_iconst (v := (-1)) dX12_copy_29 rfl ?_
    exact go_iret dX12_copy_30 rfl (Nat.le_of_ble_eq_true rfl) (Nat.le_of_ble_eq_true rfl) (hQ9 ▸ ⟨rd_i (a := (-1)) (by simp [coR, coB, coK, c14]), by simp [coL, coC, coB, coK, c14], rfl⟩)
  · have c14 := bz_t c14
    obtain ⟨jd, hjd, rfl⟩ := okr_nI (k := 7) rfl (by omega) c14
    have kjd : (nI jd).toNatClampNeg = jd := nI_clamp (by omega)
    refine go_iload_n dX12_copy_17 rfl ?_
    refine go_i2l dX12_copy_18 ?_
    refine go_lconst (v := 0) dX12_copy_19 rfl ?_
    refine go_ldc2 (v := 7) dX12_copy_20 wm_1213 ?_
    refine go_Sr [.long (e).toInt64, .long 0, .long 7] [] dX12_copy_23 sl_X12_90 ⟨by decide, by decide⟩ (e_X12_lies) rfl rfl (Nat.le_of_ble_eq_true rfl) (Nat.le_of_ble_eq_true rfl) (Nat.le_of_ble_eq_true rfl) ?_
    refine go_tp (z := if okr e 0 7 then 1 else 0) (ite_c (li_okr rfl rfl)) ?_
    refine go_if_ne dX12_copy_26 (fun c26 => ?_) (fun c26 => ?_)
    · have c26 := bz_t c26
      obtain ⟨je, hje, rfl⟩ := okr_nI (k := 7) rfl (by omega) c26
      have kje : (nI je).toNatClampNeg = je := nI_clamp (by omega)
      refine go_aload_n dX12_copy_31 rfl ?_
      refine go_get dX12_copy_32 fl_X12_31_12 mo_obj hq (by omega) rfl ?_
      refine go_iload_n dX12_copy_35 rfl ?_
      refine go_iald dX12_copy_36 (mo_arr 8 (by decide)) (by omega) (by omega) (vp_in_nI (n := jd) (by show jd < 8; omega) (by decide)) ?_
      refine go_tp (z := A 8 jd) (by rw [nI_clamp (by omega)]) ?_
      refine go_if_eq dX12_copy_37 (fun c37 => ?_) (fun c37 => ?_)
      · refine go_bipush (v := (-11)) dX12_copy_49 rfl ?_
        exact go_iret dX12_copy_51 rfl (Nat.le_of_ble_eq_true rfl) (Nat.le_of_ble_eq_true rfl) (hQ9 ▸ ⟨rd_i (a := (-11)) (by simp [coR, coB, coK, c14, kjd, c26, kje, c37]), by simp [coL, coC, coB, coK, c14, kjd, c26, kje, c37], rfl⟩)
      · refine go_aload_n dX12_copy_40 rfl ?_
        refine go_get dX12_copy_41 fl_X12_31_12 mo_obj hq (by omega) rfl ?_
        refine go_iload_n dX12_copy_44 rfl ?_
        refine go_iald dX12_copy_45 (mo_arr 8 (by decide)) (by omega) (by omega) (vp_in_nI (n := je) (by show je < 8; omega) (by decide)) ?_
        refine go_tp (z := A 8 je) (by rw [nI_clamp (by omega)]) ?_
        refine go_if_ne dX12_copy_46 (fun c46 => ?_) (fun c46 => ?_)
        · refine go_aload_n dX12_copy_52 rfl ?_
          refine go_get dX12_copy_53 fl_X12_31_12 mo_obj hq (by omega) rfl ?_
          refine go_iload_n dX12_copy_56 rfl ?_
          refine go_iald dX12_copy_57 (mo_arr 8 (by decide)) (by omega) (by omega) (vp_in_nI (n := jd) (by show jd < 8; omega) (by decide)) ?_
          refine go_tp (z := A 8 jd) (by rw [nI_clamp (by omega)]) ?_
          refine go_iconst (v := 2) dX12_copy_58 rfl ?_
          refine go_icmp_ne dX12_copy_59 (fun c59 => ?_) (fun c59 => ?_)
          · refine go_bipush (v := (-12)) dX12_copy_87 rfl ?_
            exact go_iret dX12_copy_89 rfl (Nat.le_of_ble_eq_true rfl) (Nat.le_of_ble_eq_true rfl) (hQ9 ▸ ⟨rd_i (a := (-12)) (by simp [coR, coB, coK, c14, kjd, c26, kje, c37, c46, c59]), by simp [coL, coC, coB, coK, c14, kjd, c26, kje, c37, c46, c59], rfl⟩)
          · refine go_aload_n dX12_copy_62 rfl ?_
            refine go_get dX12_copy_63 fl_X12_31_12 mo_obj hq (by omega) rfl ?_
            refine go_iload_n dX12_copy_66 rfl ?_
            refine go_iald dX12_copy_67 (mo_arr 8 (by decide)) (by omega) (by omega) (vp_in_nI (n := je) (by show je < 8; omega) (by decide)) ?_
            refine go_tp (z := A 8 je) (by rw [nI_clamp (by omega)]) ?_
            refine go_iconst (v := 2) dX12_copy_68 rfl ?_
            refine go_icmp_ne dX12_copy_69 (fun c69 => ?_) (fun c69 => ?_)
            · refine go_bipush (v := (-12)) dX12_copy_87 rfl ?_
              exact go_iret dX12_copy_89 rfl (Nat.le_of_ble_eq_true rfl) (Nat.le_of_ble_eq_true rfl) (hQ9 ▸ ⟨rd_i (a := (-12)) (by simp [coR, coB, coK, c14, kjd, c26, kje, c37, c46, c59, c69]), by simp [coL, coC, coB, coK, c14, kjd, c26, kje, c37, c46, c59, c69], rfl⟩)
            · refine go_aload_n dX12_copy_72 rfl ?_
              refine go_get dX12_copy_73 fl_X12_40_12 mo_obj hq (by omega) rfl ?_
              refine go_iload_n dX12_copy_76 rfl ?_
              refine go_iald dX12_copy_77 (mo_arr 11 (by decide)) (by omega) (by omega) (vp_in_nI (n := jd) (by show jd < 8; omega) (by decide)) ?_
              refine go_tp (z := A 11 jd) (by rw [nI_clamp (by omega)]) ?_
              refine go_aload_n dX12_copy_78 rfl ?_
              refine go_get dX12_copy_79 fl_X12_40_12 mo_obj hq (by omega) rfl ?_
              refine go_iload_n dX12_copy_82 rfl ?_
              refine go_iald dX12_copy_83 (mo_arr 11 (by decide)) (by omega) (by omega) (vp_in_nI (n := je) (by show je < 8; omega) (by decide)) ?_
              refine go_tp (z := A 11 je) (by rw [nI_clamp (by omega)]) ?_
              refine go_icmp_eq dX12_copy_84 (fun c84 => ?_) (fun c84 => ?_)
              · obtain ⟨R, hR, eR⟩ := hrl jd (by omega)
                obtain ⟨R2, hR2, eR2⟩ := hrl je (by omega)
                refine go_iload dX12_copy_90 rfl ?_
                refine go_if_lt dX12_copy_92 (fun c92 => ?_) (fun c92 => ?_)
                · refine go_bipush (v := (-13)) dX12_copy_131 rfl ?_
                  exact go_iret dX12_copy_133 rfl (Nat.le_of_ble_eq_true rfl) (Nat.le_of_ble_eq_true rfl) (hQ9 ▸ ⟨rd_i (a := (-13)) (by simp [coR, coB, coK, c14, kjd, c26, kje, c37, c46, c59, c69, c84, c92, eR, eR2, kjd, kje]), by simp [coL, coC, coB, coK, c14, kjd, c26, kje, c37, c46, c59, c69, c84, c92, eR, eR2, kjd, kje], rfl⟩)
                · obtain ⟨jx, hjx, rfl⟩ := nI_of c92
                  have kjx : (nI jx).toNatClampNeg = jx := nI_clamp (by omega)
                  refine go_iload_n dX12_copy_95 rfl ?_
                  refine go_if_lt dX12_copy_96 (fun c96 => ?_) (fun c96 => ?_)
                  · refine go_bipush (v := (-13)) dX12_copy_131 rfl ?_
                    exact go_iret dX12_copy_133 rfl (Nat.le_of_ble_eq_true rfl) (Nat.le_of_ble_eq_true rfl) (hQ9 ▸ ⟨rd_i (a := (-13)) (by simp [coR, coB, coK, c14, kjd, c26, kje, c37, c46, c59, c69, c84, c92, c96, eR, eR2, kjd, kje]), by simp [coL, coC, coB, coK, c14, kjd, c26, kje, c37, c46, c59, c69, c84, c92, c96, eR, eR2, kjd, kje], rfl⟩)
                  · obtain ⟨ji, hji, rfl⟩ := nI_of c96
                    have kji : (nI ji).toNatClampNeg = ji := nI_clamp (by omega)
                    refine go_iload dX12_copy_99 rfl ?_
                    refine go_if_lt dX12_copy_101 (fun c101 => ?_) (fun c101 => ?_)
                    · refine go_bipush (v := (-13)) dX12_copy_131 rfl ?_
                      exact go_iret dX12_copy_133 rfl (Nat.le_of_ble_eq_true rfl) (Nat.le_of_ble_eq_true rfl) (hQ9 ▸ ⟨rd_i (a := (-13)) (by simp [coR, coB, coK, c14, kjd, c26, kje, c37, c46, c59, c69, c84, c92, c96, c101, eR, eR2, kjd, kje]), by simp [coL, coC, coB, coK, c14, kjd, c26, kje, c37, c46, c59, c69, c84, c92, c96, c101, eR, eR2, kjd, kje], rfl⟩)
                    · obtain ⟨jj, hjj, rfl⟩ := nI_of c101
                      have kjj : (nI jj).toNatClampNeg = jj := nI_clamp (by omega)
                      refine go_iload_n dX12_copy_104 rfl ?_
                      refine go_aload_n dX12_copy_105 rfl ?_
                      refine go_get dX12_copy_106 fl_X12_43_12 mo_obj hq (by omega) rfl ?_
                      refine go_iload_n dX12_copy_109 rfl ?_
                      refine go_iald dX12_copy_110 (mo_arr 12 (by decide)) (by omega) (by omega) (vp_in_nI (n := jd) (by show jd < 8; omega) (by decide)) ?_
                      refine go_tp (z := A 12 jd) (by rw [nI_clamp (by omega)]) ?_
                      refine go_tp (z := nI R) (eR) ?_
                      refine go_iload dX12_copy_111 rfl ?_
                      refine go_isub dX12_copy_113 ?_
                      refine go_icmp_gt dX12_copy_114 (fun c114 => ?_) (fun c114 => ?_)
                      · refine go_bipush (v := (-13)) dX12_copy_131 rfl ?_
                        exact go_iret dX12_copy_133 rfl (Nat.le_of_ble_eq_true rfl) (Nat.le_of_ble_eq_true rfl) (hQ9 ▸ ⟨rd_i (a := (-13)) (by simp [coR, coB, coK, c14, kjd, c26, kje, c37, c46, c59, c69, c84, c92, c96, c101, c114, eR, eR2, kjd, kje]), by simp [coL, coC, coB, coK, c14, kjd, c26, kje, c37, c46, c59, c69, c84, c92, c96, c101, c114, eR, eR2, kjd, kje], rfl⟩)
                      · have h114 := mt (le_subI (by omega) hR (by omega)).mpr c114
                        refine go_iload dX12_copy_117 rfl ?_
                        refine go_aload_n dX12_copy_119 rfl ?_
                        refine go_get dX12_copy_120 fl_X12_43_12 mo_obj hq (by omega) rfl ?_
                        refine go_iload_n dX12_copy_123 rfl ?_
                        refine go_iald dX12_copy_124 (mo_arr 12 (by decide)) (by omega) (by omega) (vp_in_nI (n := je) (by show je < 8; omega) (by decide)) ?_
                        refine go_tp (z := A 12 je) (by rw [nI_clamp (by omega)]) ?_
                        refine go_tp (z := nI R2) (eR2) ?_
                        refine go_iload dX12_copy_125 rfl ?_
                        refine go_isub dX12_copy_127 ?_
                        refine go_icmp_le dX12_copy_128 (fun c128 => ?_) (fun c128 => ?_)
                        · have c128 := Int32.not_lt.mpr c128
                          have h128 := mt (le_subI (by omega) hR2 (by omega)).mpr c128
                          refine go_iconst (v := 0) dX12_copy_134 rfl ?_
                          refine go_istore (ls' := [some (.ref q), some (.int (nI jd)), some (.int (nI ji)), some (.int (nI je)), some (.int (nI jj)), some (.int (nI jx)), some (.int 0)]) dX12_copy_135 ⟨by decide, rfl, rfl⟩ ?_
                          have lp0 : ∀ (μ_lp0 : Nat) (k : Nat) (hk : k ≤ jx) (hmk : jx + 1 ≤ k + μ_lp0), Go G mX12_copy 3 0 0 Q9 0 0 137 [some (.ref q), some (.int (nI jd)), some (.int (nI ji)), some (.int (nI je)), some (.int (nI jj)), some (.int (nI jx)), some (.int (nI k))] [] (mo G m0 q (upd F 16 (0)) A (btL L jd ji k) K) n := by
                            intro μ_lp0
                            induction μ_lp0 with
                            | zero =>
                              intro k hk hmk
                              exact absurd hmk (by omega)
                            | succ μ_lp0 ih_lp0 =>
                              intro k hk hmk
                              refine go_iload dX12_copy_137 rfl ?_
                              refine go_iload dX12_copy_139 rfl ?_
                              refine go_icmp_ge dX12_copy_141 (fun c141 => ?_) (fun c141 => ?_)
                              · have c141n := (nI_leI (a := jx) (b := k) (by omega) (by omega)).mp c141
                                have c141n := Nat.not_lt.mpr c141n
                                have c141 := Int32.not_lt.mpr c141
                                refine go_iconst (v := 0) dX12_copy_171 rfl ?_
                                refine go_istore (ls' := [some (.ref q), some (.int (nI jd)), some (.int (nI ji)), some (.int (nI je)), some (.int (nI jj)), some (.int (nI jx)), some (.int 0)]) dX12_copy_172 ⟨by decide, rfl, rfl⟩ ?_
                                have lp1 : ∀ (μ_lp1 : Nat) (k2 : Nat) (hk2 : k2 ≤ jx) (hmk2 : jx + 1 ≤ k2 + μ_lp1), Go G mX12_copy 3 0 0 Q9 0 0 174 [some (.ref q), some (.int (nI jd)), some (.int (nI ji)), some (.int (nI je)), some (.int (nI jj)), some (.int (nI jx)), some (.int (nI k2))] [] (mo G m0 q (upd F 16 (0)) A (cpL L jd ji je jj jx k2) K) n := by
                                  intro μ_lp1
                                  induction μ_lp1 with
                                  | zero =>
                                    intro k2 hk2 hmk2
                                    exact absurd hmk2 (by omega)
                                  | succ μ_lp1 ih_lp1 =>
                                    intro k2 hk2 hmk2
                                    refine go_iload dX12_copy_174 rfl ?_
                                    refine go_iload dX12_copy_176 rfl ?_
                                    refine go_icmp_ge dX12_copy_178 (fun c178 => ?_) (fun c178 => ?_)
                                    · have c178n := (nI_leI (a := jx) (b := k2) (by omega) (by omega)).mp c178
                                      have c178n := Nat.not_lt.mpr c178n
                                      have c178 := Int32.not_lt.mpr c178
                                      refine go_iload dX12_copy_209 rfl ?_
                                      exact go_iret dX12_copy_211 rfl (Nat.le_of_ble_eq_true rfl) (Nat.le_of_ble_eq_true rfl) (hQ9 ▸ ⟨rd_i (a := nI jx) (by simp [coR, coB, coK, c14, kjd, c26, kje, c37, c46, c59, c69, c84, c92, c96, c101, c114, c128, eR, eR2, kjd, kje]), by rw [show k2 = jx by omega]; simp [coL, coC, coB, coK, kji, kjj, kjx, c14, kjd, c26, kje, c37, c46, c59, c69, c84, c92, c96, c101, c114, c128, eR, eR2, kjd, kje], rfl⟩)
                                    · have c178n := mt (nI_leI (a := jx) (b := k2) (by omega) (by omega)).mpr c178
                                      have c178n := Nat.lt_of_not_le c178n
                                      have c178 := Int32.not_le.mp c178
                                      refine go_aload_n dX12_copy_181 rfl ?_
                                      refine go_get dX12_copy_182 fl_X12_46_12 mo_obj hq (by omega) rfl ?_
                                      refine go_bipush (v := 100) dX12_copy_185 rfl ?_
                                      refine go_iload_n dX12_copy_187 rfl ?_
                                      refine go_imul dX12_copy_188 ?_
                                      refine go_tp (z := nI (100 * je)) (pk_mul 100 je) ?_
                                      refine go_iload dX12_copy_189 rfl ?_
                                      refine go_iadd dX12_copy_191 ?_
                                      refine go_tp (z := nI ((100 * je) + jj)) (nI_add (100 * je) jj) ?_
                                      refine go_iload dX12_copy_192 rfl ?_
                                      refine go_iadd dX12_copy_194 ?_
                                      refine go_tp (z := nI (((100 * je) + jj) + k2)) (nI_add ((100 * je) + jj) k2) ?_
                                      refine go_aload_n dX12_copy_195 rfl ?_
                                      refine go_get dX12_copy_196 fl_X12_80_12 mo_obj hq (by omega) rfl ?_
                                      refine go_iload dX12_copy_199 rfl ?_
                                      refine go_lald dX12_copy_201 (mo_lrr 24 (by decide)) (by omega) (by omega) (vp_in_nI (n := k2) (by show k2 < 100; omega) (by decide)) ?_
                                      refine go_tl (z := (cpL L jd ji je jj jx k2) 24 k2) (by rw [nI_clamp (by omega)]) ?_
                                      refine go_tl (z := L 13 (100 * jd + ji + k2)) (cpL_24 (by omega)) ?_
                                      refine go_last dX12_copy_202 (mo_lrr 13 (by decide)) (by omega) (by omega) (vp_in_nI (n := ((100 * je) + jj) + k2) (by show ((100 * je) + jj) + k2 < 800; omega) (by decide)) ?_
                                      refine go_mem (mo_setL 13 (by decide) _ _) ?_
                                      rw [nI_clamp (by omega)]
                                      refine go_iinc (v := nI (k2 + 1)) (ls' := [some (.ref q), some (.int (nI jd)), some (.int (nI ji)), some (.int (nI je)), some (.int (nI jj)), some (.int (nI jx)), some (.int (nI (k2 + 1)))]) dX12_copy_203 rfl (nI_1 (k2)) ⟨by decide, rfl, rfl⟩ ?_
                                      refine go_goto dX12_copy_206 ?_
                                      refine go_mem (f' := (mo G m0 q (upd F 16 (0)) A (cpL L jd ji je jj jx (k2 + 1)) K)) (by rw [cpL_s]) ?_
                                      exact ih_lp1 (k2 + 1) (by omega) (by omega)
                                refine go_mem (f' := (mo G m0 q (upd F 16 (0)) A (cpL L jd ji je jj jx 0) K)) (by rw [cpL_0, show k = jx by omega]) ?_
                                exact lp1 (jx + 1) 0 (Nat.zero_le _) (by omega)
                              · have c141n := mt (nI_leI (a := jx) (b := k) (by omega) (by omega)).mpr c141
                                have c141n := Nat.lt_of_not_le c141n
                                have c141 := Int32.not_le.mp c141
                                refine go_aload_n dX12_copy_144 rfl ?_
                                refine go_get dX12_copy_145 fl_X12_80_12 mo_obj hq (by omega) rfl ?_
                                refine go_iload dX12_copy_148 rfl ?_
                                refine go_aload_n dX12_copy_150 rfl ?_
                                refine go_get dX12_copy_151 fl_X12_46_12 mo_obj hq (by omega) rfl ?_
                                refine go_bipush (v := 100) dX12_copy_154 rfl ?_
                                refine go_iload_n dX12_copy_156 rfl ?_
                                refine go_imul dX12_copy_157 ?_
                                refine go_tp (z := nI (100 * jd)) (pk_mul 100 jd) ?_
                                refine go_iload_n dX12_copy_158 rfl ?_
                                refine go_iadd dX12_copy_159 ?_
                                refine go_tp (z := nI ((100 * jd) + ji)) (nI_add (100 * jd) ji) ?_
                                refine go_iload dX12_copy_160 rfl ?_
                                refine go_iadd dX12_copy_162 ?_
                                refine go_tp (z := nI (((100 * jd) + ji) + k)) (nI_add ((100 * jd) + ji) k) ?_
                                refine go_lald dX12_copy_163 (mo_lrr 13 (by decide)) (by omega) (by omega) (vp_in_nI (n := ((100 * jd) + ji) + k) (by show ((100 * jd) + ji) + k < 800; omega) (by decide)) ?_
                                refine go_tl (z := (btL L jd ji k) 13 (((100 * jd) + ji) + k)) (by rw [nI_clamp (by omega)]) ?_
                                refine go_tl (z := L 13 (100 * jd + ji + k)) rfl ?_
                                refine go_last dX12_copy_164 (mo_lrr 24 (by decide)) (by omega) (by omega) (vp_in_nI (n := k) (by show k < 100; omega) (by decide)) ?_
                                refine go_mem (mo_setL 24 (by decide) _ _) ?_
                                rw [nI_clamp (by omega)]
                                refine go_iinc (v := nI (k + 1)) (ls' := [some (.ref q), some (.int (nI jd)), some (.int (nI ji)), some (.int (nI je)), some (.int (nI jj)), some (.int (nI jx)), some (.int (nI (k + 1)))]) dX12_copy_165 rfl (nI_1 (k)) ⟨by decide, rfl, rfl⟩ ?_
                                refine go_goto dX12_copy_168 ?_
                                refine go_mem (f' := (mo G m0 q (upd F 16 (0)) A (btL L jd ji (k + 1)) K)) (by rw [btL_s]) ?_
                                exact ih_lp0 (k + 1) (by omega) (by omega)
                          refine go_mem (f' := (mo G m0 q (upd F 16 (0)) A (btL L jd ji 0) K)) (by rw [btL_0]) ?_
                          exact lp0 (jx + 1) 0 (Nat.zero_le _) (by omega)
                        · have c128 := Int32.not_le.mp c128
                          refine go_bipush (v := (-13)) dX12_copy_131 rfl ?_
                          exact go_iret dX12_copy_133 rfl (Nat.le_of_ble_eq_true rfl) (Nat.le_of_ble_eq_true rfl) (hQ9 ▸ ⟨rd_i (a := (-13)) (by simp [coR, coB, coK, c14, kjd, c26, kje, c37, c46, c59, c69, c84, c92, c96, c101, c114, c128, eR, eR2, kjd, kje]), by simp [coL, coC, coB, coK, c14, kjd, c26, kje, c37, c46, c59, c69, c84, c92, c96, c101, c114, c128, eR, eR2, kjd, kje], rfl⟩)
              · refine go_bipush (v := (-12)) dX12_copy_87 rfl ?_
                exact go_iret dX12_copy_89 rfl (Nat.le_of_ble_eq_true rfl) (Nat.le_of_ble_eq_true rfl) (hQ9 ▸ ⟨rd_i (a := (-12)) (by simp [coR, coB, coK, c14, kjd, c26, kje, c37, c46, c59, c69, c84]), by simp [coL, coC, coB, coK, c14, kjd, c26, kje, c37, c46, c59, c69, c84], rfl⟩)
        · refine go_bipush (v := (-11)) dX12_copy_49 rfl ?_
          exact go_iret dX12_copy_51 rfl (Nat.le_of_ble_eq_true rfl) (Nat.le_of_ble_eq_true rfl) (hQ9 ▸ ⟨rd_i (a := (-11)) (by simp [coR, coB, coK, c14, kjd, c26, kje, c37, c46]), by simp [coL, coC, coB, coK, c14, kjd, c26, kje, c37, c46], rfl⟩)
    · have c26 := bz_f c26
      refine go_iconst (v := (-1)) dX12_copy_29 rfl ?_
      exact go_iret dX12_copy_30 rfl (Nat.le_of_ble_eq_true rfl) (Nat.le_of_ble_eq_true rfl) (hQ9 ▸ ⟨rd_i (a := (-1)) (by simp [coR, coB, coK, c14, kjd, c26]), by simp [coL, coC, coB, coK, c14, kjd, c26], rfl⟩)
set_option maxHeartbeats 4000000 in
set_option maxRecDepth 100000 in
theorem e_X12_divisor {a b : Nat} (ha : a < 2 ^ 62) (hb2 : b < 2 ^ 62) : Ev G mX12_divisor 1 0 0 [.long (lN a), .long (lN b)] f n (RD (.long (lN (Nat.gcd a b))) f n) := by
  generalize hQ9 : (RD (.long (lN (Nat.gcd a b))) f n : RQ) = Q9
  refine ev_of (by decide) (Nat.le_of_ble_eq_true rfl) (ls := [some (.long (lN a)), none, some (.long (lN b)), none, none, none, none, none, none, none]) rfl (fun hb => ?_)
  refine go_lload_n dX12_divisor_0 rfl ?_
  refine go_lstore (ls' := [some (.long (lN a)), none, some (.long (lN b)), none, some (.long (lN a)), none, none, none, none, none]) dX12_divisor_1 ⟨by decide, rfl, rfl⟩ ?_
  refine go_lload_n dX12_divisor_3 rfl ?_
  refine go_lstore (ls' := [some (.long (lN a)), none, some (.long (lN b)), none, some (.long (lN a)), none, some (.long (lN b)), none, none, none]) dX12_divisor_4 ⟨by decide, rfl, rfl⟩ ?_
  have lp0 : ∀ (μ_lp0 : Nat) (x y : Nat) (hx : x < 2 ^ 62) (hy : y < 2 ^ 62) (hmy : y + 1 ≤ μ_lp0) (hg : Nat.gcd x y = Nat.gcd a b), Go G mX12_divisor 1 0 0 Q9 0 0 6 [none, none, none, none, some (.long (lN x)), none, some (.long (lN y)), none, none, none] [] f n := by
    intro μ_lp0
    induction μ_lp0 with
    | zero =>
      intro x y hx hy hmy hg
      exact absurd hmy (by omega)
    | succ μ_lp0 ih_lp0 =>
      intro x y hx hy hmy hg
      refine go_lload dX12_divisor_6 rfl ?_
      refine go_lconst (v := 0) dX12_divisor_8 rfl ?_
      refine go_lcmp dX12_divisor_9 ?_
      refine go_if_eq dX12_divisor_10 (fun c10 => ?_) (fun c10 => ?_)
      · have c10 := (lc_eq _ _).mp c10
        refine go_lload dX12_divisor_31 rfl ?_
        exact go_lret dX12_divisor_33 rfl (Nat.le_of_ble_eq_true rfl) (Nat.le_of_ble_eq_true rfl) (hQ9 ▸ ⟨rd_l (by rw [← hg, (pk_lEQ (by omega) (by omega)).mp (show lN y = lN 0 from c10), Nat.gcd_zero_right]), rfl, rfl⟩)
      · have c10 := mt (lc_eq _ _).mpr c10
        have hb0 : 0 < y := Nat.pos_of_ne_zero (fun z => c10 (by rw [z]; rfl))
        refine go_lload dX12_divisor_13 rfl ?_
        refine go_lload dX12_divisor_15 rfl ?_
        refine go_lrem dX12_divisor_17 (c10) ?_
        refine go_tl (z := lN (x % y)) (pk_lRem (by omega) hb0 (by omega)) ?_
        refine go_lstore (ls' := [none, none, none, none, some (.long (lN x)), none, some (.long (lN y)), none, some (.long (lN (x % y))), none]) dX12_divisor_18 ⟨by decide, rfl, rfl⟩ ?_
        refine go_lload dX12_divisor_20 rfl ?_
        refine go_lstore (ls' := [none, none, none, none, some (.long (lN y)), none, some (.long (lN y)), none, some (.long (lN (x % y))), none]) dX12_divisor_22 ⟨by decide, rfl, rfl⟩ ?_
        refine go_lload dX12_divisor_24 rfl ?_
        refine go_lstore (ls' := [none, none, none, none, some (.long (lN y)), none, some (.long (lN (x % y))), none, some (.long (lN (x % y))), none]) dX12_divisor_26 ⟨by decide, rfl, rfl⟩ ?_
        refine go_goto dX12_divisor_28 ?_
        refine go_weak (ls' := [none, none, none, none, some (.long (lN y)), none, some (.long (lN (x % y))), none, none, none]) ⟨rfl, rfl, trivial⟩ ?_
        exact ih_lp0 y (x % y) hy (Nat.lt_trans (Nat.mod_lt x hb0) hy) (by have := Nat.mod_lt x hb0; omega) (by rw [Nat.gcd_comm y (x % y), ← Nat.gcd_rec y x, Nat.gcd_comm y x]; exact hg)
  refine go_weak (ls' := [none, none, none, none, some (.long (lN a)), none, some (.long (lN b)), none, none, none]) ⟨rfl, rfl, trivial⟩ ?_
  exact lp0 (b + 1) a b ha hb2 (by omega) rfl
set_option maxHeartbeats 4000000 in
set_option maxRecDepth 100000 in
theorem e_X12_gone (hq : G.2.1 ≤ q) (hn : q + 25 ≤ n) (hM : F 5 = nI M) (hM5 : M ≤ 5) (hky : kyOK M (A 7)) {l t k part : Int32} : Ev G mX12_gone 4 0 0 [.ref q, .int l, .int t, .int k, .int part] (mo G m0 q F A L K) n (fun r f1 n1 => r = some (.long (gonS M A l t k part)) ∧ f1 = mo G m0 q (upd F 16 0) A L K ∧ n1 = n) := by
  generalize hQ9 : (fun r f1 n1 => r = some (.long (gonS M A l t k part)) ∧ f1 = mo G m0 q (upd F 16 0) A L K ∧ n1 = n : RQ) = Q9
  refine ev_of (by decide) (Nat.le_of_ble_eq_true rfl) (ls := [some (.ref q), some (.int l), some (.int t), some (.int k), some (.int part), none, none, none, none, none, none, none, none, none, none]) rfl (fun hb => ?_)
  refine go_aload_n dX12_gone_0 rfl ?_
  refine go_iconst (v := 0) dX12_gone_1 rfl ?_
  refine go_put dX12_gone_2 fp_X12_83_12 (Or.inr (fun _ _ _ h => by cases h; rfl)) mo_obj hq (by omega) (rfl) rfl (Nat.le_of_ble_eq_true rfl) ?_
  refine go_mem (mo_setO (F' := (upd F 16 (0))) (K' := K) rfl) ?_
  refine go_aload_n dX12_gone_5 rfl ?_
  refine go_iload_n dX12_gone_6 rfl ?_
  refine go_Vr [.int l] [] dX12_gone_7 vl_X12_151 ⟨by decide, by decide⟩ (e_X12_isLocker (F := (upd F 16 (0))) (A := A) (L := L) (K := K) hq hn hM hM5) mo_obj hq (by omega) rfl rfl (Nat.le_of_ble_eq_true rfl) (Nat.le_of_ble_eq_true rfl) (Nat.le_of_ble_eq_true rfl) ?_
  refine go_if_eq dX12_gone_10 (fun c10 => ?_) (fun c10 => ?_)
  · have c10 := bz_f c10
    refine go_ldc2 (v := 1000000001) dX12_gone_50 wm_1537 ?_
    exact go_lret dX12_gone_53 rfl (Nat.le_of_ble_eq_true rfl) (Nat.le_of_ble_eq_true rfl) (hQ9 ▸ ⟨rd_l (by simp [gonS, c10]), rfl, rfl⟩)
  · have c10 := bz_t c10
    obtain ⟨jl, hjl, rfl⟩ := okp_nI c10 (by omega)
    have kjl : (nI jl).toNatClampNeg = jl := nI_clamp (by omega)
    refine go_iload_n dX12_gone_13 rfl ?_
    refine go_i2l dX12_gone_14 ?_
    refine go_ldc2 (v := 2) dX12_gone_15 wm_1534 ?_
    refine go_ldc2 (v := 20) dX12_gone_18 wm_1535 ?_
    refine go_Sr [.long (t).toInt64, .long 2, .long 20] [] dX12_gone_21 sl_X12_90 ⟨by decide, by decide⟩ (e_X12_lies) rfl rfl (Nat.le_of_ble_eq_true rfl) (Nat.le_of_ble_eq_true rfl) (Nat.le_of_ble_eq_true rfl) ?_
    refine go_tp (z := if okr t 2 20 then 1 else 0) (ite_c (li_okr rfl rfl)) ?_
    refine go_if_eq dX12_gone_24 (fun c24 => ?_) (fun c24 => ?_)
    · have c24 := bz_f c24
      refine go_ldc2 (v := 1000000001) dX12_gone_50 wm_1537 ?_
      exact go_lret dX12_gone_53 rfl (Nat.le_of_ble_eq_true rfl) (Nat.le_of_ble_eq_true rfl) (hQ9 ▸ ⟨rd_l (by simp [gonS, c10, c24]), rfl, rfl⟩)
    · have c24 := bz_t c24
      refine go_iload_n dX12_gone_27 rfl ?_
      refine go_i2l dX12_gone_28 ?_
      refine go_lconst (v := 1) dX12_gone_29 rfl ?_
      refine go_ldc2 (v := 4) dX12_gone_30 wm_1536 ?_
      refine go_Sr [.long (k).toInt64, .long 1, .long 4] [] dX12_gone_33 sl_X12_90 ⟨by decide, by decide⟩ (e_X12_lies) rfl rfl (Nat.le_of_ble_eq_true rfl) (Nat.le_of_ble_eq_true rfl) (Nat.le_of_ble_eq_true rfl) ?_
      refine go_tp (z := if okr k 1 4 then 1 else 0) (ite_c (li_okr rfl rfl)) ?_
      refine go_if_eq dX12_gone_36 (fun c36 => ?_) (fun c36 => ?_)
      · have c36 := bz_f c36
        refine go_ldc2 (v := 1000000001) dX12_gone_50 wm_1537 ?_
        exact go_lret dX12_gone_53 rfl (Nat.le_of_ble_eq_true rfl) (Nat.le_of_ble_eq_true rfl) (hQ9 ▸ ⟨rd_l (by simp [gonS, c10, c24, c36]), rfl, rfl⟩)
      · have c36 := bz_t c36
        refine go_iload dX12_gone_39 rfl ?_
        refine go_i2l dX12_gone_41 ?_
        refine go_lconst (v := 0) dX12_gone_42 rfl ?_
        refine go_lconst (v := 1) dX12_gone_43 rfl ?_
        refine go_Sr [.long (part).toInt64, .long 0, .long 1] [] dX12_gone_44 sl_X12_90 ⟨by decide, by decide⟩ (e_X12_lies) rfl rfl (Nat.le_of_ble_eq_true rfl) (Nat.le_of_ble_eq_true rfl) (Nat.le_of_ble_eq_true rfl) ?_
        refine go_tp (z := if okr part 0 1 then 1 else 0) (ite_c (li_okr rfl rfl)) ?_
        refine go_if_ne dX12_gone_47 (fun c47 => ?_) (fun c47 => ?_)
        · have c47 := bz_t c47
          obtain ⟨t1, ht1, ht2, rfl⟩ := okr_nI2 (k0 := 2) (k := 20) rfl rfl (by omega) (by omega) c24
          obtain ⟨t0, rfl⟩ : ∃ z, t1 = z + 1 := ⟨t1 - 1, by omega⟩
          obtain ⟨k1, hk1, hk2, rfl⟩ := okr_nI2 (k0 := 1) (k := 4) rfl rfl (by omega) (by omega) c36
          obtain ⟨k7, h7, e7⟩ := hky jl hjl
          have hb1 : ((t0 + 1) ^ k1) ^ k7 < 2 ^ 62 ∧ ((t0 + 1) ^ k1 - t0 ^ k1) ^ k7 < 2 ^ 62 := go_bl (t0 + 1) (by omega) k1 (by omega) k7 h7
          have hbd : (t0 + 1) ^ k1 < 2 ^ 31 ∧ t0 ^ k1 ≤ (t0 + 1) ^ k1 := go_bd (t0 + 1) (by omega) k1 (by omega)
          have kt : (nI (t0 + 1)).toNatClampNeg = t0 + 1 := nI_clamp (by omega)
          have kk : (nI k1).toNatClampNeg = k1 := nI_clamp (by omega)
          have k7c : (nI k7).toNatClampNeg = k7 := nI_clamp (by omega)
          refine go_lconst (v := 1) dX12_gone_54 rfl ?_
          refine go_lstore (ls' := [some (.ref q), some (.int (nI jl)), some (.int (nI (t0 + 1))), some (.int (nI k1)), some (.int part), some (.long 1), none, none, none, none, none, none, none, none, none]) dX12_gone_55 ⟨by decide, rfl, rfl⟩ ?_
          refine go_lconst (v := 1) dX12_gone_57 rfl ?_
          refine go_lstore (ls' := [some (.ref q), some (.int (nI jl)), some (.int (nI (t0 + 1))), some (.int (nI k1)), some (.int part), some (.long 1), none, some (.long 1), none, none, none, none, none, none, none]) dX12_gone_58 ⟨by decide, rfl, rfl⟩ ?_
          refine go_iconst (v := 0) dX12_gone_60 rfl ?_
          refine go_istore (ls' := [some (.ref q), some (.int (nI jl)), some (.int (nI (t0 + 1))), some (.int (nI k1)), some (.int part), some (.long 1), none, some (.long 1), none, some (.int 0), none, none, none, none, none]) dX12_gone_61 ⟨by decide, rfl, rfl⟩ ?_
          have lp0 : ∀ (μ_lp0 : Nat) (i : Nat) (hi : i ≤ k1) (hmi : k1 + 1 ≤ i + μ_lp0), Go G mX12_gone 4 0 0 Q9 0 0 63 [some (.ref q), some (.int (nI jl)), some (.int (nI (t0 + 1))), some (.int (nI k1)), some (.int part), some (.long (lN (t0 ^ i))), none, some (.long (lN ((t0 + 1) ^ i))), none, some (.int (nI i)), none, none, none, none, none] [] (mo G m0 q (upd F 16 (0)) A L K) n := by
            intro μ_lp0
            induction μ_lp0 with
            | zero =>
              intro i hi hmi
              exact absurd hmi (by omega)
            | succ μ_lp0 ih_lp0 =>
              intro i hi hmi
              refine go_iload dX12_gone_63 rfl ?_
              refine go_iload_n dX12_gone_65 rfl ?_
              refine go_icmp_ge dX12_gone_66 (fun c66 => ?_) (fun c66 => ?_)
              · have c66n := (nI_leI (a := k1) (b := i) (by omega) (by omega)).mp c66
                have c66n := Nat.not_lt.mpr c66n
                have c66 := Int32.not_lt.mpr c66
                refine go_lconst (v := 1) dX12_gone_91 rfl ?_
                refine go_lstore (ls' := [some (.ref q), some (.int (nI jl)), some (.int (nI (t0 + 1))), some (.int (nI k1)), some (.int part), some (.long (lN (t0 ^ i))), none, some (.long (lN ((t0 + 1) ^ i))), none, some (.long 1), none, none, none, none, none]) dX12_gone_92 ⟨by decide, rfl, rfl⟩ ?_
                refine go_lconst (v := 1) dX12_gone_94 rfl ?_
                refine go_lstore (ls' := [some (.ref q), some (.int (nI jl)), some (.int (nI (t0 + 1))), some (.int (nI k1)), some (.int part), some (.long (lN (t0 ^ i))), none, some (.long (lN ((t0 + 1) ^ i))), none, some (.long 1), none, some (.long 1), none, none, none]) dX12_gone_95 ⟨by decide, rfl, rfl⟩ ?_
                refine go_iconst (v := 0) dX12_gone_97 rfl ?_
                refine go_istore (ls' := [some (.ref q), some (.int (nI jl)), some (.int (nI (t0 + 1))), some (.int (nI k1)), some (.int part), some (.long (lN (t0 ^ i))), none, some (.long (lN ((t0 + 1) ^ i))), none, some (.long 1), none, some (.long 1), none, some (.int 0), none]) dX12_gone_98 ⟨by decide, rfl, rfl⟩ ?_
                have lp1 : ∀ (μ_lp1 : Nat) (i2 : Nat) (hi2 : i2 ≤ k7) (hmi2 : k7 + 1 ≤ i2 + μ_lp1), Go G mX12_gone 4 0 0 Q9 0 0 100 [some (.ref q), some (.int (nI jl)), some (.int (nI (t0 + 1))), some (.int (nI k1)), some (.int part), some (.long (lN (t0 ^ k1))), none, some (.long (lN ((t0 + 1) ^ k1))), none, some (.long (lN (((t0 + 1) ^ k1 - t0 ^ k1) ^ i2))), none, some (.long (lN (((t0 + 1) ^ k1) ^ i2))), none, some (.int (nI i2)), none] [] (mo G m0 q (upd F 16 (0)) A L K) n := by
                  intro μ_lp1
                  induction μ_lp1 with
                  | zero =>
                    intro i2 hi2 hmi2
                    exact absurd hmi2 (by omega)
                  | succ μ_lp1 ih_lp1 =>
                    intro i2 hi2 hmi2
                    refine go_iload dX12_gone_100 rfl ?_
                    refine go_aload_n dX12_gone_102 rfl ?_
                    refine go_get dX12_gone_103 fl_X12_28_12 mo_obj hq (by omega) rfl ?_
                    refine go_iload_n dX12_gone_106 rfl ?_
                    refine go_iald dX12_gone_107 (mo_arr 7 (by decide)) (by omega) (by omega) (vp_in_nI (n := jl) (by show jl < 5; omega) (by decide)) ?_
                    refine go_tp (z := A 7 jl) (by rw [nI_clamp (by omega)]) ?_
                    refine go_tp (z := nI k7) (e7) ?_
                    refine go_icmp_ge dX12_gone_108 (fun c108 => ?_) (fun c108 => ?_)
                    · have c108n := (nI_leI (a := k7) (b := i2) (by omega) (by omega)).mp c108
                      have c108n := Nat.not_lt.mpr c108n
                      have c108 := Int32.not_lt.mpr c108
                      have hi27 : i2 = k7 := by omega
                      subst hi27
                      refine go_lload dX12_gone_134 rfl ?_
                      refine go_lload dX12_gone_136 rfl ?_
                      have hgc : Nat.gcd (((t0 + 1) ^ k1 - t0 ^ k1) ^ i2) (((t0 + 1) ^ k1) ^ i2) = 1 := go_gcd (t0 + 1) (by omega) k1 (by omega) i2 h7 (by omega)
                      refine go_Sr [.long (lN (((t0 + 1) ^ k1 - t0 ^ k1) ^ i2)), .long (lN (((t0 + 1) ^ k1) ^ i2))] [] dX12_gone_138 sl_X12_323 ⟨by decide, by decide⟩ (e_X12_divisor (a := ((t0 + 1) ^ k1 - t0 ^ k1) ^ i2) (b := ((t0 + 1) ^ k1) ^ i2) hb1.2 hb1.1) rfl rfl (Nat.le_of_ble_eq_true rfl) (Nat.le_of_ble_eq_true rfl) (Nat.le_of_ble_eq_true rfl) ?_
                      refine go_tl (z := 1) (by rw [hgc]; rfl) ?_
                      refine go_lstore (ls' := [some (.ref q), some (.int (nI jl)), some (.int (nI (t0 + 1))), some (.int (nI k1)), some (.int part), some (.long (lN (t0 ^ k1))), none, some (.long (lN ((t0 + 1) ^ k1))), none, some (.long (lN (((t0 + 1) ^ k1 - t0 ^ k1) ^ i2))), none, some (.long (lN (((t0 + 1) ^ k1) ^ i2))), none, some (.long 1), none]) dX12_gone_141 ⟨by decide, rfl, rfl⟩ ?_
                      refine go_iload dX12_gone_143 rfl ?_
                      refine go_if_ne dX12_gone_145 (fun c145 => ?_) (fun c145 => ?_)
                      · refine go_lload dX12_gone_156 rfl ?_
                        refine go_lload dX12_gone_158 rfl ?_
                        refine go_ldiv dX12_gone_160 (by decide) ?_
                        refine go_tl (z := lN (((t0 + 1) ^ k1) ^ i2)) (by rw [show (1 : Int64) = lN 1 from rfl, pk_lDiv (by omega) (by decide) (by decide), Nat.div_one]) ?_
                        exact go_lret dX12_gone_161 rfl (Nat.le_of_ble_eq_true rfl) (Nat.le_of_ble_eq_true rfl) (hQ9 ▸ ⟨rd_l (by simp [gonS, kjl, kt, kk, k7c, e7, c10, c24, c36, c47, c145]), rfl, rfl⟩)
                      · subst c145
                        refine go_lload dX12_gone_148 rfl ?_
                        refine go_lload dX12_gone_150 rfl ?_
                        refine go_ldiv dX12_gone_152 (by decide) ?_
                        refine go_tl (z := lN (((t0 + 1) ^ k1 - t0 ^ k1) ^ i2)) (by rw [show (1 : Int64) = lN 1 from rfl, pk_lDiv (by omega) (by decide) (by decide), Nat.div_one]) ?_
                        refine go_goto dX12_gone_153 ?_
                        exact go_lret dX12_gone_161 rfl (Nat.le_of_ble_eq_true rfl) (Nat.le_of_ble_eq_true rfl) (hQ9 ▸ ⟨rd_l (by simp [gonS, kjl, kt, kk, k7c, e7, c10, c24, c36, c47]), rfl, rfl⟩)
                    · have c108n := mt (nI_leI (a := k7) (b := i2) (by omega) (by omega)).mpr c108
                      have c108n := Nat.lt_of_not_le c108n
                      have c108 := Int32.not_le.mp c108
                      refine go_lload dX12_gone_111 rfl ?_
                      refine go_lload dX12_gone_113 rfl ?_
                      refine go_lload dX12_gone_115 rfl ?_
                      refine go_lsub dX12_gone_117 ?_
                      refine go_lmul dX12_gone_118 ?_
                      refine go_tl (z := lN (((t0 + 1) ^ k1 - t0 ^ k1) ^ (i2 + 1))) (by rw [lN_sub hbd.2, lN_mul, Nat.pow_succ]) ?_
                      refine go_lstore (ls' := [some (.ref q), some (.int (nI jl)), some (.int (nI (t0 + 1))), some (.int (nI k1)), some (.int part), some (.long (lN (t0 ^ k1))), none, some (.long (lN ((t0 + 1) ^ k1))), none, some (.long (lN (((t0 + 1) ^ k1 - t0 ^ k1) ^ (i2 + 1)))), none, some (.long (lN (((t0 + 1) ^ k1) ^ i2))), none, some (.int (nI i2)), none]) dX12_gone_119 ⟨by decide, rfl, rfl⟩ ?_
                      refine go_lload dX12_gone_121 rfl ?_
                      refine go_lload dX12_gone_123 rfl ?_
                      refine go_lmul dX12_gone_125 ?_
                      refine go_tl (z := lN (((t0 + 1) ^ k1) ^ (i2 + 1))) (by rw [lN_mul, Nat.pow_succ]) ?_
                      refine go_lstore (ls' := [some (.ref q), some (.int (nI jl)), some (.int (nI (t0 + 1))), some (.int (nI k1)), some (.int part), some (.long (lN (t0 ^ k1))), none, some (.long (lN ((t0 + 1) ^ k1))), none, some (.long (lN (((t0 + 1) ^ k1 - t0 ^ k1) ^ (i2 + 1)))), none, some (.long (lN (((t0 + 1) ^ k1) ^ (i2 + 1)))), none, some (.int (nI i2)), none]) dX12_gone_126 ⟨by decide, rfl, rfl⟩ ?_
                      refine go_iinc (v := nI (i2 + 1)) (ls' := [some (.ref q), some (.int (nI jl)), some (.int (nI (t0 + 1))), some (.int (nI k1)), some (.int part), some (.long (lN (t0 ^ k1))), none, some (.long (lN ((t0 + 1) ^ k1))), none, some (.long (lN (((t0 + 1) ^ k1 - t0 ^ k1) ^ (i2 + 1)))), none, some (.long (lN (((t0 + 1) ^ k1) ^ (i2 + 1)))), none, some (.int (nI (i2 + 1))), none]) dX12_gone_128 rfl (nI_1 (i2)) ⟨by decide, rfl, rfl⟩ ?_
                      refine go_goto dX12_gone_131 ?_
                      exact ih_lp1 (i2 + 1) (by omega) (by omega)
                have hik : i = k1 := by omega
                refine go_ls (ls' := [some (.ref q), some (.int (nI jl)), some (.int (nI (t0 + 1))), some (.int (nI k1)), some (.int part), some (.long (lN (t0 ^ k1))), none, some (.long (lN ((t0 + 1) ^ k1))), none, some (.long (lN (((t0 + 1) ^ k1 - t0 ^ k1) ^ 0))), none, some (.long (lN (((t0 + 1) ^ k1) ^ 0))), none, some (.int 0), none]) (by rw [hik]; rfl) ?_
                exact lp1 (k7 + 1) 0 (Nat.zero_le _) (by omega)
              · have c66n := mt (nI_leI (a := k1) (b := i) (by omega) (by omega)).mpr c66
                have c66n := Nat.lt_of_not_le c66n
                have c66 := Int32.not_le.mp c66
                refine go_lload dX12_gone_69 rfl ?_
                refine go_iload_n dX12_gone_71 rfl ?_
                refine go_iconst (v := 1) dX12_gone_72 rfl ?_
                refine go_isub dX12_gone_73 ?_
                refine go_tp (z := nI t0) (nI_pred _) ?_
                refine go_i2l dX12_gone_74 ?_
                refine go_lmul dX12_gone_75 ?_
                refine go_tl (z := lN (t0 ^ (i + 1))) (by rw [wide_nI (by omega), lN_mul, Nat.pow_succ]) ?_
                refine go_lstore (ls' := [some (.ref q), some (.int (nI jl)), some (.int (nI (t0 + 1))), some (.int (nI k1)), some (.int part), some (.long (lN (t0 ^ (i + 1)))), none, some (.long (lN ((t0 + 1) ^ i))), none, some (.int (nI i)), none, none, none, none, none]) dX12_gone_76 ⟨by decide, rfl, rfl⟩ ?_
                refine go_lload dX12_gone_78 rfl ?_
                refine go_iload_n dX12_gone_80 rfl ?_
                refine go_i2l dX12_gone_81 ?_
                refine go_lmul dX12_gone_82 ?_
                refine go_tl (z := lN ((t0 + 1) ^ (i + 1))) (by rw [wide_nI (by omega), lN_mul, Nat.pow_succ]) ?_
                refine go_lstore (ls' := [some (.ref q), some (.int (nI jl)), some (.int (nI (t0 + 1))), some (.int (nI k1)), some (.int part), some (.long (lN (t0 ^ (i + 1)))), none, some (.long (lN ((t0 + 1) ^ (i + 1)))), none, some (.int (nI i)), none, none, none, none, none]) dX12_gone_83 ⟨by decide, rfl, rfl⟩ ?_
                refine go_iinc (v := nI (i + 1)) (ls' := [some (.ref q), some (.int (nI jl)), some (.int (nI (t0 + 1))), some (.int (nI k1)), some (.int part), some (.long (lN (t0 ^ (i + 1)))), none, some (.long (lN ((t0 + 1) ^ (i + 1)))), none, some (.int (nI (i + 1))), none, none, none, none, none]) dX12_gone_85 rfl (nI_1 (i)) ⟨by decide, rfl, rfl⟩ ?_
                refine go_goto dX12_gone_88 ?_
                exact ih_lp0 (i + 1) (by omega) (by omega)
          refine go_ls (ls' := [some (.ref q), some (.int (nI jl)), some (.int (nI (t0 + 1))), some (.int (nI k1)), some (.int part), some (.long (lN (t0 ^ 0))), none, some (.long (lN ((t0 + 1) ^ 0))), none, some (.int 0), none, none, none, none, none]) rfl ?_
          exact lp0 (k1 + 1) 0 (Nat.zero_le _) (by omega)
        · have c47 := bz_f c47
          refine go_ldc2 (v := 1000000001) dX12_gone_50 wm_1537 ?_
          exact go_lret dX12_gone_53 rfl (Nat.le_of_ble_eq_true rfl) (Nat.le_of_ble_eq_true rfl) (hQ9 ▸ ⟨rd_l (by simp [gonS, c10, c24, c36, c47]), rfl, rfl⟩)
end M15
