section M18
variable {G : GX} {m0 f : Mem} {q n N M : Nat} {F : Nat → Int32} {A : Nat → Nat → Int32} {L : Nat → Nat → Int64} {K : Option Nat}
set_option maxHeartbeats 4000000 in
set_option maxRecDepth 100000 in
theorem e_X12_school (hq : G.2.1 ≤ q) (hn : q + 25 ≤ n) (hN : F 0 = nI N) (hN8 : N ≤ 8) (hM : F 5 = nI M) (hM5 : M ≤ 5) {P : Int32} (hP : F 9 = P) (hrl : rlOK A) (hs : schOK (N, M, P, A)) {d : Int32} : Ev G mX12_school 5 0 0 [.ref q, .int d] (mo G m0 q F A L K) n (fun r f1 n1 => r = some (.int (shS N M P A L d).1) ∧ (∃ F' A' K', shQ F A (shS N M P A L d).2 F' A' ∧ f1 = mo G m0 q F' A' L K') ∧ n1 = n) := by
  generalize hQ9 : (fun r f1 n1 => r = some (.int (shS N M P A L d).1) ∧ (∃ F' A' K', shQ F A (shS N M P A L d).2 F' A' ∧ f1 = mo G m0 q F' A' L K') ∧ n1 = n : RQ) = Q9
  refine ev_of (by decide) (Nat.le_of_ble_eq_true rfl) (ls := [some (.ref q), some (.int d), none, none]) rfl (fun hb => ?_)
  refine go_aload_n dX12_school_0 rfl ?_
  refine go_iconst (v := 0) dX12_school_1 rfl ?_
  refine go_put dX12_school_2 fp_X12_83_12 (Or.inr (fun _ _ _ h => by cases h; rfl)) mo_obj hq (by omega) (rfl) rfl (Nat.le_of_ble_eq_true rfl) ?_
  refine go_mem (mo_setO (F' := (upd F 16 (0))) (K' := K) rfl) ?_
  refine go_aload_n dX12_school_5 rfl ?_
  refine go_iload_n dX12_school_6 rfl ?_
  refine go_Vr [.int d] [] dX12_school_7 vl_X12_178 ⟨by decide, by decide⟩ (e_X12_wrongRow (F := (upd F 16 (0))) (A := A) (L := L) (K := K) hq hn) mo_obj hq (by omega) rfl rfl (Nat.le_of_ble_eq_true rfl) (Nat.le_of_ble_eq_true rfl) (Nat.le_of_ble_eq_true rfl) ?_
  refine go_istore_n (ls' := [some (.ref q), some (.int d), some (.int (wkS (A 8) 2 (d))), none]) dX12_school_10 ⟨by decide, rfl, rfl⟩ ?_
  refine go_iload_n dX12_school_11 rfl ?_
  refine go_if_ne dX12_school_12 (fun c12 => ?_) (fun c12 => ?_)
  · refine go_iload_n dX12_school_29 rfl ?_
    refine go_istore_n (ls' := [some (.ref q), some (.int d), some (.int (wkS (A 8) 2 (d))), none]) dX12_school_30 ⟨by decide, rfl, rfl⟩ ?_
    refine go_iload_n dX12_school_31 rfl ?_
    refine go_if_ge dX12_school_32 (fun c32 => ?_) (fun c32 => ?_)
    · have c32 := Int32.not_lt.mpr c32
      exact absurd (wkS_z (by decide) c32) c12
    · have c32 := Int32.not_le.mp c32
      refine go_iload_n dX12_school_35 rfl ?_
      exact go_iret dX12_school_36 rfl (Nat.le_of_ble_eq_true rfl) (Nat.le_of_ble_eq_true rfl) (hQ9 ▸ ⟨rd_i (by unfold shS; rw [if_pos c32]), ⟨_, _, _, by unfold shS; rw [if_pos c32]; exact ⟨hN, hM, hP, rfl, fun _ _ => rfl, fun _ _ => rfl⟩, rfl⟩, rfl⟩)
  · have c12_g : ¬ wkS (A 8) 2 (d) < 0 := by rw [c12]; decide
    obtain ⟨jd, hjd, rfl, ejd⟩ := wkS_ok c12_g
    have kjd : (nI jd).toNatClampNeg = jd := nI_clamp (by omega)
    obtain ⟨R, hR, eR⟩ := hrl jd (by omega)
    refine go_aload_n dX12_school_15 rfl ?_
    refine go_get dX12_school_16 fl_X12_40_12 mo_obj hq (by omega) rfl ?_
    refine go_iload_n dX12_school_19 rfl ?_
    refine go_iald dX12_school_20 (mo_arr 11 (by decide)) (by omega) (by omega) (vp_in_nI (n := jd) (by show jd < 8; omega) (by decide)) ?_
    refine go_tp (z := A 11 jd) (by rw [nI_clamp (by omega)]) ?_
    refine go_if_eq dX12_school_21 (fun c21 => ?_) (fun c21 => ?_)
    · refine go_iload_n dX12_school_29 rfl ?_
      refine go_istore_n (ls' := [some (.ref q), some (.int (nI jd)), some (.int (wkS (A 8) 2 (nI jd))), none]) dX12_school_30 ⟨by decide, rfl, rfl⟩ ?_
      refine go_iload_n dX12_school_31 rfl ?_
      refine go_if_ge dX12_school_32 (fun c32 => ?_) (fun c32 => ?_)
      · have c32 := Int32.not_lt.mpr c32
        refine go_aload_n dX12_school_37 rfl ?_
        refine go_iload_n dX12_school_38 rfl ?_
        refine go_put dX12_school_39 fp_X12_126_12 (Or.inr (fun _ _ _ h => by cases h; rfl)) mo_obj hq (by omega) (rfl) rfl (Nat.le_of_ble_eq_true rfl) ?_
        refine go_mem (mo_setO (F' := (upd (upd F 16 (0)) 17 (nI jd))) (K' := K) rfl) ?_
        refine go_aload_n dX12_school_42 rfl ?_
        refine go_iconst (v := 0) dX12_school_43 rfl ?_
        refine go_put dX12_school_44 fp_X12_123_12 (Or.inr (fun _ _ _ h => by cases h; rfl)) mo_obj hq (by omega) (rfl) rfl (Nat.le_of_ble_eq_true rfl) ?_
        refine go_mem (mo_setO (F' := (upd (upd (upd F 16 (0)) 17 (nI jd)) 18 (0))) (K' := K) rfl) ?_
        refine go_aload_n dX12_school_47 rfl ?_
        refine go_iconst (v := 0) dX12_school_48 rfl ?_
        refine go_put dX12_school_49 fp_X12_129_12 (Or.inr (fun _ _ _ h => by cases h; rfl)) mo_obj hq (by omega) (rfl) rfl (Nat.le_of_ble_eq_true rfl) ?_
        refine go_mem (mo_setO (F' := (upd (upd (upd (upd F 16 (0)) 17 (nI jd)) 18 (0)) 19 (0))) (K' := K) rfl) ?_
        refine go_aload_n dX12_school_52 rfl ?_
        refine go_iconst (v := 0) dX12_school_53 rfl ?_
        refine go_put dX12_school_54 fp_X12_141_12 (Or.inr (fun _ _ _ h => by cases h; rfl)) mo_obj hq (by omega) (rfl) rfl (Nat.le_of_ble_eq_true rfl) ?_
        refine go_mem (mo_setO (F' := (upd (upd (upd (upd (upd F 16 (0)) 17 (nI jd)) 18 (0)) 19 (0)) 20 (0))) (K' := K) rfl) ?_
        have lp0 : ∀ (μ_lp0 : Nat) (k : Nat) (b : Bool) (F1 : Nat → Int32) (A1 : Nat → Nat → Int32) (hk : k ≤ 36) (hmk : 41 ≤ k + μ_lp0) (h19 : F1 19 = if b = true then 1 else 0) (h20 : F1 20 = nI k) (hF : ∀ j, j ≠ 18 → j ≠ 19 → j ≠ 20 → F1 j = (upd (upd F 16 0) 17 (nI jd)) j) (hA : ∀ r, r ≠ 14 → r ≠ 15 → r ≠ 16 → A1 r = A r) (hh : (b = false ∧ F1 18 = nI (psS (txC L jd R) k) ∧ scS (txC L jd R) R 40 0 = scH (txC L jd R) R k ∧ tdK (txC L jd R) k A1) ∨ (b = true ∧ ∃ p kk, F1 18 = nI p ∧ scS (txC L jd R) R 40 0 = (kk, some p))), Go G mX12_school 5 0 0 Q9 0 0 57 [some (.ref q), some (.int (nI jd)), some (.int (wkS (A 8) 2 (nI jd))), none] [] (mo G m0 q F1 A1 L K) n := by
          intro μ_lp0
          induction μ_lp0 with
          | zero =>
            intro k b F1 A1 hk hmk h19 h20 hF hA hh
            exact absurd hmk (by omega)
          | succ μ_lp0 ih_lp0 =>
            intro k b F1 A1 hk hmk h19 h20 hF hA hh
            have hps5 := psS_le (c := txC L jd R) k
            refine go_aload_n dX12_school_57 rfl ?_
            refine go_get dX12_school_58 fl_X12_129_12 mo_obj hq (by omega) rfl ?_
            refine go_tp (z := if b then 1 else 0) (h19) ?_
            refine go_if_ne dX12_school_61 (fun c61 => ?_) (fun c61 => ?_)
            · have c61 := bz_t c61
              obtain ⟨p, kk, hp, hsc⟩ := (hh.resolve_left (fun z => by rw [z.1] at c61; cases c61)).2
              refine go_aload_n dX12_school_91 rfl ?_
              refine go_get dX12_school_92 fl_X12_129_12 mo_obj hq (by omega) rfl ?_
              refine go_tp (z := if b then 1 else 0) (h19) ?_
              refine go_if_eq dX12_school_95 (fun c95 => ?_) (fun c95 => ?_)
              · have c95 := bz_f c95
                exact absurd c61 c95
              · have c95 := bz_t c95
                refine go_sipush (v := (-1000)) dX12_school_98 rfl ?_
                refine go_aload_n dX12_school_101 rfl ?_
                refine go_get dX12_school_102 fl_X12_123_12 mo_obj hq (by omega) rfl ?_
                refine go_tp (z := nI p) hp ?_
                refine go_isub dX12_school_105 ?_
                exact go_iret dX12_school_106 rfl (Nat.le_of_ble_eq_true rfl) (Nat.le_of_ble_eq_true rfl) (have hz := shS_z (N := N) (M := M) (P := P) c12 (by omega) c21 hR eR (schV_bad (s := (N, M, P, A)) hsc); hQ9 ▸ ⟨rd_i (congrArg Prod.fst hz).symm, ⟨_, _, _, by rw [hz]; exact ⟨(hF 0 (by decide) (by decide) (by decide)).trans hN, (hF 5 (by decide) (by decide) (by decide)).trans hM, (hF 9 (by decide) (by decide) (by decide)).trans hP, hF 26 (by decide) (by decide) (by decide), fun r hr => hA r (by omega) (by omega) (by omega), fun r hr => hA r (by omega) (by omega) (by omega)⟩, rfl⟩, rfl⟩)
            · have c61 := bz_f c61
              refine go_aload_n dX12_school_64 rfl ?_
              refine go_get dX12_school_65 fl_X12_141_12 mo_obj hq (by omega) rfl ?_
              refine go_tp (z := nI k) (h20) ?_
              refine go_if_eq dX12_school_68 (fun c68 => ?_) (fun c68 => ?_)
              · have c68n := (n0_eq (a := k) (by omega)).mp c68
                refine go_aload_n dX12_school_84 rfl ?_
                have hh1 := hh.resolve_right (fun z => c61 z.1)
                have hcd : k = 0 ∨ psS (txC L jd R) k < R := by omega
                have hps := psS_ge (c := txC L jd R) k
                have hk34 : k ≤ 34 := by omega
                have hpsR : psS (txC L jd R) k < 2 ^ 10 := by omega
                refine go_V [] [] dX12_school_85 vl_X12_181 ⟨by decide, by decide⟩ (e_X12_readStatement (F := F1) (A := A1) (L := L) (K := K) hq hn (a := psS (txC L jd R) k) (d := jd) (R := R) hh1.2.1 (hF 17 (by decide) (by decide) (by decide)) (by omega) hR ((congrFun (hA 12 (by decide) (by decide) (by decide)) jd).trans eR) (by omega) (k := k) (by rw [h19, hh1.1]; rfl) h20 (by omega)) mo_obj hq (by omega) rfl rfl (Nat.le_of_ble_eq_true rfl) (Nat.le_of_ble_eq_true rfl) (Nat.le_of_ble_eq_true rfl) (fun r85 f85 n85 h85 => ?_)
                obtain ⟨rfl, ⟨F85, A85, hst, rfl⟩, hn85⟩ := h85
                subst n85
                refine go_goto dX12_school_88 ?_
                by_cases hg : stG (txC L jd R) (psS (txC L jd R) k) = true
                · exact ih_lp0 (k + 1) false _ _ (by omega) (by omega) (by rw [hst.2.1, if_pos hg]; rfl) hst.2.2.1 (fun j h1 h2 h3 => (hst.2.2.2.1 j h1 h2 h3).trans (hF j h1 h2 h3)) (fun r h1 h2 h3 => (hst.2.2.2.2.1 r h1 h2 h3).trans (hA r h1 h2 h3)) (Or.inl ⟨rfl, by rw [hst.1, (st_next hg).1]; rfl, hh1.2.2.1.trans (sc_go (by omega) hcd hg), tdK_s hh1.2.2.2 hst hg⟩)
                · exact ih_lp0 (k + 1) true _ _ (by omega) (by omega) (by rw [hst.2.1, if_neg hg]; rfl) hst.2.2.1 (fun j h1 h2 h3 => (hst.2.2.2.1 j h1 h2 h3).trans (hF j h1 h2 h3)) (fun r h1 h2 h3 => (hst.2.2.2.2.1 r h1 h2 h3).trans (hA r h1 h2 h3)) (Or.inr ⟨rfl, _, _, hst.1, hh1.2.2.1.trans (sc_bad (by omega) hcd hg)⟩)
              · have c68n := mt (n0_eq (a := k) (by omega)).mpr c68
                refine go_aload_n dX12_school_71 rfl ?_
                refine go_get dX12_school_72 fl_X12_123_12 mo_obj hq (by omega) rfl ?_
                refine go_tp (z := nI (psS (txC L jd R) k)) ((hh.resolve_right (fun z => c61 z.1)).2.1) ?_
                refine go_aload_n dX12_school_75 rfl ?_
                refine go_get dX12_school_76 fl_X12_43_12 mo_obj hq (by omega) rfl ?_
                refine go_iload_n dX12_school_79 rfl ?_
                refine go_iald dX12_school_80 (mo_arr 12 (by decide)) (by omega) (by omega) (vp_in_nI (n := jd) (by show jd < 8; omega) (by decide)) ?_
                refine go_tp (z := A1 12 jd) (by rw [nI_clamp (by omega)]) ?_
                refine go_tp (z := nI R) ((congrFun (hA 12 (by decide) (by decide) (by decide)) jd).trans eR) ?_
                refine go_icmp_ge dX12_school_81 (fun c81 => ?_) (fun c81 => ?_)
                · have c81n := (nI_leI (a := R) (b := psS (txC L jd R) k) (by omega) (by omega)).mp c81
                  have c81n := Nat.not_lt.mpr c81n
                  have c81 := Int32.not_lt.mpr c81
                  have hh1 := hh.resolve_right (fun z => c61 z.1)
                  have hsc := hh1.2.2.1.trans (sc_end (c := txC L jd R) (R := R) (k := k) (by omega) (by omega))
                  have hk0 : scS (txC L jd R) R 40 0 = (k, none) := hsc
                  refine go_aload_n dX12_school_91 rfl ?_
                  refine go_get dX12_school_92 fl_X12_129_12 mo_obj hq (by omega) rfl ?_
                  refine go_tp (z := if b then 1 else 0) (h19) ?_
                  refine go_if_eq dX12_school_95 (fun c95 => ?_) (fun c95 => ?_)
                  · have c95 := bz_f c95
                    refine go_aload_n dX12_school_107 rfl ?_
                    refine go_V [] [] dX12_school_108 vl_X12_184 ⟨by decide, by decide⟩ (e_X12_open (F := F1) (A := A1) (L := L) (K := K) hq hn) mo_obj hq (by omega) rfl rfl (Nat.le_of_ble_eq_true rfl) (Nat.le_of_ble_eq_true rfl) (Nat.le_of_ble_eq_true rfl) (fun r108 f108 n108 h108 => ?_)
                    obtain ⟨rfl, ⟨F108, A108, hc108, rfl⟩, hn108⟩ := h108
                    subst n108
                    have g0 : F108 0 = nI N := by rw [hc108.1 0 (by decide) (by decide), hF 0 (by decide) (by decide) (by decide)]; exact hN
                    have g5 : F108 5 = nI M := by rw [hc108.1 5 (by decide) (by decide), hF 5 (by decide) (by decide) (by decide)]; exact hM
                    have g9 : F108 9 = P := by rw [hc108.1 9 (by decide) (by decide), hF 9 (by decide) (by decide) (by decide)]; exact hP
                    have g20 : F108 20 = nI k := by rw [hc108.1 20 (by decide) (by decide)]; exact h20
                    have hE1 : EqR A A108 := fun r hr => by rw [hc108.2.1 r (by omega), hA r (by omega) (by omega) (by omega)]
                    have hs1 : schOK (N, M, P, A108) := by
                      have e := fun r hr => hE1 r hr
                      obtain ⟨z1, z2, z3, z4, z5, z6, z7⟩ := hs
                      refine ⟨z1, z2, ?_, ?_, ?_, ?_, z7⟩
                      · show insOK N M (A108 4); rw [e 4 (by decide)]; exact z3
                      · show kyOK M (A108 7); rw [e 7 (by decide)]; exact z4
                      · show ∀ p, p < N → (∃ k, k < 8 ∧ A108 1 p = nI k) ∧ (∃ k, k < 10 ∧ A108 2 p = nI k) ∧ ∃ k, k < 6 ∧ A108 3 p = nI k; rw [e 1 (by decide), e 2 (by decide), e 3 (by decide)]; exact z5
                      · show ∀ l, l < M → (∃ k, k < 10 ∧ A108 5 l = nI k) ∧ ∃ k, k < 2 ∧ A108 6 l = nI k; rw [e 5 (by decide), e 6 (by decide)]; exact z6
                    refine go_iconst (v := 0) dX12_school_111 rfl ?_
                    refine go_istore_n (ls' := [some (.ref q), some (.int (nI jd)), some (.int (wkS (A 8) 2 (nI jd))), some (.int 0)]) dX12_school_112 ⟨by decide, rfl, rfl⟩ ?_
                    have lp1 : ∀ (μ_lp1 : Nat) (j N2 M2 : Nat) (P2 : Int32) (F2 : Nat → Int32) (A2 : Nat → Nat → Int32) (s3 : SS) (hj : j ≤ k) (hmj : k + 1 ≤ j + μ_lp1) (hN2 : F2 0 = nI N2) (hM2 : F2 5 = nI M2) (hP2 : F2 9 = P2) (hs2 : schOK (N2, M2, P2, A2)) (hfx : fxR A108 A2) (hF2 : ∀ i, i ≠ 0 → i ≠ 5 → i ≠ 9 → F2 i = F108 i) (hSE : SEq s3 (N2, M2, P2, A2)) (hrn : rnS (txC L jd R) k 0 (N, M, P, A) = rnS (txC L jd R) (k - j) j s3), Go G mX12_school 5 0 0 Q9 0 0 113 [some (.ref q), some (.int (nI jd)), none, some (.int (nI j))] [] (mo G m0 q F2 A2 L (some (q + 17))) n := by
                      intro μ_lp1
                      induction μ_lp1 with
                      | zero =>
                        intro j N2 M2 P2 F2 A2 s3 hj hmj hN2 hM2 hP2 hs2 hfx hF2 hSE hrn
                        exact absurd hmj (by omega)
                      | succ μ_lp1 ih_lp1 =>
                        intro j N2 M2 P2 F2 A2 s3 hj hmj hN2 hM2 hP2 hs2 hfx hF2 hSE hrn
                        refine go_iload_n dX12_school_113 rfl ?_
                        refine go_aload_n dX12_school_114 rfl ?_
                        refine go_get dX12_school_115 fl_X12_141_12 mo_obj hq (by omega) rfl ?_
                        refine go_tp (z := nI k) ((hF2 20 (by decide) (by decide) (by decide)).trans g20) ?_
                        refine go_icmp_ge dX12_school_118 (fun c118 => ?_) (fun c118 => ?_)
                        · have c118n := (nI_leI (a := k) (b := j) (by omega) (by omega)).mp c118
                          have c118n := Nat.not_lt.mpr c118n
                          have c118 := Int32.not_lt.mpr c118
                          refine go_aload_n dX12_school_150 rfl ?_
                          refine go_get dX12_school_151 fl_X12_141_12 mo_obj hq (by omega) rfl ?_
                          refine go_tp (z := nI k) ((hF2 20 (by decide) (by decide) (by decide)).trans g20) ?_
                          exact go_iret dX12_school_154 rfl (Nat.le_of_ble_eq_true rfl) (Nat.le_of_ble_eq_true rfl) (have hz := shS_z (N := N) (M := M) (P := P) c12 (by omega) c21 hR eR ((schV_run (s := (N, M, P, A)) hk0).trans (hrn.trans (show rnS (txC L jd R) (k - j) j s3 = (nI k, some s3) by rw [show k - j = 0 by omega, show j = k by omega]; rfl))); hQ9 ▸ ⟨rd_i (congrArg Prod.fst hz).symm, ⟨_, _, _, by rw [hz]; exact ⟨hN2.trans (congrArg nI hSE.1), hM2.trans (congrArg nI hSE.2.1), hP2.trans hSE.2.2.1, (hF2 26 (by decide) (by decide) (by decide)).trans ((hc108.1 26 (by decide) (by decide)).trans (hF 26 (by decide) (by decide) (by decide))), hSE.2.2.2, fun r hr => (hfx.1 r (by omega)).trans ((hc108.2.1 r (by omega)).trans (hA r (by omega) (by omega) (by omega)))⟩, rfl⟩, rfl⟩)
                        · have c118n := mt (nI_leI (a := k) (b := j) (by omega) (by omega)).mpr c118
                          have c118n := Nat.lt_of_not_le c118n
                          have c118 := Int32.not_le.mp c118
                          refine go_aload_n dX12_school_121 rfl ?_
                          refine go_iload_n dX12_school_122 rfl ?_
                          have h20b : F2 20 = nI k := (hF2 20 (by decide) (by decide) (by decide)).trans g20
                          have hM25 : M2 ≤ 5 := hs2.2.1
                          have hN28 : N2 ≤ 8 := hs2.1
                          refine go_V [.int (nI j)] [] dX12_school_123 vl_X12_187 ⟨by decide, by decide⟩ (e_X12_comesTold (F := F2) (A := A2) (L := L) (K := (some (q + 17))) hq hn (N := N2) (M := M2) hN2 hN28 hM2 hM25 (P := P2) hP2 (k := j) (by omega) rfl rfl rfl rfl) mo_obj hq (by omega) rfl rfl (Nat.le_of_ble_eq_true rfl) (Nat.le_of_ble_eq_true rfl) (Nat.le_of_ble_eq_true rfl) (fun r123 f123 n123 h123 => ?_)
                          obtain ⟨rfl, ⟨F123, A123, hx, rfl⟩, hn123⟩ := h123
                          subst n123
                          refine go_if_ne dX12_school_126 (fun c126 => ?_) (fun c126 => ?_)
                          · have c126 := bz_t c126
                            obtain ⟨⟨N3, M3, P3, A3⟩, hex⟩ := Option.isSome_iff_exists.mp c126
                            have hexC := (ex_at (s := (N2, M2, P2, A2)) hh1.2.2.2 ((hfx.1 15 (by decide)).trans (hc108.2.1 15 (by decide))) ((hfx.1 16 (by decide)).trans (hc108.2.1 16 (by decide))) (by omega)).symm.trans hex
                            unfold exQ at hx
                            rw [hex] at hx
                            have hx : F123 0 = nI N3 ∧ F123 5 = nI M3 ∧ F123 9 = P3 ∧ A123 = A3 ∧ ∀ j, j ≠ 0 → j ≠ 5 → j ≠ 9 → F123 j = F2 j := hx
                            obtain ⟨x1, x2, x3, rfl, x5⟩ := hx
                            have hx : F123 0 = nI N3 ∧ F123 5 = nI M3 ∧ F123 9 = P3 ∧ True ∧ ∀ j, j ≠ 0 → j ≠ 5 → j ≠ 9 → F123 j = F2 j := ⟨x1, x2, x3, trivial, x5⟩
                            refine go_iinc (v := nI (j + 1)) (ls' := [some (.ref q), some (.int (nI jd)), none, some (.int (nI (j + 1)))]) dX12_school_144 rfl (nI_1 (j)) ⟨by decide, rfl, rfl⟩ ?_
                            refine go_goto dX12_school_147 ?_
                            obtain ⟨s4, hq4, er4⟩ := rn_step (f := k - (j + 1)) hSE hexC
                            exact ih_lp1 (j + 1) _ _ _ _ _ s4 (by omega) (by omega) hx.1 hx.2.1 hx.2.2.1 (exC_ok (s := (N2, M2, P2, A2)) hs2 (hh1.2.2.2 j (by omega)).2.2.2 hexC) (ex_fx (s := (N2, M2, P2, A2)) hs2 hfx hex) (fun i h1 h2 h3 => (hx.2.2.2.2 i h1 h2 h3).trans (hF2 i h1 h2 h3)) hq4 (hrn.trans (by rw [show k - j = k - (j + 1) + 1 by omega]; exact er4))
                          · have c126 := bz_f c126
                            have hex : exS (N2, M2, P2, A2) (A2 15 j) (A2 16 (3 * j)) (A2 16 (3 * j + 1)) (A2 16 (3 * j + 2)) = none := Option.not_isSome_iff_eq_none.mp c126
                            have hexC := (ex_at (s := (N2, M2, P2, A2)) hh1.2.2.2 ((hfx.1 15 (by decide)).trans (hc108.2.1 15 (by decide))) ((hfx.1 16 (by decide)).trans (hc108.2.1 16 (by decide))) (by omega)).symm.trans hex
                            unfold exQ at hx
                            rw [hex] at hx
                            have hx : F123 = F2 ∧ A123 = A2 := hx
                            refine go_mem (f' := (mo G m0 q F2 A2 L (some (q + 17)))) (by rw [hx.1, hx.2]) ?_
                            refine go_aload_n dX12_school_129 rfl ?_
                            refine go_V [] [] dX12_school_130 vl_X12_190 ⟨by decide, by decide⟩ (e_X12_close (F := F2) (A := A2) (L := L) (K := (some (q + 17))) hq hn) mo_obj hq (by omega) rfl rfl (Nat.le_of_ble_eq_true rfl) (Nat.le_of_ble_eq_true rfl) (Nat.le_of_ble_eq_true rfl) (fun r130 f130 n130 h130 => ?_)
                            obtain ⟨rfl, ⟨F130, A130, hc130, rfl⟩, hn130⟩ := h130
                            subst n130
                            have hk3 := kp3 hc108 hfx.1 hfx.2.1 hfx.2.2 hc130
                            have h14 : A130 14 j = nI (psS (txC L jd R) j) := by rw [hk3.2.2.2.1 14 (by decide)]; exact (hh1.2.2.2 j (by omega)).1
                            have hrs := hrn.trans (show rnS (txC L jd R) (k - j) j s3 = (-2000 - nI (psS (txC L jd R) j), none) by rw [show k - j = k - (j + 1) + 1 by omega]; exact rn_stop hSE hexC)
                            refine go_sipush (v := (-2000)) dX12_school_133 rfl ?_
                            refine go_aload_n dX12_school_136 rfl ?_
                            refine go_get dX12_school_137 fl_X12_50_12 mo_obj hq (by omega) rfl ?_
                            refine go_iload_n dX12_school_140 rfl ?_
                            refine go_iald dX12_school_141 (mo_arr 14 (by decide)) (by omega) (by omega) (vp_in_nI (n := j) (by show j < 51; omega) (by decide)) ?_
                            refine go_tp (z := A130 14 j) (by rw [nI_clamp (by omega)]) ?_
                            refine go_tp (z := nI (psS (txC L jd R) j)) (h14) ?_
                            refine go_isub dX12_school_142 ?_
                            exact go_iret dX12_school_143 rfl (Nat.le_of_ble_eq_true rfl) (Nat.le_of_ble_eq_true rfl) (have hz := shS_z (N := N) (M := M) (P := P) c12 (by omega) c21 hR eR ((schV_run (s := (N, M, P, A)) hk0).trans hrs); hQ9 ▸ ⟨rd_i (congrArg Prod.fst hz).symm, ⟨_, _, _, by rw [hz]; exact ⟨hk3.1.trans ((hF 0 (by decide) (by decide) (by decide)).trans hN), hk3.2.1.trans ((hF 5 (by decide) (by decide) (by decide)).trans hM), hk3.2.2.1.trans ((hF 9 (by decide) (by decide) (by decide)).trans hP), (hc130.1 26 (by decide) (by decide) (by decide) (by decide) (by decide)).trans ((hF2 26 (by decide) (by decide) (by decide)).trans ((hc108.1 26 (by decide) (by decide)).trans (hF 26 (by decide) (by decide) (by decide)))), fun r hr => (hk3.2.2.2.1 r (by omega)).trans (hA r (by omega) (by omega) (by omega)), fun r hr => (hk3.2.2.2.1 r (by omega)).trans (hA r (by omega) (by omega) (by omega))⟩, rfl⟩, rfl⟩)
                    refine go_weak (ls' := [some (.ref q), some (.int (nI jd)), none, some (.int 0)]) ⟨rfl, rfl, rfl, trivial⟩ ?_
                    exact lp1 (k + 1) 0 N M P F108 A108 (N, M, P, A) (Nat.zero_le _) (by omega) g0 g5 g9 hs1 fxR_0 (fun _ _ _ _ => rfl) ⟨rfl, rfl, rfl, hE1⟩ rfl
                  · have c95 := bz_t c95
                    exact absurd c95 c61
                · have c81n := mt (nI_leI (a := R) (b := psS (txC L jd R) k) (by omega) (by omega)).mpr c81
                  have c81n := Nat.lt_of_not_le c81n
                  have c81 := Int32.not_le.mp c81
                  refine go_aload_n dX12_school_84 rfl ?_
                  have hh1 := hh.resolve_right (fun z => c61 z.1)
                  have hcd : k = 0 ∨ psS (txC L jd R) k < R := by omega
                  have hps := psS_ge (c := txC L jd R) k
                  have hk34 : k ≤ 34 := by omega
                  have hpsR : psS (txC L jd R) k < 2 ^ 10 := by omega
                  refine go_V [] [] dX12_school_85 vl_X12_181 ⟨by decide, by decide⟩ (e_X12_readStatement (F := F1) (A := A1) (L := L) (K := K) hq hn (a := psS (txC L jd R) k) (d := jd) (R := R) hh1.2.1 (hF 17 (by decide) (by decide) (by decide)) (by omega) hR ((congrFun (hA 12 (by decide) (by decide) (by decide)) jd).trans eR) (by omega) (k := k) (by rw [h19, hh1.1]; rfl) h20 (by omega)) mo_obj hq (by omega) rfl rfl (Nat.le_of_ble_eq_true rfl) (Nat.le_of_ble_eq_true rfl) (Nat.le_of_ble_eq_true rfl) (fun r85 f85 n85 h85 => ?_)
                  obtain ⟨rfl, ⟨F85, A85, hst, rfl⟩, hn85⟩ := h85
                  subst n85
                  refine go_goto dX12_school_88 ?_
                  by_cases hg : stG (txC L jd R) (psS (txC L jd R) k) = true
                  · exact ih_lp0 (k + 1) false _ _ (by omega) (by omega) (by rw [hst.2.1, if_pos hg]; rfl) hst.2.2.1 (fun j h1 h2 h3 => (hst.2.2.2.1 j h1 h2 h3).trans (hF j h1 h2 h3)) (fun r h1 h2 h3 => (hst.2.2.2.2.1 r h1 h2 h3).trans (hA r h1 h2 h3)) (Or.inl ⟨rfl, by rw [hst.1, (st_next hg).1]; rfl, hh1.2.2.1.trans (sc_go (by omega) hcd hg), tdK_s hh1.2.2.2 hst hg⟩)
                  · exact ih_lp0 (k + 1) true _ _ (by omega) (by omega) (by rw [hst.2.1, if_neg hg]; rfl) hst.2.2.1 (fun j h1 h2 h3 => (hst.2.2.2.1 j h1 h2 h3).trans (hF j h1 h2 h3)) (fun r h1 h2 h3 => (hst.2.2.2.2.1 r h1 h2 h3).trans (hA r h1 h2 h3)) (Or.inr ⟨rfl, _, _, hst.1, hh1.2.2.1.trans (sc_bad (by omega) hcd hg)⟩)
        exact lp0 41 0 false (upd (upd (upd (upd (upd F 16 (0)) 17 (nI jd)) 18 (0)) 19 (0)) 20 (0)) A (by omega) (by omega) rfl rfl (fun j h1 h2 h3 => by simp [upd, h1, h2, h3]) (fun _ _ _ _ => rfl) (Or.inl ⟨rfl, rfl, rfl, fun j hj => absurd hj (by omega)⟩)
      · have c32 := Int32.not_le.mp c32
        rw [c12] at c32; exact absurd c32 (by decide)
    · refine go_bipush (v := (-12)) dX12_school_24 rfl ?_
      refine go_goto dX12_school_26 ?_
      refine go_istore_n (ls' := [some (.ref q), some (.int (nI jd)), some (.int (-12)), none]) dX12_school_30 ⟨by decide, rfl, rfl⟩ ?_
      refine go_iload_n dX12_school_31 rfl ?_
      refine go_if_ge dX12_school_32 (fun c32 => ?_) (fun c32 => ?_)
      · have c32 := Int32.not_lt.mpr c32
        first | exact absurd c32 (by decide) | exact absurd (by decide) c32 | exact absurd rfl c32 | omega
      · have c32 := Int32.not_le.mp c32
        refine go_iload_n dX12_school_35 rfl ?_
        exact go_iret dX12_school_36 rfl (Nat.le_of_ble_eq_true rfl) (Nat.le_of_ble_eq_true rfl) (hQ9 ▸ ⟨rd_i (by unfold shS; rw [if_neg c12_g, kjd, if_pos c21]), ⟨_, _, _, by unfold shS; rw [if_neg c12_g, kjd, if_pos c21]; exact ⟨hN, hM, hP, rfl, fun _ _ => rfl, fun _ _ => rfl⟩, rfl⟩, rfl⟩)
end M18
