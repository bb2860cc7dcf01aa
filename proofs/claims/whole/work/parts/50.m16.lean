theorem jd_no1 {N : Nat} {A : Nat → Nat → Int32} {L : Nat → Nat → Int64} {d k : Nat} (h : L 13 (100 * d + k) = skS (A 11 d)) : ¬ jdP N A L d k = true := fun z => (of_decide_eq_true z) (Or.inl h)
theorem jd_no2 {N : Nat} {A : Nat → Nat → Int32} {L : Nat → Nat → Int64} {d k : Nat} (h1 : (jdS N A k).1 = true) (h2 : L 13 (100 * d + k) = (alS N (jdS N A k).2).toInt64) : ¬ jdP N A L d k = true := fun z => (of_decide_eq_true z) (Or.inr ⟨h1, h2⟩)
theorem jd_yes {N : Nat} {A : Nat → Nat → Int32} {L : Nat → Nat → Int64} {d k : Nat} (h : ¬ L 13 (100 * d + k) = skS (A 11 d)) (h2 : (jdS N A k).1 = true → ¬ L 13 (100 * d + k) = (alS N (jdS N A k).2).toInt64) : jdP N A L d k = true := decide_eq_true (fun z => z.elim h (fun y => h2 y.1 y.2))
section M16
variable {G : GX} {m0 f : Mem} {q n N M : Nat} {F : Nat → Int32} {A : Nat → Nat → Int32} {L : Nat → Nat → Int64} {K : Option Nat}
set_option maxHeartbeats 4000000 in
set_option maxRecDepth 100000 in
theorem e_X12_judge (hq : G.2.1 ≤ q) (hn : q + 25 ≤ n) (hN : F 0 = nI N) (hN8 : N ≤ 8) (hM5 : M ≤ 5) (hI : insOK N M (A 4)) (hrl : rlOK A) {d : Int32} : Ev G mX12_judge 6 0 0 [.ref q, .int d] (mo G m0 q F A L K) n (fun r f1 n1 => r = some (.int (judS N A L d)) ∧ (∃ F' A' K', kpF F A F' A' ∧ f1 = mo G m0 q F' A' L K') ∧ n1 = n) := by
  generalize hQ9 : (fun r f1 n1 => r = some (.int (judS N A L d)) ∧ (∃ F' A' K', kpF F A F' A' ∧ f1 = mo G m0 q F' A' L K') ∧ n1 = n : RQ) = Q9
  refine ev_of (by decide) (Nat.le_of_ble_eq_true rfl) (ls := [some (.ref q), some (.int d), none, none, none, none, none, none]) rfl (fun hb => ?_)
  refine go_aload_n dX12_judge_0 rfl ?_
  refine go_iconst (v := 0) dX12_judge_1 rfl ?_
  refine go_put dX12_judge_2 fp_X12_83_12 (Or.inr (fun _ _ _ h => by cases h; rfl)) mo_obj hq (by omega) (rfl) rfl (Nat.le_of_ble_eq_true rfl) ?_
  refine go_mem (mo_setO (F' := (upd F 16 (0))) (K' := K) rfl) ?_
  refine go_aload_n dX12_judge_5 rfl ?_
  refine go_iload_n dX12_judge_6 rfl ?_
  refine go_Vr [.int d] [] dX12_judge_7 vl_X12_178 ⟨by decide, by decide⟩ (e_X12_wrongRow (F := (upd F 16 (0))) (A := A) (L := L) (K := K) hq hn) mo_obj hq (by omega) rfl rfl (Nat.le_of_ble_eq_true rfl) (Nat.le_of_ble_eq_true rfl) (Nat.le_of_ble_eq_true rfl) ?_
  refine go_istore_n (ls' := [some (.ref q), some (.int d), some (.int (wkS (A 8) 2 (d))), none, none, none, none, none]) dX12_judge_10 ⟨by decide, rfl, rfl⟩ ?_
  refine go_iload_n dX12_judge_11 rfl ?_
  refine go_if_ge dX12_judge_12 (fun c12 => ?_) (fun c12 => ?_)
  · have c12 := Int32.not_lt.mpr c12
    obtain ⟨jd, hjd, rfl, ejd⟩ := wkS_ok c12
    have kjd : (nI jd).toNatClampNeg = jd := nI_clamp (by omega)
    obtain ⟨R, hR, eR⟩ := hrl jd (by omega)
    refine go_bipush (v := (-4)) dX12_judge_17 rfl ?_
    refine go_istore_n (ls' := [some (.ref q), some (.int (nI jd)), some (.int (wkS (A 8) 2 (nI jd))), some (.int (-4)), none, none, none, none]) dX12_judge_19 ⟨by decide, rfl, rfl⟩ ?_
    refine go_iconst (v := 1) dX12_judge_20 rfl ?_
    refine go_istore (ls' := [some (.ref q), some (.int (nI jd)), some (.int (wkS (A 8) 2 (nI jd))), some (.int (-4)), some (.int 1), none, none, none]) dX12_judge_21 ⟨by decide, rfl, rfl⟩ ?_
    refine go_aload_n dX12_judge_23 rfl ?_
    refine go_V [] [] dX12_judge_24 vl_X12_184 ⟨by decide, by decide⟩ (e_X12_open (F := (upd F 16 (0))) (A := A) (L := L) (K := K) hq hn) mo_obj hq (by omega) rfl rfl (Nat.le_of_ble_eq_true rfl) (Nat.le_of_ble_eq_true rfl) (Nat.le_of_ble_eq_true rfl) (fun r24 f24 n24 h24 => ?_)
    obtain ⟨rfl, ⟨F24, A24, hc24, rfl⟩, hn24⟩ := h24
    subst n24
    have hN : F24 0 = nI N := by rw [hc24.1 0 (by decide) (by decide)]; exact hN
    have hEq : EqR A A24 := hc24.eq (by decide)
    have hI1 : insOK N M (A24 4) := by rw [hc24.2.1 4 (by decide)]; exact hI
    have hI24 := hI1
    have h12 : A24 12 jd = nI R := by rw [hc24.2.1 12 (by decide)]; exact eR
    refine go_iconst (v := 0) dX12_judge_27 rfl ?_
    refine go_istore (ls' := [some (.ref q), some (.int (nI jd)), some (.int (wkS (A 8) 2 (nI jd))), some (.int (-4)), some (.int 1), some (.int 0), none, none]) dX12_judge_28 ⟨by decide, rfl, rfl⟩ ?_
    have lp0 : ∀ (μ_lp0 : Nat) (i : Nat) (x : Int32) (t : Bool) (hi : i ≤ R) (hmi : R + 1 ≤ i + μ_lp0) (ht : t = (jdS N A24 (i - 1)).1) (hx : (x = -4 ∧ fsB (jdP N A24 L jd) 0 R = fsB (jdP N A24 L jd) i (R - i)) ∨ (¬ x < 0 ∧ fsB (jdP N A24 L jd) 0 R = x)), Go G mX12_judge 6 0 0 Q9 0 0 30 [some (.ref q), some (.int (nI jd)), none, some (.int x), some (.int (if t then 1 else 0)), some (.int (nI i)), none, none] [] (mo G m0 q F24 ((jdS N A24 (i - 1)).2) L (some (q + 17))) n := by
      intro μ_lp0
      induction μ_lp0 with
      | zero =>
        intro i x t hi hmi ht hx
        exact absurd hmi (by omega)
      | succ μ_lp0 ih_lp0 =>
        intro i x t hi hmi ht hx
        rcases i with _ | g
        · obtain rfl : t = true := ht
          refine go_ls (ls' := [some (.ref q), some (.int (nI jd)), none, some (.int x), some (.int 1), some (.int 0), none, none]) rfl ?_
          refine go_mem (f' := (mo G m0 q F24 A24 L (some (q + 17)))) rfl ?_
          have hI1 := hI24
          have hok := (jdS_ok (M := M) hN8 hI24 0).2
          refine go_iload dX12_judge_30 rfl ?_
          refine go_aload_n dX12_judge_32 rfl ?_
          refine go_get dX12_judge_33 fl_X12_43_12 mo_obj hq (by omega) rfl ?_
          refine go_iload_n dX12_judge_36 rfl ?_
          refine go_iald dX12_judge_37 (mo_arr 12 (by decide)) (by omega) (by omega) (vp_in_nI (n := jd) (by show jd < 8; omega) (by decide)) ?_
          refine go_tp (z := A24 12 jd) (by rw [nI_clamp (by omega)]) ?_
          refine go_tp (z := nI R) (by first | exact h12 | (rw [hok.1 12 (by decide)]; exact h12)) ?_
          refine go_icmp_ge dX12_judge_38 (fun c38 => ?_) (fun c38 => ?_)
          · have c38n := (nI_leI (a := R) (b := 0) (by omega) (by omega)).mp c38
            have c38n := Nat.not_lt.mpr c38n
            have c38 := Int32.not_lt.mpr c38
            refine go_aload_n dX12_judge_159 rfl ?_
            refine go_V [] [] dX12_judge_160 vl_X12_190 ⟨by decide, by decide⟩ (e_X12_close (F := F24) (A := A24) (L := L) (K := (some (q + 17))) hq hn) mo_obj hq (by omega) rfl rfl (Nat.le_of_ble_eq_true rfl) (Nat.le_of_ble_eq_true rfl) (Nat.le_of_ble_eq_true rfl) (fun r160 f160 n160 h160 => ?_)
            obtain ⟨rfl, ⟨F160, A160, hc160, rfl⟩, hn160⟩ := h160
            subst n160
            refine go_iload_n dX12_judge_163 rfl ?_
            exact go_iret dX12_judge_164 rfl (Nat.le_of_ble_eq_true rfl) (Nat.le_of_ble_eq_true rfl) (hQ9 ▸ ⟨rd_i (by unfold judS; rw [if_neg c12, kjd, eR, nI_clamp (by omega), ← hEq.jud (hc24.2.1 11 (by decide)) N jd R L]; exact (hx.elim (fun h => by rw [h.1]; show (-4 : Int32) = fsB (jdP N A24 L jd) 0 R; rw [h.2, show R = 0 by omega, fsB_0]) (fun h => h.2.symm))), ⟨_, _, _, kpF_of hc24 hok hc160 rfl, rfl⟩, rfl⟩)
          · have c38n := mt (nI_leI (a := R) (b := 0) (by omega) (by omega)).mpr c38
            have c38n := Nat.lt_of_not_le c38n
            have c38 := Int32.not_le.mp c38
            refine go_iload_n dX12_judge_41 rfl ?_
            refine go_if_ge dX12_judge_42 (fun c42 => ?_) (fun c42 => ?_)
            · have c42 := Int32.not_lt.mpr c42
              refine go_aload_n dX12_judge_159 rfl ?_
              refine go_V [] [] dX12_judge_160 vl_X12_190 ⟨by decide, by decide⟩ (e_X12_close (F := F24) (A := A24) (L := L) (K := (some (q + 17))) hq hn) mo_obj hq (by omega) rfl rfl (Nat.le_of_ble_eq_true rfl) (Nat.le_of_ble_eq_true rfl) (Nat.le_of_ble_eq_true rfl) (fun r160 f160 n160 h160 => ?_)
              obtain ⟨rfl, ⟨F160, A160, hc160, rfl⟩, hn160⟩ := h160
              subst n160
              refine go_iload_n dX12_judge_163 rfl ?_
              exact go_iret dX12_judge_164 rfl (Nat.le_of_ble_eq_true rfl) (Nat.le_of_ble_eq_true rfl) (hQ9 ▸ ⟨rd_i (by unfold judS; rw [if_neg c12, kjd, eR, nI_clamp (by omega), ← hEq.jud (hc24.2.1 11 (by decide)) N jd R L]; exact (hx.elim (fun h => absurd (show x < 0 by rw [h.1]; decide) c42) (fun h => h.2.symm))), ⟨_, _, _, kpF_of hc24 hok hc160 rfl, rfl⟩, rfl⟩)
            · have c42 := Int32.not_le.mp c42
              obtain ⟨rfl, hx2⟩ := hx.resolve_right (fun z => z.1 c42)
              refine go_iload dX12_judge_45 rfl ?_
              refine go_if_le dX12_judge_47 (fun c47 => ?_) (fun c47 => ?_)
              · have c47n := (n0_le (a := 0) (by omega)).mp c47
                have hj : (jdS N A24 0).1 = true ∧ (jdS N A24 0).2 = A24 := ⟨rfl, rfl⟩
                have hs11 : A24 11 = A24 11 := rfl
                refine go_aload_n dX12_judge_104 rfl ?_
                refine go_get dX12_judge_105 fl_X12_46_12 mo_obj hq (by omega) rfl ?_
                refine go_bipush (v := 100) dX12_judge_108 rfl ?_
                refine go_iload_n dX12_judge_110 rfl ?_
                refine go_imul dX12_judge_111 ?_
                refine go_tp (z := nI (100 * jd)) (pk_mul 100 jd) ?_
                refine go_iload dX12_judge_112 rfl ?_
                refine go_iadd dX12_judge_114 ?_
                refine go_tp (z := nI ((100 * jd) + 0)) (nI_add (100 * jd) 0) ?_
                refine go_lald dX12_judge_115 (mo_lrr 13 (by decide)) (by omega) (by omega) (vp_in_nI (n := (100 * jd) + 0) (by show (100 * jd) + 0 < 800; omega) (by decide)) ?_
                refine go_tl (z := L 13 ((100 * jd) + 0)) (by rw [nI_clamp (by omega)]) ?_
                refine go_lstore (ls' := [some (.ref q), some (.int (nI jd)), none, some (.int (-4)), some (.int 1), some (.int 0), some (.long (L 13 ((100 * jd) + 0))), none]) dX12_judge_116 ⟨by decide, rfl, rfl⟩ ?_
                refine go_lload dX12_judge_118 rfl ?_
                refine go_aload_n dX12_judge_120 rfl ?_
                refine go_iload_n dX12_judge_121 rfl ?_
                refine go_Vr [.int (nI jd)] [.long (L 13 ((100 * jd) + 0))] dX12_judge_122 vl_X12_344 ⟨by decide, by decide⟩ (e_X12_skipped (F := F24) (A := A24) (L := L) (K := (some (q + 17))) hq hn (by omega)) mo_obj hq (by omega) rfl rfl (Nat.le_of_ble_eq_true rfl) (Nat.le_of_ble_eq_true rfl) (Nat.le_of_ble_eq_true rfl) ?_
                refine go_lcmp dX12_judge_125 ?_
                refine go_if_eq dX12_judge_126 (fun c126 => ?_) (fun c126 => ?_)
                · have c126 := (lc_eq _ _).mp c126
                  refine go_bipush (v := (-4)) dX12_judge_145 rfl ?_
                  refine go_goto dX12_judge_147 ?_
                  refine go_istore_n (ls' := [some (.ref q), some (.int (nI jd)), none, some (.int (-4)), some (.int 1), some (.int 0), some (.long (L 13 ((100 * jd) + 0))), none]) dX12_judge_152 ⟨by decide, rfl, rfl⟩ ?_
                  refine go_iinc (v := 1) (ls' := [some (.ref q), some (.int (nI jd)), none, some (.int (-4)), some (.int 1), some (.int 1), some (.long (L 13 ((100 * jd) + 0))), none]) dX12_judge_153 rfl (by decide) ⟨by decide, rfl, rfl⟩ ?_
                  refine go_goto dX12_judge_156 ?_
                  refine go_weak (ls' := [some (.ref q), some (.int (nI jd)), none, some (.int (-4)), some (.int 1), some (.int 1), none, none]) ⟨rfl, rfl, rfl, rfl, rfl, trivial⟩ ?_
                  refine go_mem (f' := (mo G m0 q F24 ((jdS N A24 (0)).2) L (some (q + 17)))) (by rw [hj.2]) ?_
                  exact ih_lp0 (0 + 1) _ true (by omega) (by omega) hj.1.symm (Or.inl ⟨rfl, by rw [hx2, fsB_d (by omega), if_neg (jd_no1 (by rw [← hs11]; exact c126))]⟩)
                · have c126 := mt (lc_eq _ _).mpr c126
                  refine go_iload dX12_judge_129 rfl ?_
                  refine go_if_eq dX12_judge_131 (fun c131 => ?_) (fun c131 => ?_)
                  · have c131n := (n0_eq (a := 1) (by omega)).mp c131
                    first | exact absurd c131n (by decide) | exact absurd (by decide) c131n | exact absurd rfl c131n | omega
                  · have c131n := mt (n0_eq (a := 1) (by omega)).mpr c131
                    refine go_lload dX12_judge_134 rfl ?_
                    refine go_aload_n dX12_judge_136 rfl ?_
                    refine go_Vr [] [.long (L 13 ((100 * jd) + 0))] dX12_judge_137 vl_X12_298 ⟨by decide, by decide⟩ (e_X12_allContent (F := F24) (A := A24) (L := L) (K := (some (q + 17))) hq hn hN hN8 hM5 hI1) mo_obj hq (by omega) rfl rfl (Nat.le_of_ble_eq_true rfl) (Nat.le_of_ble_eq_true rfl) (Nat.le_of_ble_eq_true rfl) ?_
                    refine go_i2l dX12_judge_140 ?_
                    refine go_lcmp dX12_judge_141 ?_
                    refine go_if_ne dX12_judge_142 (fun c142 => ?_) (fun c142 => ?_)
                    · have c142 := mt (lc_eq _ _).mpr c142
                      refine go_iload dX12_judge_150 rfl ?_
                      refine go_istore_n (ls' := [some (.ref q), some (.int (nI jd)), none, some (.int 0), some (.int 1), some (.int 0), some (.long (L 13 ((100 * jd) + 0))), none]) dX12_judge_152 ⟨by decide, rfl, rfl⟩ ?_
                      refine go_iinc (v := 1) (ls' := [some (.ref q), some (.int (nI jd)), none, some (.int 0), some (.int 1), some (.int 1), some (.long (L 13 ((100 * jd) + 0))), none]) dX12_judge_153 rfl (by decide) ⟨by decide, rfl, rfl⟩ ?_
                      refine go_goto dX12_judge_156 ?_
                      refine go_weak (ls' := [some (.ref q), some (.int (nI jd)), none, some (.int 0), some (.int 1), some (.int 1), none, none]) ⟨rfl, rfl, rfl, rfl, rfl, trivial⟩ ?_
                      refine go_mem (f' := (mo G m0 q F24 ((jdS N A24 (0)).2) L (some (q + 17)))) (by rw [hj.2]) ?_
                      exact ih_lp0 (0 + 1) _ true (by omega) (by omega) hj.1.symm (Or.inr ⟨nI_pos (n := 0) (by omega), by rw [hx2, fsB_d (by omega), if_pos (jd_yes (by rw [← hs11]; exact c126) (fun _ => by rw [hj.2]; exact c142))] <;> rfl⟩)
                    · have c142 := (lc_eq _ _).mp c142
                      refine go_bipush (v := (-4)) dX12_judge_145 rfl ?_
                      refine go_goto dX12_judge_147 ?_
                      refine go_istore_n (ls' := [some (.ref q), some (.int (nI jd)), none, some (.int (-4)), some (.int 1), some (.int 0), some (.long (L 13 ((100 * jd) + 0))), none]) dX12_judge_152 ⟨by decide, rfl, rfl⟩ ?_
                      refine go_iinc (v := 1) (ls' := [some (.ref q), some (.int (nI jd)), none, some (.int (-4)), some (.int 1), some (.int 1), some (.long (L 13 ((100 * jd) + 0))), none]) dX12_judge_153 rfl (by decide) ⟨by decide, rfl, rfl⟩ ?_
                      refine go_goto dX12_judge_156 ?_
                      refine go_weak (ls' := [some (.ref q), some (.int (nI jd)), none, some (.int (-4)), some (.int 1), some (.int 1), none, none]) ⟨rfl, rfl, rfl, rfl, rfl, trivial⟩ ?_
                      refine go_mem (f' := (mo G m0 q F24 ((jdS N A24 (0)).2) L (some (q + 17)))) (by rw [hj.2]) ?_
                      exact ih_lp0 (0 + 1) _ true (by omega) (by omega) hj.1.symm (Or.inl ⟨rfl, by rw [hx2, fsB_d (by omega), if_neg (jd_no2 hj.1 (by rw [hj.2]; exact c142))]⟩)
              · have c47n := mt (n0_le (a := 0) (by omega)).mpr c47
                first | exact absurd c47n (by decide) | exact absurd (by decide) c47n | exact absurd rfl c47n | omega
        · refine go_mem (f' := (mo G m0 q F24 ((jdS N A24 g).2) L (some (q + 17)))) rfl ?_
          have hI1 := (jdS_ok (M := M) hN8 hI24 g).1
          have hok := (jdS_ok (M := M) hN8 hI24 g).2
          refine go_iload dX12_judge_30 rfl ?_
          refine go_aload_n dX12_judge_32 rfl ?_
          refine go_get dX12_judge_33 fl_X12_43_12 mo_obj hq (by omega) rfl ?_
          refine go_iload_n dX12_judge_36 rfl ?_
          refine go_iald dX12_judge_37 (mo_arr 12 (by decide)) (by omega) (by omega) (vp_in_nI (n := jd) (by show jd < 8; omega) (by decide)) ?_
          refine go_tp (z := ((jdS N A24 g).2) 12 jd) (by rw [nI_clamp (by omega)]) ?_
          refine go_tp (z := nI R) (by first | exact h12 | (rw [hok.1 12 (by decide)]; exact h12)) ?_
          refine go_icmp_ge dX12_judge_38 (fun c38 => ?_) (fun c38 => ?_)
          · have c38n := (nI_leI (a := R) (b := g + 1) (by omega) (by omega)).mp c38
            have c38n := Nat.not_lt.mpr c38n
            have c38 := Int32.not_lt.mpr c38
            refine go_aload_n dX12_judge_159 rfl ?_
            refine go_V [] [] dX12_judge_160 vl_X12_190 ⟨by decide, by decide⟩ (e_X12_close (F := F24) (A := ((jdS N A24 g).2)) (L := L) (K := (some (q + 17))) hq hn) mo_obj hq (by omega) rfl rfl (Nat.le_of_ble_eq_true rfl) (Nat.le_of_ble_eq_true rfl) (Nat.le_of_ble_eq_true rfl) (fun r160 f160 n160 h160 => ?_)
            obtain ⟨rfl, ⟨F160, A160, hc160, rfl⟩, hn160⟩ := h160
            subst n160
            refine go_iload_n dX12_judge_163 rfl ?_
            exact go_iret dX12_judge_164 rfl (Nat.le_of_ble_eq_true rfl) (Nat.le_of_ble_eq_true rfl) (hQ9 ▸ ⟨rd_i (by unfold judS; rw [if_neg c12, kjd, eR, nI_clamp (by omega), ← hEq.jud (hc24.2.1 11 (by decide)) N jd R L]; exact (hx.elim (fun h => by rw [h.1]; show (-4 : Int32) = fsB (jdP N A24 L jd) 0 R; rw [h.2, show R = g + 1 by omega, fsB_0]) (fun h => h.2.symm))), ⟨_, _, _, kpF_of hc24 hok hc160 rfl, rfl⟩, rfl⟩)
          · have c38n := mt (nI_leI (a := R) (b := g + 1) (by omega) (by omega)).mpr c38
            have c38n := Nat.lt_of_not_le c38n
            have c38 := Int32.not_le.mp c38
            refine go_iload_n dX12_judge_41 rfl ?_
            refine go_if_ge dX12_judge_42 (fun c42 => ?_) (fun c42 => ?_)
            · have c42 := Int32.not_lt.mpr c42
              refine go_aload_n dX12_judge_159 rfl ?_
              refine go_V [] [] dX12_judge_160 vl_X12_190 ⟨by decide, by decide⟩ (e_X12_close (F := F24) (A := ((jdS N A24 g).2)) (L := L) (K := (some (q + 17))) hq hn) mo_obj hq (by omega) rfl rfl (Nat.le_of_ble_eq_true rfl) (Nat.le_of_ble_eq_true rfl) (Nat.le_of_ble_eq_true rfl) (fun r160 f160 n160 h160 => ?_)
              obtain ⟨rfl, ⟨F160, A160, hc160, rfl⟩, hn160⟩ := h160
              subst n160
              refine go_iload_n dX12_judge_163 rfl ?_
              exact go_iret dX12_judge_164 rfl (Nat.le_of_ble_eq_true rfl) (Nat.le_of_ble_eq_true rfl) (hQ9 ▸ ⟨rd_i (by unfold judS; rw [if_neg c12, kjd, eR, nI_clamp (by omega), ← hEq.jud (hc24.2.1 11 (by decide)) N jd R L]; exact (hx.elim (fun h => absurd (show x < 0 by rw [h.1]; decide) c42) (fun h => h.2.symm))), ⟨_, _, _, kpF_of hc24 hok hc160 rfl, rfl⟩, rfl⟩)
            · have c42 := Int32.not_le.mp c42
              obtain ⟨rfl, hx2⟩ := hx.resolve_right (fun z => z.1 c42)
              refine go_iload dX12_judge_45 rfl ?_
              refine go_if_le dX12_judge_47 (fun c47 => ?_) (fun c47 => ?_)
              · have c47n := (n0_le (a := g + 1) (by omega)).mp c47
                omega
              · have c47n := mt (n0_le (a := g + 1) (by omega)).mpr c47
                refine go_iload dX12_judge_50 rfl ?_
                refine go_bipush (v := 60) dX12_judge_52 rfl ?_
                refine go_icmp_le dX12_judge_54 (fun c54 => ?_) (fun c54 => ?_)
                · have c54n := (nI_leI (a := g + 1) (b := 60) (by omega) (by omega)).mp c54
                  have c54n := Nat.not_lt.mpr c54n
                  have c54 := Int32.not_lt.mpr c54
                  refine go_aload_n dX12_judge_62 rfl ?_
                  refine go_Vr [] [] dX12_judge_63 vl_X12_292 ⟨by decide, by decide⟩ (e_X12_nextChange (F := F24) (A := ((jdS N A24 g).2)) (L := L) (K := (some (q + 17))) hq hn hN hN8 hM5 hI1) mo_obj hq (by omega) rfl rfl (Nat.le_of_ble_eq_true rfl) (Nat.le_of_ble_eq_true rfl) (Nat.le_of_ble_eq_true rfl) ?_
                  refine go_istore (ls' := [some (.ref q), some (.int (nI jd)), none, some (.int (-4)), some (.int (if t then 1 else 0)), some (.int (nI (g + 1))), some (.int (nxS N ((jdS N A24 g).2))), none]) dX12_judge_66 ⟨by decide, rfl, rfl⟩ ?_
                  refine go_iload dX12_judge_68 rfl ?_
                  refine go_if_eq dX12_judge_70 (fun c70 => ?_) (fun c70 => ?_)
                  · have c70 := bz_f c70
                    refine go_iconst (v := 0) dX12_judge_82 rfl ?_
                    refine go_istore (ls' := [some (.ref q), some (.int (nI jd)), none, some (.int (-4)), some (.int 0), some (.int (nI (g + 1))), some (.int (nxS N ((jdS N A24 g).2))), none]) dX12_judge_83 ⟨by decide, rfl, rfl⟩ ?_
                    refine go_iload dX12_judge_85 rfl ?_
                    refine go_if_eq dX12_judge_87 (fun c87 => ?_) (fun c87 => ?_)
                    · have c87n := (n0_eq (a := 0) (by omega)).mp c87
                      have hj := jd_f (N := N) (k := g) (A := A24) (Or.inl (ht.symm.trans (Bool.eq_false_iff.mpr c70)))
                      have hs11 : ((jdS N A24 g).2) 11 = A24 11 := by rw [← hj.2]; exact (jdS_ok (M := M) hN8 hI24 (g + 1)).2.1 11 (by decide)
                      refine go_aload_n dX12_judge_104 rfl ?_
                      refine go_get dX12_judge_105 fl_X12_46_12 mo_obj hq (by omega) rfl ?_
                      refine go_bipush (v := 100) dX12_judge_108 rfl ?_
                      refine go_iload_n dX12_judge_110 rfl ?_
                      refine go_imul dX12_judge_111 ?_
                      refine go_tp (z := nI (100 * jd)) (pk_mul 100 jd) ?_
                      refine go_iload dX12_judge_112 rfl ?_
                      refine go_iadd dX12_judge_114 ?_
                      refine go_tp (z := nI ((100 * jd) + (g + 1))) (nI_add (100 * jd) (g + 1)) ?_
                      refine go_lald dX12_judge_115 (mo_lrr 13 (by decide)) (by omega) (by omega) (vp_in_nI (n := (100 * jd) + (g + 1)) (by show (100 * jd) + (g + 1) < 800; omega) (by decide)) ?_
                      refine go_tl (z := L 13 ((100 * jd) + (g + 1))) (by rw [nI_clamp (by omega)]) ?_
                      refine go_lstore (ls' := [some (.ref q), some (.int (nI jd)), none, some (.int (-4)), some (.int 0), some (.int (nI (g + 1))), some (.long (L 13 ((100 * jd) + (g + 1)))), none]) dX12_judge_116 ⟨by decide, rfl, rfl⟩ ?_
                      refine go_lload dX12_judge_118 rfl ?_
                      refine go_aload_n dX12_judge_120 rfl ?_
                      refine go_iload_n dX12_judge_121 rfl ?_
                      refine go_Vr [.int (nI jd)] [.long (L 13 ((100 * jd) + (g + 1)))] dX12_judge_122 vl_X12_344 ⟨by decide, by decide⟩ (e_X12_skipped (F := F24) (A := ((jdS N A24 g).2)) (L := L) (K := (some (q + 17))) hq hn (by omega)) mo_obj hq (by omega) rfl rfl (Nat.le_of_ble_eq_true rfl) (Nat.le_of_ble_eq_true rfl) (Nat.le_of_ble_eq_true rfl) ?_
                      refine go_lcmp dX12_judge_125 ?_
                      refine go_if_eq dX12_judge_126 (fun c126 => ?_) (fun c126 => ?_)
                      · have c126 := (lc_eq _ _).mp c126
                        refine go_bipush (v := (-4)) dX12_judge_145 rfl ?_
                        refine go_goto dX12_judge_147 ?_
                        refine go_istore_n (ls' := [some (.ref q), some (.int (nI jd)), none, some (.int (-4)), some (.int 0), some (.int (nI (g + 1))), some (.long (L 13 ((100 * jd) + (g + 1)))), none]) dX12_judge_152 ⟨by decide, rfl, rfl⟩ ?_
                        refine go_iinc (v := nI ((g + 1) + 1)) (ls' := [some (.ref q), some (.int (nI jd)), none, some (.int (-4)), some (.int 0), some (.int (nI ((g + 1) + 1))), some (.long (L 13 ((100 * jd) + (g + 1)))), none]) dX12_judge_153 rfl (nI_1 (g + 1)) ⟨by decide, rfl, rfl⟩ ?_
                        refine go_goto dX12_judge_156 ?_
                        refine go_weak (ls' := [some (.ref q), some (.int (nI jd)), none, some (.int (-4)), some (.int 0), some (.int (nI ((g + 1) + 1))), none, none]) ⟨rfl, rfl, rfl, rfl, rfl, trivial⟩ ?_
                        refine go_mem (f' := (mo G m0 q F24 ((jdS N A24 (g + 1)).2) L (some (q + 17)))) (by rw [hj.2]) ?_
                        exact ih_lp0 (g + 1 + 1) _ false (by omega) (by omega) hj.1.symm (Or.inl ⟨rfl, by rw [hx2, fsB_d (by omega), if_neg (jd_no1 (by rw [← hs11]; exact c126))]⟩)
                      · have c126 := mt (lc_eq _ _).mpr c126
                        refine go_iload dX12_judge_129 rfl ?_
                        refine go_if_eq dX12_judge_131 (fun c131 => ?_) (fun c131 => ?_)
                        · have c131n := (n0_eq (a := 0) (by omega)).mp c131
                          refine go_iload dX12_judge_150 rfl ?_
                          refine go_istore_n (ls' := [some (.ref q), some (.int (nI jd)), none, some (.int (nI (g + 1))), some (.int 0), some (.int (nI (g + 1))), some (.long (L 13 ((100 * jd) + (g + 1)))), none]) dX12_judge_152 ⟨by decide, rfl, rfl⟩ ?_
                          refine go_iinc (v := nI ((g + 1) + 1)) (ls' := [some (.ref q), some (.int (nI jd)), none, some (.int (nI (g + 1))), some (.int 0), some (.int (nI ((g + 1) + 1))), some (.long (L 13 ((100 * jd) + (g + 1)))), none]) dX12_judge_153 rfl (nI_1 (g + 1)) ⟨by decide, rfl, rfl⟩ ?_
                          refine go_goto dX12_judge_156 ?_
                          refine go_weak (ls' := [some (.ref q), some (.int (nI jd)), none, some (.int (nI (g + 1))), some (.int 0), some (.int (nI ((g + 1) + 1))), none, none]) ⟨rfl, rfl, rfl, rfl, rfl, trivial⟩ ?_
                          refine go_mem (f' := (mo G m0 q F24 ((jdS N A24 (g + 1)).2) L (some (q + 17)))) (by rw [hj.2]) ?_
                          exact ih_lp0 (g + 1 + 1) _ false (by omega) (by omega) hj.1.symm (Or.inr ⟨nI_pos (n := g + 1) (by omega), by rw [hx2, fsB_d (by omega), if_pos (jd_yes (by rw [← hs11]; exact c126) (fun z => by rw [hj.1] at z; cases z))] <;> rfl⟩)
                        · have c131n := mt (n0_eq (a := 0) (by omega)).mpr c131
                          first | exact absurd c131n (by decide) | exact absurd (by decide) c131n | exact absurd rfl c131n | omega
                    · have c87n := mt (n0_eq (a := 0) (by omega)).mpr c87
                      first | exact absurd c87n (by decide) | exact absurd (by decide) c87n | exact absurd rfl c87n | omega
                  · have c70 := bz_t c70
                    refine go_iload dX12_judge_73 rfl ?_
                    refine go_if_lt dX12_judge_75 (fun c75 => ?_) (fun c75 => ?_)
                    · refine go_iconst (v := 0) dX12_judge_82 rfl ?_
                      refine go_istore (ls' := [some (.ref q), some (.int (nI jd)), none, some (.int (-4)), some (.int 0), some (.int (nI (g + 1))), some (.int (nxS N ((jdS N A24 g).2))), none]) dX12_judge_83 ⟨by decide, rfl, rfl⟩ ?_
                      refine go_iload dX12_judge_85 rfl ?_
                      refine go_if_eq dX12_judge_87 (fun c87 => ?_) (fun c87 => ?_)
                      · have c87n := (n0_eq (a := 0) (by omega)).mp c87
                        have hj := jd_f (N := N) (k := g) (A := A24) (Or.inr (Or.inr c75))
                        have hs11 : ((jdS N A24 g).2) 11 = A24 11 := by rw [← hj.2]; exact (jdS_ok (M := M) hN8 hI24 (g + 1)).2.1 11 (by decide)
                        refine go_aload_n dX12_judge_104 rfl ?_
                        refine go_get dX12_judge_105 fl_X12_46_12 mo_obj hq (by omega) rfl ?_
                        refine go_bipush (v := 100) dX12_judge_108 rfl ?_
                        refine go_iload_n dX12_judge_110 rfl ?_
                        refine go_imul dX12_judge_111 ?_
                        refine go_tp (z := nI (100 * jd)) (pk_mul 100 jd) ?_
                        refine go_iload dX12_judge_112 rfl ?_
                        refine go_iadd dX12_judge_114 ?_
                        refine go_tp (z := nI ((100 * jd) + (g + 1))) (nI_add (100 * jd) (g + 1)) ?_
                        refine go_lald dX12_judge_115 (mo_lrr 13 (by decide)) (by omega) (by omega) (vp_in_nI (n := (100 * jd) + (g + 1)) (by show (100 * jd) + (g + 1) < 800; omega) (by decide)) ?_
                        refine go_tl (z := L 13 ((100 * jd) + (g + 1))) (by rw [nI_clamp (by omega)]) ?_
                        refine go_lstore (ls' := [some (.ref q), some (.int (nI jd)), none, some (.int (-4)), some (.int 0), some (.int (nI (g + 1))), some (.long (L 13 ((100 * jd) + (g + 1)))), none]) dX12_judge_116 ⟨by decide, rfl, rfl⟩ ?_
                        refine go_lload dX12_judge_118 rfl ?_
                        refine go_aload_n dX12_judge_120 rfl ?_
                        refine go_iload_n dX12_judge_121 rfl ?_
                        refine go_Vr [.int (nI jd)] [.long (L 13 ((100 * jd) + (g + 1)))] dX12_judge_122 vl_X12_344 ⟨by decide, by decide⟩ (e_X12_skipped (F := F24) (A := ((jdS N A24 g).2)) (L := L) (K := (some (q + 17))) hq hn (by omega)) mo_obj hq (by omega) rfl rfl (Nat.le_of_ble_eq_true rfl) (Nat.le_of_ble_eq_true rfl) (Nat.le_of_ble_eq_true rfl) ?_
                        refine go_lcmp dX12_judge_125 ?_
                        refine go_if_eq dX12_judge_126 (fun c126 => ?_) (fun c126 => ?_)
                        · have c126 := (lc_eq _ _).mp c126
                          refine go_bipush (v := (-4)) dX12_judge_145 rfl ?_
                          refine go_goto dX12_judge_147 ?_
                          refine go_istore_n (ls' := [some (.ref q), some (.int (nI jd)), none, some (.int (-4)), some (.int 0), some (.int (nI (g + 1))), some (.long (L 13 ((100 * jd) + (g + 1)))), none]) dX12_judge_152 ⟨by decide, rfl, rfl⟩ ?_
                          refine go_iinc (v := nI ((g + 1) + 1)) (ls' := [some (.ref q), some (.int (nI jd)), none, some (.int (-4)), some (.int 0), some (.int (nI ((g + 1) + 1))), some (.long (L 13 ((100 * jd) + (g + 1)))), none]) dX12_judge_153 rfl (nI_1 (g + 1)) ⟨by decide, rfl, rfl⟩ ?_
                          refine go_goto dX12_judge_156 ?_
                          refine go_weak (ls' := [some (.ref q), some (.int (nI jd)), none, some (.int (-4)), some (.int 0), some (.int (nI ((g + 1) + 1))), none, none]) ⟨rfl, rfl, rfl, rfl, rfl, trivial⟩ ?_
                          refine go_mem (f' := (mo G m0 q F24 ((jdS N A24 (g + 1)).2) L (some (q + 17)))) (by rw [hj.2]) ?_
                          exact ih_lp0 (g + 1 + 1) _ false (by omega) (by omega) hj.1.symm (Or.inl ⟨rfl, by rw [hx2, fsB_d (by omega), if_neg (jd_no1 (by rw [← hs11]; exact c126))]⟩)
                        · have c126 := mt (lc_eq _ _).mpr c126
                          refine go_iload dX12_judge_129 rfl ?_
                          refine go_if_eq dX12_judge_131 (fun c131 => ?_) (fun c131 => ?_)
                          · have c131n := (n0_eq (a := 0) (by omega)).mp c131
                            refine go_iload dX12_judge_150 rfl ?_
                            refine go_istore_n (ls' := [some (.ref q), some (.int (nI jd)), none, some (.int (nI (g + 1))), some (.int 0), some (.int (nI (g + 1))), some (.long (L 13 ((100 * jd) + (g + 1)))), none]) dX12_judge_152 ⟨by decide, rfl, rfl⟩ ?_
                            refine go_iinc (v := nI ((g + 1) + 1)) (ls' := [some (.ref q), some (.int (nI jd)), none, some (.int (nI (g + 1))), some (.int 0), some (.int (nI ((g + 1) + 1))), some (.long (L 13 ((100 * jd) + (g + 1)))), none]) dX12_judge_153 rfl (nI_1 (g + 1)) ⟨by decide, rfl, rfl⟩ ?_
                            refine go_goto dX12_judge_156 ?_
                            refine go_weak (ls' := [some (.ref q), some (.int (nI jd)), none, some (.int (nI (g + 1))), some (.int 0), some (.int (nI ((g + 1) + 1))), none, none]) ⟨rfl, rfl, rfl, rfl, rfl, trivial⟩ ?_
                            refine go_mem (f' := (mo G m0 q F24 ((jdS N A24 (g + 1)).2) L (some (q + 17)))) (by rw [hj.2]) ?_
                            exact ih_lp0 (g + 1 + 1) _ false (by omega) (by omega) hj.1.symm (Or.inr ⟨nI_pos (n := g + 1) (by omega), by rw [hx2, fsB_d (by omega), if_pos (jd_yes (by rw [← hs11]; exact c126) (fun z => by rw [hj.1] at z; cases z))] <;> rfl⟩)
                          · have c131n := mt (n0_eq (a := 0) (by omega)).mpr c131
                            first | exact absurd c131n (by decide) | exact absurd (by decide) c131n | exact absurd rfl c131n | omega
                      · have c87n := mt (n0_eq (a := 0) (by omega)).mpr c87
                        first | exact absurd c87n (by decide) | exact absurd (by decide) c87n | exact absurd rfl c87n | omega
                    · obtain ⟨a, b, hab, hbN, ex⟩ := nxS_nI c75
                      refine go_ls (ls' := [some (.ref q), some (.int (nI jd)), none, some (.int (-4)), some (.int (if t then 1 else 0)), some (.int (nI (g + 1))), some (.int (nI (10 * a + b))), none]) (by rw [ex]) ?_
                      refine go_iconst (v := 1) dX12_judge_78 rfl ?_
                      refine go_goto dX12_judge_79 ?_
                      refine go_istore (ls' := [some (.ref q), some (.int (nI jd)), none, some (.int (-4)), some (.int 1), some (.int (nI (g + 1))), some (.int (nI (10 * a + b))), none]) dX12_judge_83 ⟨by decide, rfl, rfl⟩ ?_
                      refine go_iload dX12_judge_85 rfl ?_
                      refine go_if_eq dX12_judge_87 (fun c87 => ?_) (fun c87 => ?_)
                      · have c87n := (n0_eq (a := 1) (by omega)).mp c87
                        first | exact absurd c87n (by decide) | exact absurd (by decide) c87n | exact absurd rfl c87n | omega
                      · have c87n := mt (n0_eq (a := 1) (by omega)).mpr c87
                        refine go_aload_n dX12_judge_90 rfl ?_
                        refine go_iload dX12_judge_91 rfl ?_
                        refine go_bipush (v := 10) dX12_judge_93 rfl ?_
                        refine go_idiv dX12_judge_95 (by decide) ?_
                        refine go_tp (z := nI ((10 * a + b) / 10)) (pk_div (a := 10 * a + b) (d := 10) (by omega) (by omega) (by omega)) ?_
                        refine go_tp (z := nI a) (by rw [show (10 * a + b) / 10 = a by omega]) ?_
                        refine go_iload dX12_judge_96 rfl ?_
                        refine go_bipush (v := 10) dX12_judge_98 rfl ?_
                        refine go_irem dX12_judge_100 (by decide) ?_
                        refine go_tp (z := nI ((10 * a + b) % 10)) (pk_rem (a := 10 * a + b) (d := 10) (by omega) (by omega) (by omega)) ?_
                        refine go_tp (z := nI b) (by rw [show (10 * a + b) % 10 = b by omega]) ?_
                        refine go_V [.int (nI a), .int (nI b)] [] dX12_judge_101 vl_X12_171 ⟨by decide, by decide⟩ (e_X12_swapPlaces (F := F24) (A := ((jdS N A24 g).2)) (L := L) (K := (some (q + 17))) hq hn (by omega) (by omega)) mo_obj hq (by omega) rfl rfl (Nat.le_of_ble_eq_true rfl) (Nat.le_of_ble_eq_true rfl) (Nat.le_of_ble_eq_true rfl) (fun r101 f101 n101 h101 => ?_)
                        obtain ⟨rfl, rfl, hn101⟩ := h101
                        subst n101
                        have hj := jd_t (k := g) (ht.symm.trans c70) (by omega) c75 (by omega) (by omega) ex
                        have hs11 : (swS ((jdS N A24 g).2) a b) 11 = A24 11 := by rw [← hj.2]; exact (jdS_ok (M := M) hN8 hI24 (g + 1)).2.1 11 (by decide)
                        refine go_aload_n dX12_judge_104 rfl ?_
                        refine go_get dX12_judge_105 fl_X12_46_12 mo_obj hq (by omega) rfl ?_
                        refine go_bipush (v := 100) dX12_judge_108 rfl ?_
                        refine go_iload_n dX12_judge_110 rfl ?_
                        refine go_imul dX12_judge_111 ?_
                        refine go_tp (z := nI (100 * jd)) (pk_mul 100 jd) ?_
                        refine go_iload dX12_judge_112 rfl ?_
                        refine go_iadd dX12_judge_114 ?_
                        refine go_tp (z := nI ((100 * jd) + (g + 1))) (nI_add (100 * jd) (g + 1)) ?_
                        refine go_lald dX12_judge_115 (mo_lrr 13 (by decide)) (by omega) (by omega) (vp_in_nI (n := (100 * jd) + (g + 1)) (by show (100 * jd) + (g + 1) < 800; omega) (by decide)) ?_
                        refine go_tl (z := L 13 ((100 * jd) + (g + 1))) (by rw [nI_clamp (by omega)]) ?_
                        refine go_lstore (ls' := [some (.ref q), some (.int (nI jd)), none, some (.int (-4)), some (.int 1), some (.int (nI (g + 1))), some (.long (L 13 ((100 * jd) + (g + 1)))), none]) dX12_judge_116 ⟨by decide, rfl, rfl⟩ ?_
                        refine go_lload dX12_judge_118 rfl ?_
                        refine go_aload_n dX12_judge_120 rfl ?_
                        refine go_iload_n dX12_judge_121 rfl ?_
                        refine go_Vr [.int (nI jd)] [.long (L 13 ((100 * jd) + (g + 1)))] dX12_judge_122 vl_X12_344 ⟨by decide, by decide⟩ (e_X12_skipped (F := F24) (A := (swS ((jdS N A24 g).2) a b)) (L := L) (K := (some (q + 17))) hq hn (by omega)) mo_obj hq (by omega) rfl rfl (Nat.le_of_ble_eq_true rfl) (Nat.le_of_ble_eq_true rfl) (Nat.le_of_ble_eq_true rfl) ?_
                        refine go_lcmp dX12_judge_125 ?_
                        refine go_if_eq dX12_judge_126 (fun c126 => ?_) (fun c126 => ?_)
                        · have c126 := (lc_eq _ _).mp c126
                          refine go_bipush (v := (-4)) dX12_judge_145 rfl ?_
                          refine go_goto dX12_judge_147 ?_
                          refine go_istore_n (ls' := [some (.ref q), some (.int (nI jd)), none, some (.int (-4)), some (.int 1), some (.int (nI (g + 1))), some (.long (L 13 ((100 * jd) + (g + 1)))), none]) dX12_judge_152 ⟨by decide, rfl, rfl⟩ ?_
                          refine go_iinc (v := nI ((g + 1) + 1)) (ls' := [some (.ref q), some (.int (nI jd)), none, some (.int (-4)), some (.int 1), some (.int (nI ((g + 1) + 1))), some (.long (L 13 ((100 * jd) + (g + 1)))), none]) dX12_judge_153 rfl (nI_1 (g + 1)) ⟨by decide, rfl, rfl⟩ ?_
                          refine go_goto dX12_judge_156 ?_
                          refine go_weak (ls' := [some (.ref q), some (.int (nI jd)), none, some (.int (-4)), some (.int 1), some (.int (nI ((g + 1) + 1))), none, none]) ⟨rfl, rfl, rfl, rfl, rfl, trivial⟩ ?_
                          refine go_mem (f' := (mo G m0 q F24 ((jdS N A24 (g + 1)).2) L (some (q + 17)))) (by rw [hj.2]) ?_
                          exact ih_lp0 (g + 1 + 1) _ true (by omega) (by omega) hj.1.symm (Or.inl ⟨rfl, by rw [hx2, fsB_d (by omega), if_neg (jd_no1 (by rw [← hs11]; exact c126))]⟩)
                        · have c126 := mt (lc_eq _ _).mpr c126
                          refine go_iload dX12_judge_129 rfl ?_
                          refine go_if_eq dX12_judge_131 (fun c131 => ?_) (fun c131 => ?_)
                          · have c131n := (n0_eq (a := 1) (by omega)).mp c131
                            first | exact absurd c131n (by decide) | exact absurd (by decide) c131n | exact absurd rfl c131n | omega
                          · have c131n := mt (n0_eq (a := 1) (by omega)).mpr c131
                            refine go_lload dX12_judge_134 rfl ?_
                            refine go_aload_n dX12_judge_136 rfl ?_
                            refine go_Vr [] [.long (L 13 ((100 * jd) + (g + 1)))] dX12_judge_137 vl_X12_298 ⟨by decide, by decide⟩ (e_X12_allContent (F := F24) (A := (swS ((jdS N A24 g).2) a b)) (L := L) (K := (some (q + 17))) hq hn hN hN8 hM5 (insOK_sw hI1 (by omega) (by omega))) mo_obj hq (by omega) rfl rfl (Nat.le_of_ble_eq_true rfl) (Nat.le_of_ble_eq_true rfl) (Nat.le_of_ble_eq_true rfl) ?_
                            refine go_i2l dX12_judge_140 ?_
                            refine go_lcmp dX12_judge_141 ?_
                            refine go_if_ne dX12_judge_142 (fun c142 => ?_) (fun c142 => ?_)
                            · have c142 := mt (lc_eq _ _).mpr c142
                              refine go_iload dX12_judge_150 rfl ?_
                              refine go_istore_n (ls' := [some (.ref q), some (.int (nI jd)), none, some (.int (nI (g + 1))), some (.int 1), some (.int (nI (g + 1))), some (.long (L 13 ((100 * jd) + (g + 1)))), none]) dX12_judge_152 ⟨by decide, rfl, rfl⟩ ?_
                              refine go_iinc (v := nI ((g + 1) + 1)) (ls' := [some (.ref q), some (.int (nI jd)), none, some (.int (nI (g + 1))), some (.int 1), some (.int (nI ((g + 1) + 1))), some (.long (L 13 ((100 * jd) + (g + 1)))), none]) dX12_judge_153 rfl (nI_1 (g + 1)) ⟨by decide, rfl, rfl⟩ ?_
                              refine go_goto dX12_judge_156 ?_
                              refine go_weak (ls' := [some (.ref q), some (.int (nI jd)), none, some (.int (nI (g + 1))), some (.int 1), some (.int (nI ((g + 1) + 1))), none, none]) ⟨rfl, rfl, rfl, rfl, rfl, trivial⟩ ?_
                              refine go_mem (f' := (mo G m0 q F24 ((jdS N A24 (g + 1)).2) L (some (q + 17)))) (by rw [hj.2]) ?_
                              exact ih_lp0 (g + 1 + 1) _ true (by omega) (by omega) hj.1.symm (Or.inr ⟨nI_pos (n := g + 1) (by omega), by rw [hx2, fsB_d (by omega), if_pos (jd_yes (by rw [← hs11]; exact c126) (fun _ => by rw [hj.2]; exact c142))] <;> rfl⟩)
                            · have c142 := (lc_eq _ _).mp c142
                              refine go_bipush (v := (-4)) dX12_judge_145 rfl ?_
                              refine go_goto dX12_judge_147 ?_
                              refine go_istore_n (ls' := [some (.ref q), some (.int (nI jd)), none, some (.int (-4)), some (.int 1), some (.int (nI (g + 1))), some (.long (L 13 ((100 * jd) + (g + 1)))), none]) dX12_judge_152 ⟨by decide, rfl, rfl⟩ ?_
                              refine go_iinc (v := nI ((g + 1) + 1)) (ls' := [some (.ref q), some (.int (nI jd)), none, some (.int (-4)), some (.int 1), some (.int (nI ((g + 1) + 1))), some (.long (L 13 ((100 * jd) + (g + 1)))), none]) dX12_judge_153 rfl (nI_1 (g + 1)) ⟨by decide, rfl, rfl⟩ ?_
                              refine go_goto dX12_judge_156 ?_
                              refine go_weak (ls' := [some (.ref q), some (.int (nI jd)), none, some (.int (-4)), some (.int 1), some (.int (nI ((g + 1) + 1))), none, none]) ⟨rfl, rfl, rfl, rfl, rfl, trivial⟩ ?_
                              refine go_mem (f' := (mo G m0 q F24 ((jdS N A24 (g + 1)).2) L (some (q + 17)))) (by rw [hj.2]) ?_
                              exact ih_lp0 (g + 1 + 1) _ true (by omega) (by omega) hj.1.symm (Or.inl ⟨rfl, by rw [hx2, fsB_d (by omega), if_neg (jd_no2 hj.1 (by rw [hj.2]; exact c142))]⟩)
                · have c54n := mt (nI_leI (a := g + 1) (b := 60) (by omega) (by omega)).mpr c54
                  have c54n := Nat.lt_of_not_le c54n
                  have c54 := Int32.not_le.mp c54
                  refine go_bipush (v := (-4)) dX12_judge_57 rfl ?_
                  refine go_goto dX12_judge_59 ?_
                  refine go_istore (ls' := [some (.ref q), some (.int (nI jd)), none, some (.int (-4)), some (.int (if t then 1 else 0)), some (.int (nI (g + 1))), some (.int (-4)), none]) dX12_judge_66 ⟨by decide, rfl, rfl⟩ ?_
                  refine go_iload dX12_judge_68 rfl ?_
                  refine go_if_eq dX12_judge_70 (fun c70 => ?_) (fun c70 => ?_)
                  · have c70 := bz_f c70
                    refine go_iconst (v := 0) dX12_judge_82 rfl ?_
                    refine go_istore (ls' := [some (.ref q), some (.int (nI jd)), none, some (.int (-4)), some (.int 0), some (.int (nI (g + 1))), some (.int (-4)), none]) dX12_judge_83 ⟨by decide, rfl, rfl⟩ ?_
                    refine go_iload dX12_judge_85 rfl ?_
                    refine go_if_eq dX12_judge_87 (fun c87 => ?_) (fun c87 => ?_)
                    · have c87n := (n0_eq (a := 0) (by omega)).mp c87
                      have hj := jd_f (N := N) (k := g) (A := A24) (Or.inl (ht.symm.trans (Bool.eq_false_iff.mpr c70)))
                      have hs11 : ((jdS N A24 g).2) 11 = A24 11 := by rw [← hj.2]; exact (jdS_ok (M := M) hN8 hI24 (g + 1)).2.1 11 (by decide)
                      refine go_aload_n dX12_judge_104 rfl ?_
                      refine go_get dX12_judge_105 fl_X12_46_12 mo_obj hq (by omega) rfl ?_
                      refine go_bipush (v := 100) dX12_judge_108 rfl ?_
                      refine go_iload_n dX12_judge_110 rfl ?_
                      refine go_imul dX12_judge_111 ?_
                      refine go_tp (z := nI (100 * jd)) (pk_mul 100 jd) ?_
                      refine go_iload dX12_judge_112 rfl ?_
                      refine go_iadd dX12_judge_114 ?_
                      refine go_tp (z := nI ((100 * jd) + (g + 1))) (nI_add (100 * jd) (g + 1)) ?_
                      refine go_lald dX12_judge_115 (mo_lrr 13 (by decide)) (by omega) (by omega) (vp_in_nI (n := (100 * jd) + (g + 1)) (by show (100 * jd) + (g + 1) < 800; omega) (by decide)) ?_
                      refine go_tl (z := L 13 ((100 * jd) + (g + 1))) (by rw [nI_clamp (by omega)]) ?_
                      refine go_lstore (ls' := [some (.ref q), some (.int (nI jd)), none, some (.int (-4)), some (.int 0), some (.int (nI (g + 1))), some (.long (L 13 ((100 * jd) + (g + 1)))), none]) dX12_judge_116 ⟨by decide, rfl, rfl⟩ ?_
                      refine go_lload dX12_judge_118 rfl ?_
                      refine go_aload_n dX12_judge_120 rfl ?_
                      refine go_iload_n dX12_judge_121 rfl ?_
                      refine go_Vr [.int (nI jd)] [.long (L 13 ((100 * jd) + (g + 1)))] dX12_judge_122 vl_X12_344 ⟨by decide, by decide⟩ (e_X12_skipped (F := F24) (A := ((jdS N A24 g).2)) (L := L) (K := (some (q + 17))) hq hn (by omega)) mo_obj hq (by omega) rfl rfl (Nat.le_of_ble_eq_true rfl) (Nat.le_of_ble_eq_true rfl) (Nat.le_of_ble_eq_true rfl) ?_
                      refine go_lcmp dX12_judge_125 ?_
                      refine go_if_eq dX12_judge_126 (fun c126 => ?_) (fun c126 => ?_)
                      · have c126 := (lc_eq _ _).mp c126
                        refine go_bipush (v := (-4)) dX12_judge_145 rfl ?_
                        refine go_goto dX12_judge_147 ?_
                        refine go_istore_n (ls' := [some (.ref q), some (.int (nI jd)), none, some (.int (-4)), some (.int 0), some (.int (nI (g + 1))), some (.long (L 13 ((100 * jd) + (g + 1)))), none]) dX12_judge_152 ⟨by decide, rfl, rfl⟩ ?_
                        refine go_iinc (v := nI ((g + 1) + 1)) (ls' := [some (.ref q), some (.int (nI jd)), none, some (.int (-4)), some (.int 0), some (.int (nI ((g + 1) + 1))), some (.long (L 13 ((100 * jd) + (g + 1)))), none]) dX12_judge_153 rfl (nI_1 (g + 1)) ⟨by decide, rfl, rfl⟩ ?_
                        refine go_goto dX12_judge_156 ?_
                        refine go_weak (ls' := [some (.ref q), some (.int (nI jd)), none, some (.int (-4)), some (.int 0), some (.int (nI ((g + 1) + 1))), none, none]) ⟨rfl, rfl, rfl, rfl, rfl, trivial⟩ ?_
                        refine go_mem (f' := (mo G m0 q F24 ((jdS N A24 (g + 1)).2) L (some (q + 17)))) (by rw [hj.2]) ?_
                        exact ih_lp0 (g + 1 + 1) _ false (by omega) (by omega) hj.1.symm (Or.inl ⟨rfl, by rw [hx2, fsB_d (by omega), if_neg (jd_no1 (by rw [← hs11]; exact c126))]⟩)
                      · have c126 := mt (lc_eq _ _).mpr c126
                        refine go_iload dX12_judge_129 rfl ?_
                        refine go_if_eq dX12_judge_131 (fun c131 => ?_) (fun c131 => ?_)
                        · have c131n := (n0_eq (a := 0) (by omega)).mp c131
                          refine go_iload dX12_judge_150 rfl ?_
                          refine go_istore_n (ls' := [some (.ref q), some (.int (nI jd)), none, some (.int (nI (g + 1))), some (.int 0), some (.int (nI (g + 1))), some (.long (L 13 ((100 * jd) + (g + 1)))), none]) dX12_judge_152 ⟨by decide, rfl, rfl⟩ ?_
                          refine go_iinc (v := nI ((g + 1) + 1)) (ls' := [some (.ref q), some (.int (nI jd)), none, some (.int (nI (g + 1))), some (.int 0), some (.int (nI ((g + 1) + 1))), some (.long (L 13 ((100 * jd) + (g + 1)))), none]) dX12_judge_153 rfl (nI_1 (g + 1)) ⟨by decide, rfl, rfl⟩ ?_
                          refine go_goto dX12_judge_156 ?_
                          refine go_weak (ls' := [some (.ref q), some (.int (nI jd)), none, some (.int (nI (g + 1))), some (.int 0), some (.int (nI ((g + 1) + 1))), none, none]) ⟨rfl, rfl, rfl, rfl, rfl, trivial⟩ ?_
                          refine go_mem (f' := (mo G m0 q F24 ((jdS N A24 (g + 1)).2) L (some (q + 17)))) (by rw [hj.2]) ?_
                          exact ih_lp0 (g + 1 + 1) _ false (by omega) (by omega) hj.1.symm (Or.inr ⟨nI_pos (n := g + 1) (by omega), by rw [hx2, fsB_d (by omega), if_pos (jd_yes (by rw [← hs11]; exact c126) (fun z => by rw [hj.1] at z; cases z))] <;> rfl⟩)
                        · have c131n := mt (n0_eq (a := 0) (by omega)).mpr c131
                          first | exact absurd c131n (by decide) | exact absurd (by decide) c131n | exact absurd rfl c131n | omega
                    · have c87n := mt (n0_eq (a := 0) (by omega)).mpr c87
                      first | exact absurd c87n (by decide) | exact absurd (by decide) c87n | exact absurd rfl c87n | omega
                  · have c70 := bz_t c70
                    refine go_iload dX12_judge_73 rfl ?_
                    refine go_if_lt dX12_judge_75 (fun c75 => ?_) (fun c75 => ?_)
                    · refine go_iconst (v := 0) dX12_judge_82 rfl ?_
                      refine go_istore (ls' := [some (.ref q), some (.int (nI jd)), none, some (.int (-4)), some (.int 0), some (.int (nI (g + 1))), some (.int (-4)), none]) dX12_judge_83 ⟨by decide, rfl, rfl⟩ ?_
                      refine go_iload dX12_judge_85 rfl ?_
                      refine go_if_eq dX12_judge_87 (fun c87 => ?_) (fun c87 => ?_)
                      · have c87n := (n0_eq (a := 0) (by omega)).mp c87
                        have hj := jd_f (N := N) (k := g) (A := A24) (Or.inr (Or.inl (by omega)))
                        have hs11 : ((jdS N A24 g).2) 11 = A24 11 := by rw [← hj.2]; exact (jdS_ok (M := M) hN8 hI24 (g + 1)).2.1 11 (by decide)
                        refine go_aload_n dX12_judge_104 rfl ?_
                        refine go_get dX12_judge_105 fl_X12_46_12 mo_obj hq (by omega) rfl ?_
                        refine go_bipush (v := 100) dX12_judge_108 rfl ?_
                        refine go_iload_n dX12_judge_110 rfl ?_
                        refine go_imul dX12_judge_111 ?_
                        refine go_tp (z := nI (100 * jd)) (pk_mul 100 jd) ?_
                        refine go_iload dX12_judge_112 rfl ?_
                        refine go_iadd dX12_judge_114 ?_
                        refine go_tp (z := nI ((100 * jd) + (g + 1))) (nI_add (100 * jd) (g + 1)) ?_
                        refine go_lald dX12_judge_115 (mo_lrr 13 (by decide)) (by omega) (by omega) (vp_in_nI (n := (100 * jd) + (g + 1)) (by show (100 * jd) + (g + 1) < 800; omega) (by decide)) ?_
                        refine go_tl (z := L 13 ((100 * jd) + (g + 1))) (by rw [nI_clamp (by omega)]) ?_
                        refine go_lstore (ls' := [some (.ref q), some (.int (nI jd)), none, some (.int (-4)), some (.int 0), some (.int (nI (g + 1))), some (.long (L 13 ((100 * jd) + (g + 1)))), none]) dX12_judge_116 ⟨by decide, rfl, rfl⟩ ?_
                        refine go_lload dX12_judge_118 rfl ?_
                        refine go_aload_n dX12_judge_120 rfl ?_
                        refine go_iload_n dX12_judge_121 rfl ?_
                        refine go_Vr [.int (nI jd)] [.long (L 13 ((100 * jd) + (g + 1)))] dX12_judge_122 vl_X12_344 ⟨by decide, by decide⟩ (e_X12_skipped (F := F24) (A := ((jdS N A24 g).2)) (L := L) (K := (some (q + 17))) hq hn (by omega)) mo_obj hq (by omega) rfl rfl (Nat.le_of_ble_eq_true rfl) (Nat.le_of_ble_eq_true rfl) (Nat.le_of_ble_eq_true rfl) ?_
                        refine go_lcmp dX12_judge_125 ?_
                        refine go_if_eq dX12_judge_126 (fun c126 => ?_) (fun c126 => ?_)
                        · have c126 := (lc_eq _ _).mp c126
                          refine go_bipush (v := (-4)) dX12_judge_145 rfl ?_
                          refine go_goto dX12_judge_147 ?_
                          refine go_istore_n (ls' := [some (.ref q), some (.int (nI jd)), none, some (.int (-4)), some (.int 0), some (.int (nI (g + 1))), some (.long (L 13 ((100 * jd) + (g + 1)))), none]) dX12_judge_152 ⟨by decide, rfl, rfl⟩ ?_
                          refine go_iinc (v := nI ((g + 1) + 1)) (ls' := [some (.ref q), some (.int (nI jd)), none, some (.int (-4)), some (.int 0), some (.int (nI ((g + 1) + 1))), some (.long (L 13 ((100 * jd) + (g + 1)))), none]) dX12_judge_153 rfl (nI_1 (g + 1)) ⟨by decide, rfl, rfl⟩ ?_
                          refine go_goto dX12_judge_156 ?_
                          refine go_weak (ls' := [some (.ref q), some (.int (nI jd)), none, some (.int (-4)), some (.int 0), some (.int (nI ((g + 1) + 1))), none, none]) ⟨rfl, rfl, rfl, rfl, rfl, trivial⟩ ?_
                          refine go_mem (f' := (mo G m0 q F24 ((jdS N A24 (g + 1)).2) L (some (q + 17)))) (by rw [hj.2]) ?_
                          exact ih_lp0 (g + 1 + 1) _ false (by omega) (by omega) hj.1.symm (Or.inl ⟨rfl, by rw [hx2, fsB_d (by omega), if_neg (jd_no1 (by rw [← hs11]; exact c126))]⟩)
                        · have c126 := mt (lc_eq _ _).mpr c126
                          refine go_iload dX12_judge_129 rfl ?_
                          refine go_if_eq dX12_judge_131 (fun c131 => ?_) (fun c131 => ?_)
                          · have c131n := (n0_eq (a := 0) (by omega)).mp c131
                            refine go_iload dX12_judge_150 rfl ?_
                            refine go_istore_n (ls' := [some (.ref q), some (.int (nI jd)), none, some (.int (nI (g + 1))), some (.int 0), some (.int (nI (g + 1))), some (.long (L 13 ((100 * jd) + (g + 1)))), none]) dX12_judge_152 ⟨by decide, rfl, rfl⟩ ?_
                            refine go_iinc (v := nI ((g + 1) + 1)) (ls' := [some (.ref q), some (.int (nI jd)), none, some (.int (nI (g + 1))), some (.int 0), some (.int (nI ((g + 1) + 1))), some (.long (L 13 ((100 * jd) + (g + 1)))), none]) dX12_judge_153 rfl (nI_1 (g + 1)) ⟨by decide, rfl, rfl⟩ ?_
                            refine go_goto dX12_judge_156 ?_
                            refine go_weak (ls' := [some (.ref q), some (.int (nI jd)), none, some (.int (nI (g + 1))), some (.int 0), some (.int (nI ((g + 1) + 1))), none, none]) ⟨rfl, rfl, rfl, rfl, rfl, trivial⟩ ?_
                            refine go_mem (f' := (mo G m0 q F24 ((jdS N A24 (g + 1)).2) L (some (q + 17)))) (by rw [hj.2]) ?_
                            exact ih_lp0 (g + 1 + 1) _ false (by omega) (by omega) hj.1.symm (Or.inr ⟨nI_pos (n := g + 1) (by omega), by rw [hx2, fsB_d (by omega), if_pos (jd_yes (by rw [← hs11]; exact c126) (fun z => by rw [hj.1] at z; cases z))] <;> rfl⟩)
                          · have c131n := mt (n0_eq (a := 0) (by omega)).mpr c131
                            first | exact absurd c131n (by decide) | exact absurd (by decide) c131n | exact absurd rfl c131n | omega
                      · have c87n := mt (n0_eq (a := 0) (by omega)).mpr c87
                        first | exact absurd c87n (by decide) | exact absurd (by decide) c87n | exact absurd rfl c87n | omega
                    · first | exact absurd c75 (by decide) | exact absurd (by decide) c75 | exact absurd rfl c75 | omega
    refine go_weak (ls' := [some (.ref q), some (.int (nI jd)), none, some (.int (-4)), some (.int 1), some (.int 0), none, none]) ⟨rfl, rfl, rfl, rfl, rfl, trivial⟩ ?_
    refine go_mem (f' := (mo G m0 q F24 ((jdS N A24 (0 - 1)).2) L (some (q + 17)))) rfl ?_
    exact lp0 (R + 1) 0 _ true (Nat.zero_le _) (by omega) rfl (Or.inl ⟨rfl, rfl⟩)
  · have c12 := Int32.not_le.mp c12
    refine go_iload_n dX12_judge_15 rfl ?_
    exact go_iret dX12_judge_16 rfl (Nat.le_of_ble_eq_true rfl) (Nat.le_of_ble_eq_true rfl) (hQ9 ▸ ⟨rd_i (by unfold judS; rw [if_pos c12]), ⟨upd F 16 0, A, K, ⟨rfl, rfl, rfl, rfl, fun _ _ => rfl⟩, rfl⟩, rfl⟩)
set_option maxHeartbeats 4000000 in
set_option maxRecDepth 100000 in
theorem e_X12_terms (hq : G.2.1 ≤ q) (hn : q + 25 ≤ n) (hN : F 0 = nI N) (hN8 : N ≤ 8) (hM5 : M ≤ 5) (hI : insOK N M (A 4)) {x z what : Int32} : Ev G mX12_terms 6 0 0 [.ref q, .int x, .int z, .int what] (mo G m0 q F A L K) n (fun r f1 n1 => r = some (.int (terS N A x z what)) ∧ (∃ F' A' K', kpF F A F' A' ∧ f1 = mo G m0 q F' A' L K') ∧ n1 = n) := by
  generalize hQ9 : (fun r f1 n1 => r = some (.int (terS N A x z what)) ∧ (∃ F' A' K', kpF F A F' A' ∧ f1 = mo G m0 q F' A' L K') ∧ n1 = n : RQ) = Q9
  refine ev_of (by decide) (Nat.le_of_ble_eq_true rfl) (ls := [some (.ref q), some (.int x), some (.int z), some (.int what), none, none, none, none, none]) rfl (fun hb => ?_)
  refine go_aload_n dX12_terms_0 rfl ?_
  refine go_iconst (v := 0) dX12_terms_1 rfl ?_
  refine go_put dX12_terms_2 fp_X12_83_12 (Or.inr (fun _ _ _ h => by cases h; rfl)) mo_obj hq (by omega) (rfl) rfl (Nat.le_of_ble_eq_true rfl) ?_
  refine go_mem (mo_setO (F' := (upd F 16 (0))) (K' := K) rfl) ?_
  refine go_iload_n dX12_terms_5 rfl ?_
  refine go_i2l dX12_terms_6 ?_
  refine go_lconst (v := 1) dX12_terms_7 rfl ?_
  refine go_ldc2 (v := 20) dX12_terms_8 wm_1535 ?_
  refine go_Sr [.long (x).toInt64, .long 1, .long 20] [] dX12_terms_11 sl_X12_90 ⟨by decide, by decide⟩ (e_X12_lies) rfl rfl (Nat.le_of_ble_eq_true rfl) (Nat.le_of_ble_eq_true rfl) (Nat.le_of_ble_eq_true rfl) ?_
  refine go_tp (z := if okr x 1 20 then 1 else 0) (ite_c (li_okr rfl rfl)) ?_
  refine go_if_eq dX12_terms_14 (fun c14 => ?_) (fun c14 => ?_)
  · have c14 := bz_f c14
    refine go_ldc (v := 1000000001) dX12_terms_27 wm_1379 ?_
    exact go_iret dX12_terms_29 rfl (Nat.le_of_ble_eq_true rfl) (Nat.le_of_ble_eq_true rfl) (hQ9 ▸ ⟨rd_i (by simp [terS, c14]), ⟨upd F 16 0, A, K, ⟨rfl, rfl, rfl, rfl, fun _ _ => rfl⟩, rfl⟩, rfl⟩)
  · have c14 := bz_t c14
    refine go_iload_n dX12_terms_17 rfl ?_
    refine go_i2l dX12_terms_18 ?_
    refine go_lconst (v := 0) dX12_terms_19 rfl ?_
    refine go_lconst (v := 1) dX12_terms_20 rfl ?_
    refine go_Sr [.long (what).toInt64, .long 0, .long 1] [] dX12_terms_21 sl_X12_90 ⟨by decide, by decide⟩ (e_X12_lies) rfl rfl (Nat.le_of_ble_eq_true rfl) (Nat.le_of_ble_eq_true rfl) (Nat.le_of_ble_eq_true rfl) ?_
    refine go_tp (z := if okr what 0 1 then 1 else 0) (ite_c (li_okr rfl rfl)) ?_
    refine go_if_ne dX12_terms_24 (fun c24 => ?_) (fun c24 => ?_)
    · have c24 := bz_t c24
      obtain ⟨x1, hx1, hx2, rfl⟩ := okr_nI2 (k0 := 1) (k := 20) rfl rfl (by omega) (by omega) c14
      have kx : (nI x1).toNatClampNeg = x1 := nI_clamp (by omega)
      refine go_aload_n dX12_terms_30 rfl ?_
      refine go_get dX12_terms_31 fl_X12_87_12 mo_obj hq (by omega) rfl ?_
      refine go_tp (z := nI N) (hN) ?_
      refine go_iconst (v := 2) dX12_terms_34 rfl ?_
      refine go_icmp_ge dX12_terms_35 (fun c35 => ?_) (fun c35 => ?_)
      · have c35n := (nI_leI (a := 2) (b := N) (by omega) (by omega)).mp c35
        have c35n := Nat.not_lt.mpr c35n
        have c35 := Int32.not_lt.mpr c35
        refine go_aload_n dX12_terms_42 rfl ?_
        refine go_iload_n dX12_terms_43 rfl ?_
        refine go_put dX12_terms_44 fp_X12_348_12 (Or.inr (fun _ _ _ h => by cases h; rfl)) mo_obj hq (by omega) (rfl) rfl (Nat.le_of_ble_eq_true rfl) ?_
        refine go_mem (mo_setO (F' := (upd (upd F 16 (0)) 37 (z))) (K' := K) rfl) ?_
        refine go_iconst (v := 0) dX12_terms_47 rfl ?_
        refine go_istore (ls' := [some (.ref q), some (.int (nI x1)), some (.int z), some (.int what), some (.int 0), none, none, none, none]) dX12_terms_48 ⟨by decide, rfl, rfl⟩ ?_
        refine go_iconst (v := 0) dX12_terms_50 rfl ?_
        refine go_istore (ls' := [some (.ref q), some (.int (nI x1)), some (.int z), some (.int what), some (.int 0), some (.int 0), none, none, none]) dX12_terms_51 ⟨by decide, rfl, rfl⟩ ?_
        refine go_aload_n dX12_terms_53 rfl ?_
        have hN0 := hN
        have hN1 : 0 < N := by omega
        have hNz : ¬ nI N = 0 := fun z => by have := (nI_eq (a := N) (b := 0) (by omega) (by omega)).mp z; omega
        refine go_V [] [] dX12_terms_54 vl_X12_184 ⟨by decide, by decide⟩ (e_X12_open (F := (upd (upd F 16 (0)) 37 (z))) (A := A) (L := L) (K := K) hq hn) mo_obj hq (by omega) rfl rfl (Nat.le_of_ble_eq_true rfl) (Nat.le_of_ble_eq_true rfl) (Nat.le_of_ble_eq_true rfl) (fun r54 f54 n54 h54 => ?_)
        obtain ⟨rfl, ⟨F54, A54, hc54, rfl⟩, hn54⟩ := h54
        subst n54
        have hN : F54 0 = nI N := by rw [hc54.1 0 (by decide) (by decide)]; exact hN
        have hEq : EqR A A54 := hc54.eq (by decide)
        have hI1 : insOK N M (A54 4) := by rw [hc54.2.1 4 (by decide)]; exact hI
        have hI54 := hI1
        refine go_iconst (v := 0) dX12_terms_57 rfl ?_
        refine go_istore (ls' := [some (.ref q), some (.int (nI x1)), some (.int z), some (.int what), some (.int 0), some (.int 0), some (.int 0), none, none]) dX12_terms_58 ⟨by decide, rfl, rfl⟩ ?_
        have lp0 : ∀ (μ_lp0 : Nat) (t : Nat) (F1 : Nat → Int32) (s c : Int32) (htx : t ≤ x1) (hmt : x1 + 1 ≤ t + μ_lp0) (hf0 : F1 0 = F 0) (hf5 : F1 5 = F 5) (hf9 : F1 9 = F 9) (hf26 : F1 26 = F 26) (hf37 : F1 37 = teZ z (10 * t)) (hs : s = smS (fun t => alS N (teA N A54 (teZ z (10 * t)) 10)) t) (hc : c = smS (fun t => teC N A54 (teZ z (10 * t)) 10) t), Go G mX12_terms 6 0 0 Q9 0 0 60 [some (.ref q), some (.int (nI x1)), some (.int z), some (.int what), some (.int s), some (.int c), some (.int (nI t)), none, none] [] (mo G m0 q F1 A54 L (some (q + 17))) n := by
          intro μ_lp0
          induction μ_lp0 with
          | zero =>
            intro t F1 s c htx hmt hf0 hf5 hf9 hf26 hf37 hs hc
            exact absurd hmt (by omega)
          | succ μ_lp0 ih_lp0 =>
            intro t F1 s c htx hmt hf0 hf5 hf9 hf26 hf37 hs hc
            refine go_iload dX12_terms_60 rfl ?_
            refine go_iload_n dX12_terms_62 rfl ?_
            refine go_icmp_ge dX12_terms_63 (fun c63 => ?_) (fun c63 => ?_)
            · have c63n := (nI_leI (a := x1) (b := t) (by omega) (by omega)).mp c63
              have c63n := Nat.not_lt.mpr c63n
              have c63 := Int32.not_lt.mpr c63
              refine go_iload_n dX12_terms_138 rfl ?_
              refine go_if_ne dX12_terms_139 (fun c139 => ?_) (fun c139 => ?_)
              · refine go_iload dX12_terms_147 rfl ?_
                exact go_iret dX12_terms_149 rfl (Nat.le_of_ble_eq_true rfl) (Nat.le_of_ble_eq_true rfl) (hQ9 ▸ ⟨rd_i (by unfold terS; rw [if_pos ⟨c14, c24⟩, if_neg c35, kx, ← hEq.ter N x1, show x1 = t by omega]; unfold terV; rw [← hs, ← hc]; simp [c139]), ⟨_, _, _, ⟨hf0, hf5, hf9, hf26, fun r hr => hc54.2.1 r hr⟩, rfl⟩, rfl⟩)
              · subst c139
                refine go_iload dX12_terms_142 rfl ?_
                refine go_goto dX12_terms_144 ?_
                exact go_iret dX12_terms_149 rfl (Nat.le_of_ble_eq_true rfl) (Nat.le_of_ble_eq_true rfl) (hQ9 ▸ ⟨rd_i (by unfold terS; rw [if_pos ⟨c14, c24⟩, if_neg c35, kx, ← hEq.ter N x1, show x1 = t by omega]; unfold terV; rw [← hs, ← hc]; simp []), ⟨_, _, _, ⟨hf0, hf5, hf9, hf26, fun r hr => hc54.2.1 r hr⟩, rfl⟩, rfl⟩)
            · have c63n := mt (nI_leI (a := x1) (b := t) (by omega) (by omega)).mpr c63
              have c63n := Nat.lt_of_not_le c63n
              have c63 := Int32.not_le.mp c63
              refine go_iconst (v := 0) dX12_terms_66 rfl ?_
              refine go_istore (ls' := [some (.ref q), some (.int (nI x1)), some (.int z), some (.int what), some (.int s), some (.int c), some (.int (nI t)), some (.int 0), none]) dX12_terms_67 ⟨by decide, rfl, rfl⟩ ?_
              have lp1 : ∀ (μ_lp1 : Nat) (y : Nat) (F2 : Nat → Int32) (c2 : Int32) (hy : y ≤ 10) (hmy : 11 ≤ y + μ_lp1) (hN : F2 0 = nI N) (g26 : F2 26 = F 26) (h37 : F2 37 = teZ z (10 * t + y)) (hc2 : c2 = c + teC N A54 (teZ z (10 * t)) y), Go G mX12_terms 6 0 0 Q9 0 0 69 [some (.ref q), some (.int (nI x1)), some (.int z), some (.int what), some (.int s), some (.int c2), some (.int (nI t)), some (.int (nI y)), none] [] (mo G m0 q F2 (teA N A54 (teZ z (10 * t)) y) L (some (q + 17))) n := by
                intro μ_lp1
                induction μ_lp1 with
                | zero =>
                  intro y F2 c2 hy hmy hN g26 h37 hc2
                  exact absurd hmy (by omega)
                | succ μ_lp1 ih_lp1 =>
                  intro y F2 c2 hy hmy hN g26 h37 hc2
                  refine go_iload dX12_terms_69 rfl ?_
                  refine go_bipush (v := 10) dX12_terms_71 rfl ?_
                  refine go_icmp_ge dX12_terms_73 (fun c73 => ?_) (fun c73 => ?_)
                  · have c73n := (nI_leI (a := 10) (b := y) (by omega) (by omega)).mp c73
                    have c73n := Nat.not_lt.mpr c73n
                    have c73 := Int32.not_lt.mpr c73
                    have hy10 : y = 10 := by omega
                    have hI1 := teA_in (z := teZ z (10 * t)) hN1 hN8 hI54 y
                    refine go_iload dX12_terms_119 rfl ?_
                    refine go_aload_n dX12_terms_121 rfl ?_
                    refine go_Vr [] [.int s] dX12_terms_122 vl_X12_298 ⟨by decide, by decide⟩ (e_X12_allContent (F := F2) (A := (teA N A54 (teZ z (10 * t)) y)) (L := L) (K := (some (q + 17))) hq hn hN hN8 hM5 hI1) mo_obj hq (by omega) rfl rfl (Nat.le_of_ble_eq_true rfl) (Nat.le_of_ble_eq_true rfl) (Nat.le_of_ble_eq_true rfl) ?_
                    refine go_iadd dX12_terms_125 ?_
                    refine go_istore (ls' := [some (.ref q), some (.int (nI x1)), some (.int z), some (.int what), some (.int (s + (alS N (teA N A54 (teZ z (10 * t)) y)))), some (.int c2), some (.int (nI t)), some (.int (nI y)), none]) dX12_terms_126 ⟨by decide, rfl, rfl⟩ ?_
                    refine go_aload_n dX12_terms_128 rfl ?_
                    refine go_V [] [] dX12_terms_129 vl_X12_190 ⟨by decide, by decide⟩ (e_X12_close (F := F2) (A := (teA N A54 (teZ z (10 * t)) y)) (L := L) (K := (some (q + 17))) hq hn) mo_obj hq (by omega) rfl rfl (Nat.le_of_ble_eq_true rfl) (Nat.le_of_ble_eq_true rfl) (Nat.le_of_ble_eq_true rfl) (fun r129 f129 n129 h129 => ?_)
                    obtain ⟨rfl, ⟨F129, A129, hc129, rfl⟩, hn129⟩ := h129
                    subst n129
                    have hk := kp4 hc54 (teA_rw (z := teZ z (10 * t)) hN1 hN8 y) hc129
                    have hA129 : A129 = A54 := by
                      funext r
                      by_cases e : r = 17
                      · subst e; exact hk.2.2.2.2
                      · rw [hk.2.2.2.1 r e, hc54.2.1 r e]
                    refine go_mem (f' := (mo G m0 q F129 A54 L (some (q + 17)))) (by rw [hA129]) ?_
                    refine go_iinc (v := nI (t + 1)) (ls' := [some (.ref q), some (.int (nI x1)), some (.int z), some (.int what), some (.int (s + (alS N (teA N A54 (teZ z (10 * t)) y)))), some (.int c2), some (.int (nI (t + 1))), some (.int (nI y)), none]) dX12_terms_132 rfl (nI_1 (t)) ⟨by decide, rfl, rfl⟩ ?_
                    refine go_goto dX12_terms_135 ?_
                    refine go_weak (ls' := [some (.ref q), some (.int (nI x1)), some (.int z), some (.int what), some (.int (s + (alS N (teA N A54 (teZ z (10 * t)) y)))), some (.int c2), some (.int (nI (t + 1))), none, none]) ⟨rfl, rfl, rfl, rfl, rfl, rfl, rfl, trivial⟩ ?_
                    exact ih_lp0 (t + 1) F129 _ _ (by omega) (by omega) hk.1 hk.2.1 hk.2.2.1 (by rw [hc129.1 26 (by decide) (by decide) (by decide) (by decide) (by decide)]; exact g26) (by rw [hc129.1 37 (by decide) (by decide) (by decide) (by decide) (by decide), h37, hy10]; rfl) (by rw [hs, hy10]; rfl) (by rw [hc2, hc, hy10]; rfl)
                  · have c73n := mt (nI_leI (a := 10) (b := y) (by omega) (by omega)).mpr c73
                    have c73n := Nat.lt_of_not_le c73n
                    have c73 := Int32.not_le.mp c73
                    refine go_aload_n dX12_terms_76 rfl ?_
                    refine go_aload_n dX12_terms_77 rfl ?_
                    refine go_get dX12_terms_78 fl_X12_87_12 mo_obj hq (by omega) rfl ?_
                    refine go_tp (z := nI N) (hN) ?_
                    refine go_V [.int (nI N)] [] dX12_terms_81 vl_X12_355 ⟨by decide, by decide⟩ (e_X12_drawBelow (F := F2) (A := (teA N A54 (teZ z (10 * t)) y)) (L := L) (K := (some (q + 17))) hq hn hNz) mo_obj hq (by omega) rfl rfl (Nat.le_of_ble_eq_true rfl) (Nat.le_of_ble_eq_true rfl) (Nat.le_of_ble_eq_true rfl) (fun r81 f81 n81 h81 => ?_)
                    obtain ⟨rfl, rfl, hn81⟩ := h81
                    subst n81
                    obtain ⟨ja, hja, eja⟩ := drS_nI (sdS (F2 37)) hN1 (by omega)
                    refine go_tp (z := nI ja) eja ?_
                    refine go_mem (f' := (mo G m0 q (upd F2 37 (sdS (F2 37))) (teA N A54 (teZ z (10 * t)) y) L (some (q + 17)))) rfl ?_
                    refine go_istore (ls' := [some (.ref q), some (.int (nI x1)), some (.int z), some (.int what), some (.int s), some (.int c2), some (.int (nI t)), some (.int (nI y)), some (.int (nI ja))]) dX12_terms_84 ⟨by decide, rfl, rfl⟩ ?_
                    refine go_aload_n dX12_terms_86 rfl ?_
                    refine go_iload dX12_terms_87 rfl ?_
                    refine go_aload_n dX12_terms_89 rfl ?_
                    refine go_aload_n dX12_terms_90 rfl ?_
                    refine go_get dX12_terms_91 fl_X12_87_12 mo_obj hq (by omega) rfl ?_
                    refine go_tp (z := nI N) (hN) ?_
                    refine go_V [.int (nI N)] [.int (nI ja), .ref q] dX12_terms_94 vl_X12_355 ⟨by decide, by decide⟩ (e_X12_drawBelow (F := (upd F2 37 (sdS (F2 37)))) (A := (teA N A54 (teZ z (10 * t)) y)) (L := L) (K := (some (q + 17))) hq hn hNz) mo_obj hq (by omega) rfl rfl (Nat.le_of_ble_eq_true rfl) (Nat.le_of_ble_eq_true rfl) (Nat.le_of_ble_eq_true rfl) (fun r94 f94 n94 h94 => ?_)
                    obtain ⟨rfl, rfl, hn94⟩ := h94
                    subst n94
                    obtain ⟨jb, hjb, ejb⟩ := drS_nI (sdS (sdS (F2 37))) hN1 (by omega)
                    refine go_tp (z := nI jb) ejb ?_
                    refine go_mem (f' := (mo G m0 q (upd (upd F2 37 (sdS (F2 37))) 37 (sdS (sdS (F2 37)))) (teA N A54 (teZ z (10 * t)) y) L (some (q + 17)))) rfl ?_
                    refine go_V [.int (nI ja), .int (nI jb)] [] dX12_terms_97 vl_X12_171 ⟨by decide, by decide⟩ (e_X12_swapPlaces (F := (upd (upd F2 37 (sdS (F2 37))) 37 (sdS (sdS (F2 37))))) (A := (teA N A54 (teZ z (10 * t)) y)) (L := L) (K := (some (q + 17))) hq hn (by omega) (by omega)) mo_obj hq (by omega) rfl rfl (Nat.le_of_ble_eq_true rfl) (Nat.le_of_ble_eq_true rfl) (Nat.le_of_ble_eq_true rfl) (fun r97 f97 n97 h97 => ?_)
                    obtain ⟨rfl, rfl, hn97⟩ := h97
                    subst n97
                    refine go_mem (f' := (mo G m0 q (upd (upd F2 37 (sdS (F2 37))) 37 (sdS (sdS (F2 37)))) (teA N A54 (teZ z (10 * t)) (y + 1)) L (some (q + 17)))) (by rw [show (teA N A54 (teZ z (10 * t)) (y + 1)) = swS (teA N A54 (teZ z (10 * t)) y) ja jb from by show swS _ _ _ = _; rw [teZ_add, ← h37, eja, ejb, nI_clamp (by omega), nI_clamp (by omega)]]) ?_
                    refine go_aload_n dX12_terms_100 rfl ?_
                    refine go_V [] [] dX12_terms_101 vl_X12_236 ⟨by decide, by decide⟩ (e_X12_layClashes (F := (upd (upd F2 37 (sdS (F2 37))) 37 (sdS (sdS (F2 37))))) (A := (teA N A54 (teZ z (10 * t)) (y + 1))) (L := L) (K := (some (q + 17))) hq hn hN hN8) mo_obj hq (by omega) rfl rfl (Nat.le_of_ble_eq_true rfl) (Nat.le_of_ble_eq_true rfl) (Nat.le_of_ble_eq_true rfl) (fun r101 f101 n101 h101 => ?_)
                    obtain ⟨rfl, rfl, hn101⟩ := h101
                    subst n101
                    refine go_iload dX12_terms_104 rfl ?_
                    refine go_aload_n dX12_terms_106 rfl ?_
                    refine go_get dX12_terms_107 fl_X12_230_12 mo_obj hq (by omega) rfl ?_
                    refine go_tp (z := c2B (clP (teA N A54 (teZ z (10 * t)) (y + 1))) N 0 N) (rfl) ?_
                    refine go_iadd dX12_terms_110 ?_
                    refine go_istore (ls' := [some (.ref q), some (.int (nI x1)), some (.int z), some (.int what), some (.int s), some (.int (c2 + (c2B (clP (teA N A54 (teZ z (10 * t)) (y + 1))) N 0 N))), some (.int (nI t)), some (.int (nI y)), some (.int (nI ja))]) dX12_terms_111 ⟨by decide, rfl, rfl⟩ ?_
                    refine go_iinc (v := nI (y + 1)) (ls' := [some (.ref q), some (.int (nI x1)), some (.int z), some (.int what), some (.int s), some (.int (c2 + (c2B (clP (teA N A54 (teZ z (10 * t)) (y + 1))) N 0 N))), some (.int (nI t)), some (.int (nI (y + 1))), some (.int (nI ja))]) dX12_terms_113 rfl (nI_1 (y)) ⟨by decide, rfl, rfl⟩ ?_
                    refine go_goto dX12_terms_116 ?_
                    refine go_weak (ls' := [some (.ref q), some (.int (nI x1)), some (.int z), some (.int what), some (.int s), some (.int (c2 + (c2B (clP (teA N A54 (teZ z (10 * t)) (y + 1))) N 0 N))), some (.int (nI t)), some (.int (nI (y + 1))), none]) ⟨rfl, rfl, rfl, rfl, rfl, rfl, rfl, rfl, trivial⟩ ?_
                    exact ih_lp1 (y + 1) _ _ (by omega) (by omega) hN g26 (by show sdS (sdS (F2 37)) = _; rw [h37]; rfl) (by rw [hc2, Int32.add_assoc]; rfl)
              exact lp1 11 0 F1 _ (by omega) (by omega) (hf0.trans hN0) hf26 hf37 (by show _ = c + 0; rw [Int32.add_zero])
        exact lp0 (x1 + 1) 0 F54 _ _ (Nat.zero_le _) (by omega) (hc54.1 0 (by decide) (by decide)) (hc54.1 5 (by decide) (by decide)) (hc54.1 9 (by decide) (by decide)) (hc54.1 26 (by decide) (by decide)) (hc54.1 37 (by decide) (by decide)) rfl rfl
      · have c35n := mt (nI_leI (a := 2) (b := N) (by omega) (by omega)).mpr c35
        have c35n := Nat.lt_of_not_le c35n
        have c35 := Int32.not_le.mp c35
        refine go_ldcw (v := 1000000003) dX12_terms_38 wm_1589 ?_
        exact go_iret dX12_terms_41 rfl (Nat.le_of_ble_eq_true rfl) (Nat.le_of_ble_eq_true rfl) (hQ9 ▸ ⟨rd_i (by simp [terS, c14, c24, c35]), ⟨upd F 16 0, A, K, ⟨rfl, rfl, rfl, rfl, fun _ _ => rfl⟩, rfl⟩, rfl⟩)
    · have c24 := bz_f c24
      refine go_ldc (v := 1000000001) dX12_terms_27 wm_1379 ?_
      exact go_iret dX12_terms_29 rfl (Nat.le_of_ble_eq_true rfl) (Nat.le_of_ble_eq_true rfl) (hQ9 ▸ ⟨rd_i (by simp [terS, c14, c24]), ⟨upd F 16 0, A, K, ⟨rfl, rfl, rfl, rfl, fun _ _ => rfl⟩, rfl⟩, rfl⟩)
end M16
