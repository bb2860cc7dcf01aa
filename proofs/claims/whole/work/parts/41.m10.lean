section M10
variable {G : GX} {m0 f : Mem} {q n N M : Nat} {F : Nat → Int32} {A : Nat → Nat → Int32} {L : Nat → Nat → Int64} {K : Option Nat}
theorem moA_sm {k : Nat} {v : Int32} (h : v = moV A N (moT A N (A 20) k) (k + 1)) : mo G m0 q F (upA (moA N A k) 20 (k + 1) v) L K = mo G m0 q F (moA N A (k + 1)) L K := by rw [moA_s h]
set_option maxHeartbeats 4000000 in
set_option maxRecDepth 100000 in
theorem e_X12_layMost (hq : G.2.1 ≤ q) (hn : q + 25 ≤ n) (hN : F 0 = nI N) (hN8 : N ≤ 8) : Ev G mX12_layMost 4 0 0 [.ref q] (mo G m0 q F A L K) n (fun r f1 n1 => r = none ∧ f1 = mo G m0 q F (moA N A (2 ^ N - 1)) L K ∧ n1 = n) := by
  generalize hQ9 : (fun r f1 n1 => r = none ∧ f1 = mo G m0 q F (moA N A (2 ^ N - 1)) L K ∧ n1 = n : RQ) = Q9
  refine ev_of (by decide) (Nat.le_of_ble_eq_true rfl) (ls := [some (.ref q), none, none, none, none, none]) rfl (fun hb => ?_)
  have hp2 := pw8 hN8
  have hp1 := pw1 N
  refine go_aload_n dX12_layMost_0 rfl ?_
  refine go_get dX12_layMost_1 fl_X12_68_12 mo_obj hq (by omega) rfl ?_
  refine go_iconst (v := 0) dX12_layMost_4 rfl ?_
  refine go_iconst (v := 0) dX12_layMost_5 rfl ?_
  refine go_iast dX12_layMost_6 (mo_arr 20 (by decide)) (by omega) (by omega) (vp_in_nI (n := 0) (by show 0 < 256; omega) (by decide)) ?_
  refine go_mem (mo_setA 20 (by decide) _ _) ?_
  refine go_mem (f' := (mo G m0 q F (upA A 20 0 (0)) L K)) rfl ?_
  refine go_iconst (v := 1) dX12_layMost_7 rfl ?_
  refine go_istore_n (ls' := [some (.ref q), some (.int 1), none, none, none, none]) dX12_layMost_8 ⟨by decide, rfl, rfl⟩ ?_
  have lp0 : ∀ (μ_lp0 : Nat) (i : Nat) (hi : i + 1 ≤ 2 ^ N) (hmi : 256 ≤ i + μ_lp0), Go G mX12_layMost 4 0 0 Q9 0 0 9 [some (.ref q), some (.int (nI (i + 1))), none, none, none, none] [] (mo G m0 q F (moA N A i) L K) n := by
    intro μ_lp0
    induction μ_lp0 with
    | zero =>
      intro i hi hmi
      exact absurd hmi (by omega)
    | succ μ_lp0 ih_lp0 =>
      intro i hi hmi
      refine go_iload_n dX12_layMost_9 rfl ?_
      refine go_iconst (v := 1) dX12_layMost_10 rfl ?_
      refine go_aload_n dX12_layMost_11 rfl ?_
      refine go_get dX12_layMost_12 fl_X12_87_12 mo_obj hq (by omega) rfl ?_
      refine go_tp (z := nI N) (hN) ?_
      refine go_ishl dX12_layMost_15 ?_
      refine go_tp (z := nI (2 ^ N)) (sh1 N (by omega)) ?_
      refine go_icmp_ge dX12_layMost_16 (fun c16 => ?_) (fun c16 => ?_)
      · have c16n := (nI_leI (a := 2 ^ N) (b := i + 1) (by omega) (by omega)).mp c16
        have c16n := Nat.not_lt.mpr c16n
        have c16 := Int32.not_lt.mpr c16
        exact go_vret dX12_layMost_125 rfl (Nat.le_of_ble_eq_true rfl) (Nat.le_of_ble_eq_true rfl) (hQ9 ▸ ⟨rfl, by rw [show 2 ^ N - 1 = i by omega], rfl⟩)
      · have c16n := mt (nI_leI (a := 2 ^ N) (b := i + 1) (by omega) (by omega)).mpr c16
        have c16n := Nat.lt_of_not_le c16n
        have c16 := Int32.not_le.mp c16
        refine go_iload_n dX12_layMost_19 rfl ?_
        have hl20 := (low_in (i + 1) (by omega) (by omega)).1
        refine go_Sr [.int (nI (i + 1))] [] dX12_layMost_20 sl_X12_248 ⟨by decide, by decide⟩ (e_X12_lowest (by omega) (by omega)) rfl rfl (Nat.le_of_ble_eq_true rfl) (Nat.le_of_ble_eq_true rfl) (Nat.le_of_ble_eq_true rfl) ?_
        refine go_istore_n (ls' := [some (.ref q), some (.int (nI (i + 1))), some (.int (nI (lowN (i + 1)))), none, none, none]) dX12_layMost_23 ⟨by decide, rfl, rfl⟩ ?_
        refine go_iload_n dX12_layMost_24 rfl ?_
        refine go_iconst (v := 1) dX12_layMost_25 rfl ?_
        refine go_iload_n dX12_layMost_26 rfl ?_
        refine go_ishl dX12_layMost_27 ?_
        refine go_iconst (v := (-1)) dX12_layMost_28 rfl ?_
        refine go_ixor dX12_layMost_29 ?_
        refine go_iand dX12_layMost_30 ?_
        refine go_tp (z := nI (clrN (i + 1) (lowN (i + 1)))) (clr_i (i + 1) (by omega) (lowN (i + 1)) (by omega)) ?_
        have hc30_12 : clrN (i + 1) (lowN (i + 1)) < 256 := clr_lt (by omega)
        refine go_istore_n (ls' := [some (.ref q), some (.int (nI (i + 1))), some (.int (nI (lowN (i + 1)))), some (.int (nI (clrN (i + 1) (lowN (i + 1))))), none, none]) dX12_layMost_31 ⟨by decide, rfl, rfl⟩ ?_
        refine go_iload_n dX12_layMost_32 rfl ?_
        have hp33 := pop_le (i + 1)
        refine go_Sr [.int (nI (i + 1))] [] dX12_layMost_33 sl_X12_251 ⟨by decide, by decide⟩ (e_X12_onesOf (by omega)) rfl rfl (Nat.le_of_ble_eq_true rfl) (Nat.le_of_ble_eq_true rfl) (Nat.le_of_ble_eq_true rfl) ?_
        refine go_iconst (v := 2) dX12_layMost_36 rfl ?_
        refine go_irem dX12_layMost_37 (by decide) ?_
        refine go_tp (z := nI ((popN (i + 1)) % 2)) (pk_rem (a := popN (i + 1)) (d := 2) (by omega) (by omega) (by omega)) ?_
        refine go_iconst (v := 1) dX12_layMost_38 rfl ?_
        refine go_icmp_ne dX12_layMost_39 (fun c39 => ?_) (fun c39 => ?_)
        · have c39n := mt (nI_eq (a := (popN (i + 1)) % 2) (b := 1) (by omega) (by omega)).mpr c39
          refine go_iconst (v := (-1)) dX12_layMost_51 rfl ?_
          refine go_istore (ls' := [some (.ref q), some (.int (nI (i + 1))), some (.int (nI (lowN (i + 1)))), some (.int (nI (clrN (i + 1) (lowN (i + 1))))), some (.int (-1)), none]) dX12_layMost_52 ⟨by decide, rfl, rfl⟩ ?_
          refine go_iload_n dX12_layMost_54 rfl ?_
          refine go_iconst (v := 1) dX12_layMost_55 rfl ?_
          refine go_iadd dX12_layMost_56 ?_
          refine go_tp (z := nI ((lowN (i + 1)) + 1)) (nI_add (lowN (i + 1)) 1) ?_
          refine go_istore (ls' := [some (.ref q), some (.int (nI (i + 1))), some (.int (nI (lowN (i + 1)))), some (.int (nI (clrN (i + 1) (lowN (i + 1))))), some (.int (-1)), some (.int (nI ((lowN (i + 1)) + 1)))]) dX12_layMost_57 ⟨by decide, rfl, rfl⟩ ?_
          have lp1 : ∀ (μ_lp1 : Nat) (a5 : Nat) (x : Int32) (ha5 : lowN (i + 1) + 1 + a5 ≤ N ∨ a5 = 0) (hm5 : N + 1 ≤ a5 + μ_lp1) (hx : x = mfU A (moT A N (A 20) i) (lowN (i + 1)) (clrN (i + 1) (lowN (i + 1))) (if popN (i + 1) % 2 = 1 then moT A N (A 20) i (clrN (i + 1) (lowN (i + 1))) else -1) a5), Go G mX12_layMost 4 0 0 Q9 0 0 59 [some (.ref q), some (.int (nI (i + 1))), some (.int (nI (lowN (i + 1)))), some (.int (nI (clrN (i + 1) (lowN (i + 1))))), some (.int x), some (.int (nI (lowN (i + 1) + 1 + a5)))] [] (mo G m0 q F (moA N A i) L K) n := by
            intro μ_lp1
            induction μ_lp1 with
            | zero =>
              intro a5 x ha5 hm5 hx
              exact absurd hm5 (by omega)
            | succ μ_lp1 ih_lp1 =>
              intro a5 x ha5 hm5 hx
              refine go_iload dX12_layMost_59 rfl ?_
              refine go_aload_n dX12_layMost_61 rfl ?_
              refine go_get dX12_layMost_62 fl_X12_87_12 mo_obj hq (by omega) rfl ?_
              refine go_tp (z := nI N) (hN) ?_
              refine go_icmp_ge dX12_layMost_65 (fun c65 => ?_) (fun c65 => ?_)
              · have c65n := (nI_leI (a := N) (b := lowN (i + 1) + 1 + a5) (by omega) (by omega)).mp c65
                have c65n := Nat.not_lt.mpr c65n
                have c65 := Int32.not_lt.mpr c65
                refine go_aload_n dX12_layMost_111 rfl ?_
                refine go_get dX12_layMost_112 fl_X12_68_12 mo_obj hq (by omega) rfl ?_
                refine go_iload_n dX12_layMost_115 rfl ?_
                refine go_iload dX12_layMost_116 rfl ?_
                refine go_iast dX12_layMost_118 (mo_arr 20 (by decide)) (by omega) (by omega) (vp_in_nI (n := i + 1) (by show i + 1 < 256; omega) (by decide)) ?_
                refine go_mem (mo_setA 20 (by decide) _ _) ?_
                rw [nI_clamp (by omega)]
                refine go_iinc (v := nI ((i + 1) + 1)) (ls' := [some (.ref q), some (.int (nI ((i + 1) + 1))), some (.int (nI (lowN (i + 1)))), some (.int (nI (clrN (i + 1) (lowN (i + 1))))), some (.int x), some (.int (nI (lowN (i + 1) + 1 + a5)))]) dX12_layMost_119 rfl (nI_1 (i + 1)) ⟨by decide, rfl, rfl⟩ ?_
                refine go_goto dX12_layMost_122 ?_
                refine go_weak (ls' := [some (.ref q), some (.int (nI ((i + 1) + 1))), none, none, none, none]) ⟨rfl, rfl, trivial⟩ ?_
                refine go_mem (f' := (mo G m0 q F (moA N A (i + 1)) L K)) (moA_sm (by rw [hx, show a5 = N - (lowN (i + 1) + 1) by omega]; rfl)) ?_
                exact ih_lp0 (i + 1) (by omega) (by omega)
              · have c65n := mt (nI_leI (a := N) (b := lowN (i + 1) + 1 + a5) (by omega) (by omega)).mpr c65
                have c65n := Nat.lt_of_not_le c65n
                have c65 := Int32.not_le.mp c65
                refine go_iload_n dX12_layMost_68 rfl ?_
                refine go_iload dX12_layMost_69 rfl ?_
                refine go_Sr [.int (nI (clrN (i + 1) (lowN (i + 1)))), .int (nI (lowN (i + 1) + 1 + a5))] [] dX12_layMost_71 sl_X12_245 ⟨by decide, by decide⟩ (e_X12_hasBit) rfl rfl (Nat.le_of_ble_eq_true rfl) (Nat.le_of_ble_eq_true rfl) (Nat.le_of_ble_eq_true rfl) ?_
                refine go_tp (z := if Nat.testBit (clrN (i + 1) (lowN (i + 1))) (lowN (i + 1) + 1 + a5) then 1 else 0) (by rw [bit_t _ (by omega) _ (by omega)]) ?_
                refine go_if_eq dX12_layMost_74 (fun c74 => ?_) (fun c74 => ?_)
                · have c74 := bz_f c74
                  refine go_iinc (v := nI ((lowN (i + 1) + 1 + a5) + 1)) (ls' := [some (.ref q), some (.int (nI (i + 1))), some (.int (nI (lowN (i + 1)))), some (.int (nI (clrN (i + 1) (lowN (i + 1))))), some (.int x), some (.int (nI ((lowN (i + 1) + 1 + a5) + 1)))]) dX12_layMost_105 rfl (nI_1 (lowN (i + 1) + 1 + a5)) ⟨by decide, rfl, rfl⟩ ?_
                  refine go_goto dX12_layMost_108 ?_
                  exact ih_lp1 (a5 + 1) _ (by omega) (by omega) (by simp [mfU, moA, hx, c74])
                · have c74 := bz_t c74
                  refine go_iload dX12_layMost_77 rfl ?_
                  refine go_aload_n dX12_layMost_79 rfl ?_
                  refine go_iload_n dX12_layMost_80 rfl ?_
                  refine go_iload dX12_layMost_81 rfl ?_
                  refine go_Vr [.int (nI (lowN (i + 1))), .int (nI (lowN (i + 1) + 1 + a5))] [.int x] dX12_layMost_83 vl_X12_254 ⟨by decide, by decide⟩ (e_X12_likingOf (F := F) (A := (moA N A i)) (L := L) (K := K) hq hn (by omega) (by omega)) mo_obj hq (by omega) rfl rfl (Nat.le_of_ble_eq_true rfl) (Nat.le_of_ble_eq_true rfl) (Nat.le_of_ble_eq_true rfl) ?_
                  refine go_tp (z := likS A (lowN (i + 1)) (lowN (i + 1) + 1 + a5)) (rfl) ?_
                  refine go_aload_n dX12_layMost_86 rfl ?_
                  refine go_get dX12_layMost_87 fl_X12_68_12 mo_obj hq (by omega) rfl ?_
                  refine go_iload_n dX12_layMost_90 rfl ?_
                  refine go_iconst (v := 1) dX12_layMost_91 rfl ?_
                  refine go_iload dX12_layMost_92 rfl ?_
                  refine go_ishl dX12_layMost_94 ?_
                  refine go_iconst (v := (-1)) dX12_layMost_95 rfl ?_
                  refine go_ixor dX12_layMost_96 ?_
                  refine go_iand dX12_layMost_97 ?_
                  refine go_tp (z := nI (clrN (clrN (i + 1) (lowN (i + 1))) (lowN (i + 1) + 1 + a5))) (clr_i (clrN (i + 1) (lowN (i + 1))) (by omega) (lowN (i + 1) + 1 + a5) (by omega)) ?_
                  have hc97_16 : clrN (clrN (i + 1) (lowN (i + 1))) (lowN (i + 1) + 1 + a5) < 256 := clr_lt (by omega)
                  refine go_iald dX12_layMost_98 (mo_arr 20 (by decide)) (by omega) (by omega) (vp_in_nI (n := clrN (clrN (i + 1) (lowN (i + 1))) (lowN (i + 1) + 1 + a5)) (by show clrN (clrN (i + 1) (lowN (i + 1))) (lowN (i + 1) + 1 + a5) < 256; omega) (by decide)) ?_
                  refine go_tp (z := moT A N (A 20) i (clrN (clrN (i + 1) (lowN (i + 1))) (lowN (i + 1) + 1 + a5))) (by rw [nI_clamp (by omega)]; rfl) ?_
                  refine go_iadd dX12_layMost_99 ?_
                  refine go_Sr [.int x, .int ((likS A (lowN (i + 1)) (lowN (i + 1) + 1 + a5)) + (moT A N (A 20) i (clrN (clrN (i + 1) (lowN (i + 1))) (lowN (i + 1) + 1 + a5))))] [] dX12_layMost_100 sl_X12_105 ⟨by decide, by decide⟩ (e_X12_greater) rfl rfl (Nat.le_of_ble_eq_true rfl) (Nat.le_of_ble_eq_true rfl) (Nat.le_of_ble_eq_true rfl) ?_
                  refine go_istore (ls' := [some (.ref q), some (.int (nI (i + 1))), some (.int (nI (lowN (i + 1)))), some (.int (nI (clrN (i + 1) (lowN (i + 1))))), some (.int (grS (x) ((likS A (lowN (i + 1)) (lowN (i + 1) + 1 + a5)) + (moT A N (A 20) i (clrN (clrN (i + 1) (lowN (i + 1))) (lowN (i + 1) + 1 + a5)))))), some (.int (nI (lowN (i + 1) + 1 + a5)))]) dX12_layMost_103 ⟨by decide, rfl, rfl⟩ ?_
                  refine go_iinc (v := nI ((lowN (i + 1) + 1 + a5) + 1)) (ls' := [some (.ref q), some (.int (nI (i + 1))), some (.int (nI (lowN (i + 1)))), some (.int (nI (clrN (i + 1) (lowN (i + 1))))), some (.int (grS (x) ((likS A (lowN (i + 1)) (lowN (i + 1) + 1 + a5)) + (moT A N (A 20) i (clrN (clrN (i + 1) (lowN (i + 1))) (lowN (i + 1) + 1 + a5)))))), some (.int (nI ((lowN (i + 1) + 1 + a5) + 1)))]) dX12_layMost_105 rfl (nI_1 (lowN (i + 1) + 1 + a5)) ⟨by decide, rfl, rfl⟩ ?_
                  refine go_goto dX12_layMost_108 ?_
                  exact ih_lp1 (a5 + 1) _ (by omega) (by omega) (by simp [mfU, moA, hx, c74])
          exact lp1 (N + 1) 0 _ (by omega) (by omega) (by simp [mfU, moA, c39, c39n])
        · have c39n := (nI_eq (a := (popN (i + 1)) % 2) (b := 1) (by omega) (by omega)).mp c39
          refine go_aload_n dX12_layMost_42 rfl ?_
          refine go_get dX12_layMost_43 fl_X12_68_12 mo_obj hq (by omega) rfl ?_
          refine go_iload_n dX12_layMost_46 rfl ?_
          refine go_iald dX12_layMost_47 (mo_arr 20 (by decide)) (by omega) (by omega) (vp_in_nI (n := clrN (i + 1) (lowN (i + 1))) (by show clrN (i + 1) (lowN (i + 1)) < 256; omega) (by decide)) ?_
          refine go_tp (z := moT A N (A 20) i (clrN (i + 1) (lowN (i + 1)))) (by rw [nI_clamp (by omega)]; rfl) ?_
          refine go_goto dX12_layMost_48 ?_
          refine go_istore (ls' := [some (.ref q), some (.int (nI (i + 1))), some (.int (nI (lowN (i + 1)))), some (.int (nI (clrN (i + 1) (lowN (i + 1))))), some (.int (moT A N (A 20) i (clrN (i + 1) (lowN (i + 1))))), none]) dX12_layMost_52 ⟨by decide, rfl, rfl⟩ ?_
          refine go_iload_n dX12_layMost_54 rfl ?_
          refine go_iconst (v := 1) dX12_layMost_55 rfl ?_
          refine go_iadd dX12_layMost_56 ?_
          refine go_tp (z := nI ((lowN (i + 1)) + 1)) (nI_add (lowN (i + 1)) 1) ?_
          refine go_istore (ls' := [some (.ref q), some (.int (nI (i + 1))), some (.int (nI (lowN (i + 1)))), some (.int (nI (clrN (i + 1) (lowN (i + 1))))), some (.int (moT A N (A 20) i (clrN (i + 1) (lowN (i + 1))))), some (.int (nI ((lowN (i + 1)) + 1)))]) dX12_layMost_57 ⟨by decide, rfl, rfl⟩ ?_
          have lp1 : ∀ (μ_lp1 : Nat) (a5 : Nat) (x : Int32) (ha5 : lowN (i + 1) + 1 + a5 ≤ N ∨ a5 = 0) (hm5 : N + 1 ≤ a5 + μ_lp1) (hx : x = mfU A (moT A N (A 20) i) (lowN (i + 1)) (clrN (i + 1) (lowN (i + 1))) (if popN (i + 1) % 2 = 1 then moT A N (A 20) i (clrN (i + 1) (lowN (i + 1))) else -1) a5), Go G mX12_layMost 4 0 0 Q9 0 0 59 [some (.ref q), some (.int (nI (i + 1))), some (.int (nI (lowN (i + 1)))), some (.int (nI (clrN (i + 1) (lowN (i + 1))))), some (.int x), some (.int (nI (lowN (i + 1) + 1 + a5)))] [] (mo G m0 q F (moA N A i) L K) n := by
            intro μ_lp1
            induction μ_lp1 with
            | zero =>
              intro a5 x ha5 hm5 hx
              exact absurd hm5 (by omega)
            | succ μ_lp1 ih_lp1 =>
              intro a5 x ha5 hm5 hx
              refine go_iload dX12_layMost_59 rfl ?_
              refine go_aload_n dX12_layMost_61 rfl ?_
              refine go_get dX12_layMost_62 fl_X12_87_12 mo_obj hq (by omega) rfl ?_
              refine go_tp (z := nI N) (hN) ?_
              refine go_icmp_ge dX12_layMost_65 (fun c65 => ?_) (fun c65 => ?_)
              · have c65n := (nI_leI (a := N) (b := lowN (i + 1) + 1 + a5) (by omega) (by omega)).mp c65
                have c65n := Nat.not_lt.mpr c65n
                have c65 := Int32.not_lt.mpr c65
                refine go_aload_n dX12_layMost_111 rfl ?_
                refine go_get dX12_layMost_112 fl_X12_68_12 mo_obj hq (by omega) rfl ?_
                refine go_iload_n dX12_layMost_115 rfl ?_
                refine go_iload dX12_layMost_116 rfl ?_
                refine go_iast dX12_layMost_118 (mo_arr 20 (by decide)) (by omega) (by omega) (vp_in_nI (n := i + 1) (by show i + 1 < 256; omega) (by decide)) ?_
                refine go_mem (mo_setA 20 (by decide) _ _) ?_
                rw [nI_clamp (by omega)]
                refine go_iinc (v := nI ((i + 1) + 1)) (ls' := [some (.ref q), some (.int (nI ((i + 1) + 1))), some (.int (nI (lowN (i + 1)))), some (.int (nI (clrN (i + 1) (lowN (i + 1))))), some (.int x), some (.int (nI (lowN (i + 1) + 1 + a5)))]) dX12_layMost_119 rfl (nI_1 (i + 1)) ⟨by decide, rfl, rfl⟩ ?_
                refine go_goto dX12_layMost_122 ?_
                refine go_weak (ls' := [some (.ref q), some (.int (nI ((i + 1) + 1))), none, none, none, none]) ⟨rfl, rfl, trivial⟩ ?_
                refine go_mem (f' := (mo G m0 q F (moA N A (i + 1)) L K)) (moA_sm (by rw [hx, show a5 = N - (lowN (i + 1) + 1) by omega]; rfl)) ?_
                exact ih_lp0 (i + 1) (by omega) (by omega)
              · have c65n := mt (nI_leI (a := N) (b := lowN (i + 1) + 1 + a5) (by omega) (by omega)).mpr c65
                have c65n := Nat.lt_of_not_le c65n
                have c65 := Int32.not_le.mp c65
                refine go_iload_n dX12_layMost_68 rfl ?_
                refine go_iload dX12_layMost_69 rfl ?_
                refine go_Sr [.int (nI (clrN (i + 1) (lowN (i + 1)))), .int (nI (lowN (i + 1) + 1 + a5))] [] dX12_layMost_71 sl_X12_245 ⟨by decide, by decide⟩ (e_X12_hasBit) rfl rfl (Nat.le_of_ble_eq_true rfl) (Nat.le_of_ble_eq_true rfl) (Nat.le_of_ble_eq_true rfl) ?_
                refine go_tp (z := if Nat.testBit (clrN (i + 1) (lowN (i + 1))) (lowN (i + 1) + 1 + a5) then 1 else 0) (by rw [bit_t _ (by omega) _ (by omega)]) ?_
                refine go_if_eq dX12_layMost_74 (fun c74 => ?_) (fun c74 => ?_)
                · have c74 := bz_f c74
                  refine go_iinc (v := nI ((lowN (i + 1) + 1 + a5) + 1)) (ls' := [some (.ref q), some (.int (nI (i + 1))), some (.int (nI (lowN (i + 1)))), some (.int (nI (clrN (i + 1) (lowN (i + 1))))), some (.int x), some (.int (nI ((lowN (i + 1) + 1 + a5) + 1)))]) dX12_layMost_105 rfl (nI_1 (lowN (i + 1) + 1 + a5)) ⟨by decide, rfl, rfl⟩ ?_
                  refine go_goto dX12_layMost_108 ?_
                  exact ih_lp1 (a5 + 1) _ (by omega) (by omega) (by simp [mfU, moA, hx, c74])
                · have c74 := bz_t c74
                  refine go_iload dX12_layMost_77 rfl ?_
                  refine go_aload_n dX12_layMost_79 rfl ?_
                  refine go_iload_n dX12_layMost_80 rfl ?_
                  refine go_iload dX12_layMost_81 rfl ?_
                  refine go_Vr [.int (nI (lowN (i + 1))), .int (nI (lowN (i + 1) + 1 + a5))] [.int x] dX12_layMost_83 vl_X12_254 ⟨by decide, by decide⟩ (e_X12_likingOf (F := F) (A := (moA N A i)) (L := L) (K := K) hq hn (by omega) (by omega)) mo_obj hq (by omega) rfl rfl (Nat.le_of_ble_eq_true rfl) (Nat.le_of_ble_eq_true rfl) (Nat.le_of_ble_eq_true rfl) ?_
                  refine go_tp (z := likS A (lowN (i + 1)) (lowN (i + 1) + 1 + a5)) (rfl) ?_
                  refine go_aload_n dX12_layMost_86 rfl ?_
                  refine go_get dX12_layMost_87 fl_X12_68_12 mo_obj hq (by omega) rfl ?_
                  refine go_iload_n dX12_layMost_90 rfl ?_
                  refine go_iconst (v := 1) dX12_layMost_91 rfl ?_
                  refine go_iload dX12_layMost_92 rfl ?_
                  refine go_ishl dX12_layMost_94 ?_
                  refine go_iconst (v := (-1)) dX12_layMost_95 rfl ?_
                  refine go_ixor dX12_layMost_96 ?_
                  refine go_iand dX12_layMost_97 ?_
                  refine go_tp (z := nI (clrN (clrN (i + 1) (lowN (i + 1))) (lowN (i + 1) + 1 + a5))) (clr_i (clrN (i + 1) (lowN (i + 1))) (by omega) (lowN (i + 1) + 1 + a5) (by omega)) ?_
                  have hc97_16 : clrN (clrN (i + 1) (lowN (i + 1))) (lowN (i + 1) + 1 + a5) < 256 := clr_lt (by omega)
                  refine go_iald dX12_layMost_98 (mo_arr 20 (by decide)) (by omega) (by omega) (vp_in_nI (n := clrN (clrN (i + 1) (lowN (i + 1))) (lowN (i + 1) + 1 + a5)) (by show clrN (clrN (i + 1) (lowN (i + 1))) (lowN (i + 1) + 1 + a5) < 256; omega) (by decide)) ?_
                  refine go_tp (z := moT A N (A 20) i (clrN (clrN (i + 1) (lowN (i + 1))) (lowN (i + 1) + 1 + a5))) (by rw [nI_clamp (by omega)]; rfl) ?_
                  refine go_iadd dX12_layMost_99 ?_
                  refine go_Sr [.int x, .int ((likS A (lowN (i + 1)) (lowN (i + 1) + 1 + a5)) + (moT A N (A 20) i (clrN (clrN (i + 1) (lowN (i + 1))) (lowN (i + 1) + 1 + a5))))] [] dX12_layMost_100 sl_X12_105 ⟨by decide, by decide⟩ (e_X12_greater) rfl rfl (Nat.le_of_ble_eq_true rfl) (Nat.le_of_ble_eq_true rfl) (Nat.le_of_ble_eq_true rfl) ?_
                  refine go_istore (ls' := [some (.ref q), some (.int (nI (i + 1))), some (.int (nI (lowN (i + 1)))), some (.int (nI (clrN (i + 1) (lowN (i + 1))))), some (.int (grS (x) ((likS A (lowN (i + 1)) (lowN (i + 1) + 1 + a5)) + (moT A N (A 20) i (clrN (clrN (i + 1) (lowN (i + 1))) (lowN (i + 1) + 1 + a5)))))), some (.int (nI (lowN (i + 1) + 1 + a5)))]) dX12_layMost_103 ⟨by decide, rfl, rfl⟩ ?_
                  refine go_iinc (v := nI ((lowN (i + 1) + 1 + a5) + 1)) (ls' := [some (.ref q), some (.int (nI (i + 1))), some (.int (nI (lowN (i + 1)))), some (.int (nI (clrN (i + 1) (lowN (i + 1))))), some (.int (grS (x) ((likS A (lowN (i + 1)) (lowN (i + 1) + 1 + a5)) + (moT A N (A 20) i (clrN (clrN (i + 1) (lowN (i + 1))) (lowN (i + 1) + 1 + a5)))))), some (.int (nI ((lowN (i + 1) + 1 + a5) + 1)))]) dX12_layMost_105 rfl (nI_1 (lowN (i + 1) + 1 + a5)) ⟨by decide, rfl, rfl⟩ ?_
                  refine go_goto dX12_layMost_108 ?_
                  exact ih_lp1 (a5 + 1) _ (by omega) (by omega) (by simp [mfU, moA, hx, c74])
          exact lp1 (N + 1) 0 _ (by omega) (by omega) (by simp [mfU, moA, c39, c39n])
  refine go_mem (f' := (mo G m0 q F (moA N A 0) L K)) (by rw [moA_0 (N := N)]) ?_
  exact lp0 256 0 (by omega) (by omega)
end M10
