section M11
variable {G : GX} {m0 f : Mem} {q n N M : Nat} {F : Nat → Int32} {A : Nat → Nat → Int32} {L : Nat → Nat → Int64} {K : Option Nat}
set_option maxHeartbeats 4000000 in
set_option maxRecDepth 100000 in
theorem e_X12_layBest (hq : G.2.1 ≤ q) (hn : q + 25 ≤ n) (hN : F 0 = nI N) (hN8 : N ≤ 8) : Ev G mX12_layBest 5 0 0 [.ref q] (mo G m0 q F A L K) n (fun r f1 n1 => (r = none ∧ f1 = mo G m0 q F (lbA N A (bsM N A)) L K ∧ n1 = n) ∧ mtOK N (bsM N A)) := by
  generalize hQ9 : (fun r f1 n1 => (r = none ∧ f1 = mo G m0 q F (lbA N A (bsM N A)) L K ∧ n1 = n) ∧ mtOK N (bsM N A) : RQ) = Q9
  refine ev_of (by decide) (Nat.le_of_ble_eq_true rfl) (ls := [some (.ref q), none, none, none, none, none, none]) rfl (fun hb => ?_)
  have hp2 := pw8 hN8
  have hp1 := pw1 N
  refine go_aload_n dX12_layBest_0 rfl ?_
  refine go_V [] [] dX12_layBest_1 vl_X12_257 ⟨by decide, by decide⟩ (e_X12_layMost (F := F) (A := A) (L := L) (K := K) hq hn hN hN8) mo_obj hq (by omega) rfl rfl (Nat.le_of_ble_eq_true rfl) (Nat.le_of_ble_eq_true rfl) (Nat.le_of_ble_eq_true rfl) (fun r1 f1 n1 h1 => ?_)
  obtain ⟨rfl, rfl, hn1⟩ := h1
  subst n1
  refine go_iconst (v := 1) dX12_layBest_4 rfl ?_
  refine go_aload_n dX12_layBest_5 rfl ?_
  refine go_get dX12_layBest_6 fl_X12_87_12 mo_obj hq (by omega) rfl ?_
  refine go_tp (z := nI N) (hN) ?_
  refine go_ishl dX12_layBest_9 ?_
  refine go_tp (z := nI (2 ^ N)) (sh1 N (by omega)) ?_
  refine go_iconst (v := 1) dX12_layBest_10 rfl ?_
  refine go_isub dX12_layBest_11 ?_
  refine go_tp (z := nI (2 ^ N - 1)) (full_i N (by omega)) ?_
  refine go_istore_n (ls' := [some (.ref q), some (.int (nI (2 ^ N - 1))), none, none, none, none, none]) dX12_layBest_12 ⟨by decide, rfl, rfl⟩ ?_
  have lp0 : ∀ (μ_lp0 : Nat) (f z : Nat) (ma : Nat → Int32) (hz : z ≤ f) (hz2 : z < 2 ^ N) (hmz : z + 1 ≤ μ_lp0) (hx : lbM A N (bsT N A) 256 (2 ^ N - 1) (A 19) = lbM A N (bsT N A) f z ma) (hok : lbI N z ma), Go G mX12_layBest 5 0 0 Q9 0 0 13 [some (.ref q), some (.int (nI z)), none, none, none, none, none] [] (mo G m0 q F (lbA N A ma) L K) n := by
    intro μ_lp0
    induction μ_lp0 with
    | zero =>
      intro f z ma hz hz2 hmz hx hok
      exact absurd hmz (by omega)
    | succ μ_lp0 ih_lp0 =>
      intro f z ma hz hz2 hmz hx hok
      refine go_iload_n dX12_layBest_13 rfl ?_
      refine go_if_eq dX12_layBest_14 (fun c14 => ?_) (fun c14 => ?_)
      · have c14n := (n0_eq (a := z) (by omega)).mp c14
        exact go_vret dX12_layBest_149 rfl (Nat.le_of_ble_eq_true rfl) (Nat.le_of_ble_eq_true rfl) (hQ9 ▸ ⟨⟨rfl, by unfold bsM; rw [hx, c14n, lbM_z], rfl⟩, fun p hp => by unfold bsM; rw [hx, c14n, lbM_z]; exact hok p hp (by rw [c14n]; exact Nat.zero_testBit p)⟩)
      · have c14n := mt (n0_eq (a := z) (by omega)).mpr c14
        obtain ⟨g, rfl⟩ : ∃ g, f = g + 1 := ⟨f - 1, by omega⟩
        have hlw := (low_in z (by omega) (by omega)).1
        have hlN := low_N N hN8 z (by omega) (by omega)
        have hlt := clr_s (low_in z (by omega) (by omega)).2
        refine go_iload_n dX12_layBest_17 rfl ?_
        have hl18 := (low_in z (by omega) (by omega)).1
        refine go_Sr [.int (nI z)] [] dX12_layBest_18 sl_X12_248 ⟨by decide, by decide⟩ (e_X12_lowest (by omega) (by omega)) rfl rfl (Nat.le_of_ble_eq_true rfl) (Nat.le_of_ble_eq_true rfl) (Nat.le_of_ble_eq_true rfl) ?_
        refine go_istore_n (ls' := [some (.ref q), some (.int (nI z)), some (.int (nI (lowN z))), none, none, none, none]) dX12_layBest_21 ⟨by decide, rfl, rfl⟩ ?_
        refine go_iload_n dX12_layBest_22 rfl ?_
        refine go_iconst (v := 1) dX12_layBest_23 rfl ?_
        refine go_iload_n dX12_layBest_24 rfl ?_
        refine go_ishl dX12_layBest_25 ?_
        refine go_iconst (v := (-1)) dX12_layBest_26 rfl ?_
        refine go_ixor dX12_layBest_27 ?_
        refine go_iand dX12_layBest_28 ?_
        refine go_tp (z := nI (clrN z (lowN z))) (clr_i z (by omega) (lowN z) (by omega)) ?_
        have hc28_12 : clrN z (lowN z) < 256 := clr_lt (by omega)
        refine go_istore_n (ls' := [some (.ref q), some (.int (nI z)), some (.int (nI (lowN z))), some (.int (nI (clrN z (lowN z)))), none, none, none]) dX12_layBest_29 ⟨by decide, rfl, rfl⟩ ?_
        refine go_bipush (v := (-4)) dX12_layBest_30 rfl ?_
        refine go_istore (ls' := [some (.ref q), some (.int (nI z)), some (.int (nI (lowN z))), some (.int (nI (clrN z (lowN z)))), some (.int (-4)), none, none]) dX12_layBest_32 ⟨by decide, rfl, rfl⟩ ?_
        refine go_aload_n dX12_layBest_34 rfl ?_
        refine go_get dX12_layBest_35 fl_X12_87_12 mo_obj hq (by omega) rfl ?_
        refine go_tp (z := nI N) (hN) ?_
        refine go_iconst (v := 1) dX12_layBest_38 rfl ?_
        refine go_isub dX12_layBest_39 ?_
        refine go_istore (ls' := [some (.ref q), some (.int (nI z)), some (.int (nI (lowN z))), some (.int (nI (clrN z (lowN z)))), some (.int (-4)), some (.int ((nI N) - 1)), none]) dX12_layBest_40 ⟨by decide, rfl, rfl⟩ ?_
        have lp1 : ∀ (μ_lp1 : Nat) (k : Nat) (x : Int32) (hlk : (lowN z) + 1 ≤ k) (hk : k ≤ N) (hmk : k + 1 ≤ μ_lp1) (hxa : x = fsB (lbP A (bsT N A) z) k (N - k)), Go G mX12_layBest 5 0 0 Q9 0 0 42 [some (.ref q), some (.int (nI z)), some (.int (nI (lowN z))), some (.int (nI (clrN z (lowN z)))), some (.int x), some (.int (nI k - 1)), none] [] (mo G m0 q F (lbA N A ma) L K) n := by
          intro μ_lp1
          induction μ_lp1 with
          | zero =>
            intro k x hlk hk hmk hxa
            exact absurd hmk (by omega)
          | succ μ_lp1 ih_lp1 =>
            intro k x hlk hk hmk hxa
            rcases Nat.lt_or_ge ((lowN z) + 1) k with hzk | hzk
            rotate_left
            · obtain rfl : k = (lowN z) + 1 := by omega
              refine go_ls (ls' := [some (.ref q), some (.int (nI z)), some (.int (nI (lowN z))), some (.int (nI (clrN z (lowN z)))), some (.int x), some (.int (nI ((lowN z)))), none]) (by rw [nI_pred]) ?_
              refine go_iload dX12_layBest_42 rfl ?_
              refine go_iload_n dX12_layBest_44 rfl ?_
              refine go_icmp_le dX12_layBest_45 (fun c45 => ?_) (fun c45 => ?_)
              · have c45n := (nI_leI (a := (lowN z)) (b := lowN z) (by omega) (by omega)).mp c45
                have c45n := Nat.not_lt.mpr c45n
                have c45 := Int32.not_lt.mpr c45
                have hxl : x = lbX A N (bsT N A) z := by rw [hxa]; rfl
                refine go_aload_n dX12_layBest_114 rfl ?_
                refine go_get dX12_layBest_115 fl_X12_65_12 mo_obj hq (by omega) rfl ?_
                refine go_iload_n dX12_layBest_118 rfl ?_
                refine go_iload dX12_layBest_119 rfl ?_
                refine go_iast dX12_layBest_121 (mo_arr 19 (by decide)) (by omega) (by omega) (vp_in_nI (n := lowN z) (by show lowN z < 8; omega) (by decide)) ?_
                refine go_mem (mo_setA 19 (by decide) _ _) ?_
                rw [nI_clamp (by omega)]
                refine go_iload_n dX12_layBest_122 rfl ?_
                refine go_istore_n (ls' := [some (.ref q), some (.int (nI (clrN z (lowN z)))), some (.int (nI (lowN z))), some (.int (nI (clrN z (lowN z)))), some (.int x), some (.int (nI ((lowN z)))), none]) dX12_layBest_123 ⟨by decide, rfl, rfl⟩ ?_
                refine go_iload dX12_layBest_124 rfl ?_
                refine go_if_lt dX12_layBest_126 (fun c126 => ?_) (fun c126 => ?_)
                · refine go_goto dX12_layBest_146 ?_
                  refine go_weak (ls' := [some (.ref q), some (.int (nI (clrN z (lowN z)))), none, none, none, none, none]) ⟨rfl, rfl, trivial⟩ ?_
                  refine go_mem (f' := (mo G m0 q F (lbA N A (fun i => if i = lowN z then x else ma i)) L K)) (by rw [lbA_s]) ?_
                  exact ih_lp0 g _ _ (by omega) (by omega) (by omega) (by rw [hx, hxl, lbM_n (by omega) (hxl ▸ c126)]) (lbI_n hN8 (by omega) (by omega) c126 hok)
                · obtain ⟨o, ho1, ho2, ho3, hxo⟩ := lbX_nI (A := A) (T := bsT N A) hN8 (by omega) (by omega) (hxl ▸ c126)
                  rw [hxl, hxo]
                  have hxl := hxo
                  have hcl := clr_les (s := clrN z (lowN z)) (a := o)
                  refine go_aload_n dX12_layBest_129 rfl ?_
                  refine go_get dX12_layBest_130 fl_X12_65_12 mo_obj hq (by omega) rfl ?_
                  refine go_iload dX12_layBest_133 rfl ?_
                  refine go_iload_n dX12_layBest_135 rfl ?_
                  refine go_iast dX12_layBest_136 (mo_arr 19 (by decide)) (by omega) (by omega) (vp_in_nI (n := o) (by show o < 8; omega) (by decide)) ?_
                  refine go_mem (mo_setA 19 (by decide) _ _) ?_
                  rw [nI_clamp (by omega)]
                  refine go_iload_n dX12_layBest_137 rfl ?_
                  refine go_iconst (v := 1) dX12_layBest_138 rfl ?_
                  refine go_iload dX12_layBest_139 rfl ?_
                  refine go_ishl dX12_layBest_141 ?_
                  refine go_iconst (v := (-1)) dX12_layBest_142 rfl ?_
                  refine go_ixor dX12_layBest_143 ?_
                  refine go_iand dX12_layBest_144 ?_
                  refine go_tp (z := nI (clrN (clrN z (lowN z)) o)) (clr_i (clrN z (lowN z)) (by omega) o (by omega)) ?_
                  have hc144_15 : clrN (clrN z (lowN z)) o < 256 := clr_lt (by omega)
                  refine go_istore_n (ls' := [some (.ref q), some (.int (nI (clrN (clrN z (lowN z)) o))), some (.int (nI (lowN z))), some (.int (nI (clrN z (lowN z)))), some (.int (nI o)), some (.int (nI ((lowN z)))), none]) dX12_layBest_145 ⟨by decide, rfl, rfl⟩ ?_
                  refine go_goto dX12_layBest_146 ?_
                  refine go_weak (ls' := [some (.ref q), some (.int (nI (clrN (clrN z (lowN z)) o))), none, none, none, none, none]) ⟨rfl, rfl, trivial⟩ ?_
                  refine go_mem (f' := (mo G m0 q F (lbA N A (fun i => if i = o then nI (lowN z) else if i = lowN z then nI o else ma i)) L K)) (by rw [lbA_s, lbA_s]) ?_
                  exact ih_lp0 g _ _ (by omega) (by omega) (by omega) (by rw [hx, lbM_p (by omega) hxl (by omega)]) (lbI_p hN8 (by omega) (by omega) (by omega) hok)
              · have c45n := mt (nI_leI (a := (lowN z)) (b := lowN z) (by omega) (by omega)).mpr c45
                have c45n := Nat.lt_of_not_le c45n
                have c45 := Int32.not_le.mp c45
                omega
            · obtain ⟨k, rfl⟩ : ∃ z, k = z + 1 := ⟨k - 1, by omega⟩
              refine go_ls (ls' := [some (.ref q), some (.int (nI z)), some (.int (nI (lowN z))), some (.int (nI (clrN z (lowN z)))), some (.int x), some (.int (nI k)), none]) (by rw [nI_pred]) ?_
              refine go_iload dX12_layBest_42 rfl ?_
              refine go_iload_n dX12_layBest_44 rfl ?_
              refine go_icmp_le dX12_layBest_45 (fun c45 => ?_) (fun c45 => ?_)
              · have c45n := (nI_leI (a := k) (b := lowN z) (by omega) (by omega)).mp c45
                have c45n := Nat.not_lt.mpr c45n
                have c45 := Int32.not_lt.mpr c45
                omega
              · have c45n := mt (nI_leI (a := k) (b := lowN z) (by omega) (by omega)).mpr c45
                have c45n := Nat.lt_of_not_le c45n
                have c45 := Int32.not_le.mp c45
                refine go_iload_n dX12_layBest_48 rfl ?_
                refine go_iload dX12_layBest_49 rfl ?_
                refine go_Sr [.int (nI (clrN z (lowN z))), .int (nI k)] [] dX12_layBest_51 sl_X12_245 ⟨by decide, by decide⟩ (e_X12_hasBit) rfl rfl (Nat.le_of_ble_eq_true rfl) (Nat.le_of_ble_eq_true rfl) (Nat.le_of_ble_eq_true rfl) ?_
                refine go_tp (z := if Nat.testBit (clrN z (lowN z)) k then 1 else 0) (by rw [bit_t _ (by omega) _ (by omega)]) ?_
                refine go_if_eq dX12_layBest_54 (fun c54 => ?_) (fun c54 => ?_)
                · have c54 := bz_f c54
                  refine go_iconst (v := 0) dX12_layBest_91 rfl ?_
                  refine go_istore (ls' := [some (.ref q), some (.int (nI z)), some (.int (nI (lowN z))), some (.int (nI (clrN z (lowN z)))), some (.int x), some (.int (nI k)), some (.int 0)]) dX12_layBest_92 ⟨by decide, rfl, rfl⟩ ?_
                  refine go_iload dX12_layBest_94 rfl ?_
                  refine go_if_eq dX12_layBest_96 (fun c96 => ?_) (fun c96 => ?_)
                  · have c96n := (n0_eq (a := 0) (by omega)).mp c96
                    refine go_iload dX12_layBest_104 rfl ?_
                    refine go_istore (ls' := [some (.ref q), some (.int (nI z)), some (.int (nI (lowN z))), some (.int (nI (clrN z (lowN z)))), some (.int x), some (.int (nI k)), some (.int 0)]) dX12_layBest_106 ⟨by decide, rfl, rfl⟩ ?_
                    refine go_iinc (v := (nI k) - 1) (ls' := [some (.ref q), some (.int (nI z)), some (.int (nI (lowN z))), some (.int (nI (clrN z (lowN z)))), some (.int x), some (.int ((nI k) - 1)), some (.int 0)]) dX12_layBest_108 rfl (i32_m1 _) ⟨by decide, rfl, rfl⟩ ?_
                    refine go_goto dX12_layBest_111 ?_
                    refine go_weak (ls' := [some (.ref q), some (.int (nI z)), some (.int (nI (lowN z))), some (.int (nI (clrN z (lowN z)))), some (.int x), some (.int ((nI k) - 1)), none]) ⟨rfl, rfl, rfl, rfl, rfl, rfl, trivial⟩ ?_
                    exact ih_lp1 k _ (by omega) (by omega) (by omega) (by rw [fsB_d (by omega)]; simp [lbP, ← hxa, c14, c14n, c45, c45n, c54])
                  · have c96n := mt (n0_eq (a := 0) (by omega)).mpr c96
                    first | exact absurd c96n (by decide) | exact absurd (by decide) c96n | exact absurd rfl c96n | omega
                · have c54 := bz_t c54
                  refine go_aload_n dX12_layBest_57 rfl ?_
                  refine go_iload_n dX12_layBest_58 rfl ?_
                  refine go_iload dX12_layBest_59 rfl ?_
                  refine go_Vr [.int (nI (lowN z)), .int (nI k)] [] dX12_layBest_61 vl_X12_254 ⟨by decide, by decide⟩ (e_X12_likingOf (F := F) (A := (lbA N A ma)) (L := L) (K := K) hq hn (by omega) (by omega)) mo_obj hq (by omega) rfl rfl (Nat.le_of_ble_eq_true rfl) (Nat.le_of_ble_eq_true rfl) (Nat.le_of_ble_eq_true rfl) ?_
                  refine go_tp (z := likS A (lowN z) k) (rfl) ?_
                  refine go_aload_n dX12_layBest_64 rfl ?_
                  refine go_get dX12_layBest_65 fl_X12_68_12 mo_obj hq (by omega) rfl ?_
                  refine go_iload_n dX12_layBest_68 rfl ?_
                  refine go_iconst (v := 1) dX12_layBest_69 rfl ?_
                  refine go_iload dX12_layBest_70 rfl ?_
                  refine go_ishl dX12_layBest_72 ?_
                  refine go_iconst (v := (-1)) dX12_layBest_73 rfl ?_
                  refine go_ixor dX12_layBest_74 ?_
                  refine go_iand dX12_layBest_75 ?_
                  refine go_tp (z := nI (clrN (clrN z (lowN z)) k)) (clr_i (clrN z (lowN z)) (by omega) k (by omega)) ?_
                  have hc75_15 : clrN (clrN z (lowN z)) k < 256 := clr_lt (by omega)
                  refine go_iald dX12_layBest_76 (mo_arr 20 (by decide)) (by omega) (by omega) (vp_in_nI (n := clrN (clrN z (lowN z)) k) (by show clrN (clrN z (lowN z)) k < 256; omega) (by decide)) ?_
                  refine go_tp (z := bsT N A (clrN (clrN z (lowN z)) k)) (by rw [nI_clamp (by omega)]; rfl) ?_
                  refine go_iadd dX12_layBest_77 ?_
                  refine go_aload_n dX12_layBest_78 rfl ?_
                  refine go_get dX12_layBest_79 fl_X12_68_12 mo_obj hq (by omega) rfl ?_
                  refine go_iload_n dX12_layBest_82 rfl ?_
                  refine go_iald dX12_layBest_83 (mo_arr 20 (by decide)) (by omega) (by omega) (vp_in_nI (n := z) (by show z < 256; omega) (by decide)) ?_
                  refine go_tp (z := bsT N A z) (by rw [nI_clamp (by omega)]; rfl) ?_
                  refine go_icmp_ne dX12_layBest_84 (fun c84 => ?_) (fun c84 => ?_)
                  · refine go_iconst (v := 0) dX12_layBest_91 rfl ?_
                    refine go_istore (ls' := [some (.ref q), some (.int (nI z)), some (.int (nI (lowN z))), some (.int (nI (clrN z (lowN z)))), some (.int x), some (.int (nI k)), some (.int 0)]) dX12_layBest_92 ⟨by decide, rfl, rfl⟩ ?_
                    refine go_iload dX12_layBest_94 rfl ?_
                    refine go_if_eq dX12_layBest_96 (fun c96 => ?_) (fun c96 => ?_)
                    · have c96n := (n0_eq (a := 0) (by omega)).mp c96
                      refine go_iload dX12_layBest_104 rfl ?_
                      refine go_istore (ls' := [some (.ref q), some (.int (nI z)), some (.int (nI (lowN z))), some (.int (nI (clrN z (lowN z)))), some (.int x), some (.int (nI k)), some (.int 0)]) dX12_layBest_106 ⟨by decide, rfl, rfl⟩ ?_
                      refine go_iinc (v := (nI k) - 1) (ls' := [some (.ref q), some (.int (nI z)), some (.int (nI (lowN z))), some (.int (nI (clrN z (lowN z)))), some (.int x), some (.int ((nI k) - 1)), some (.int 0)]) dX12_layBest_108 rfl (i32_m1 _) ⟨by decide, rfl, rfl⟩ ?_
                      refine go_goto dX12_layBest_111 ?_
                      refine go_weak (ls' := [some (.ref q), some (.int (nI z)), some (.int (nI (lowN z))), some (.int (nI (clrN z (lowN z)))), some (.int x), some (.int ((nI k) - 1)), none]) ⟨rfl, rfl, rfl, rfl, rfl, rfl, trivial⟩ ?_
                      exact ih_lp1 k _ (by omega) (by omega) (by omega) (by rw [fsB_d (by omega)]; simp [lbP, ← hxa, c14, c14n, c45, c45n, c54, c84])
                    · have c96n := mt (n0_eq (a := 0) (by omega)).mpr c96
                      first | exact absurd c96n (by decide) | exact absurd (by decide) c96n | exact absurd rfl c96n | omega
                  · refine go_iconst (v := 1) dX12_layBest_87 rfl ?_
                    refine go_goto dX12_layBest_88 ?_
                    refine go_istore (ls' := [some (.ref q), some (.int (nI z)), some (.int (nI (lowN z))), some (.int (nI (clrN z (lowN z)))), some (.int x), some (.int (nI k)), some (.int 1)]) dX12_layBest_92 ⟨by decide, rfl, rfl⟩ ?_
                    refine go_iload dX12_layBest_94 rfl ?_
                    refine go_if_eq dX12_layBest_96 (fun c96 => ?_) (fun c96 => ?_)
                    · have c96n := (n0_eq (a := 1) (by omega)).mp c96
                      first | exact absurd c96n (by decide) | exact absurd (by decide) c96n | exact absurd rfl c96n | omega
                    · have c96n := mt (n0_eq (a := 1) (by omega)).mpr c96
                      refine go_iload dX12_layBest_99 rfl ?_
                      refine go_goto dX12_layBest_101 ?_
                      refine go_istore (ls' := [some (.ref q), some (.int (nI z)), some (.int (nI (lowN z))), some (.int (nI (clrN z (lowN z)))), some (.int (nI k)), some (.int (nI k)), some (.int 1)]) dX12_layBest_106 ⟨by decide, rfl, rfl⟩ ?_
                      refine go_iinc (v := (nI k) - 1) (ls' := [some (.ref q), some (.int (nI z)), some (.int (nI (lowN z))), some (.int (nI (clrN z (lowN z)))), some (.int (nI k)), some (.int ((nI k) - 1)), some (.int 1)]) dX12_layBest_108 rfl (i32_m1 _) ⟨by decide, rfl, rfl⟩ ?_
                      refine go_goto dX12_layBest_111 ?_
                      refine go_weak (ls' := [some (.ref q), some (.int (nI z)), some (.int (nI (lowN z))), some (.int (nI (clrN z (lowN z)))), some (.int (nI k)), some (.int ((nI k) - 1)), none]) ⟨rfl, rfl, rfl, rfl, rfl, rfl, trivial⟩ ?_
                      exact ih_lp1 k _ (by omega) (by omega) (by omega) (by rw [fsB_d (by omega)]; simp [lbP, ← hxa, c14, c14n, c45, c45n, c54, c84])
        exact lp1 (N + 1) N _ (by omega) (Nat.le_refl _) (Nat.le_refl _) (by rw [fsB_0])
  refine go_mem (f' := (mo G m0 q F (lbA N A (A 19)) L K)) (by rw [lbA_0]) ?_
  exact lp0 257 256 (2 ^ N - 1) (A 19) (by omega) (by omega) (by omega) rfl (fun p hp ht => absurd ht (by rw [full_t N hN8 p hp]; decide))
end M11
