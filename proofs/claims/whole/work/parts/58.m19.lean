section M19
variable {G : GX} {m0 f : Mem} {q n N M : Nat} {F : Nat → Int32} {A : Nat → Nat → Int32} {L : Nat → Nat → Int64} {K : Option Nat}
set_option maxHeartbeats 4000000 in
set_option maxRecDepth 100000 in
theorem e_X12_layTwos (hq : G.2.1 ≤ q) (hn : q + 25 ≤ n) (hN : F 0 = nI N) (hN8 : N ≤ 8) {k : Nat} (hk : k < 200) : Ev G mX12_layTwos 3 0 0 [.ref q, .int (nI k)] (mo G m0 q F A L K) n (fun r f1 n1 => r = none ∧ f1 = mo G m0 q F (r19 A (ltM N 256 (2 ^ N - 1) k (A 19))) L K ∧ n1 = n) := by
  generalize hQ9 : (fun r f1 n1 => r = none ∧ f1 = mo G m0 q F (r19 A (ltM N 256 (2 ^ N - 1) k (A 19))) L K ∧ n1 = n : RQ) = Q9
  refine ev_of (by decide) (Nat.le_of_ble_eq_true rfl) (ls := [some (.ref q), some (.int (nI k)), none, none, none, none, none, none, none, none]) rfl (fun hb => ?_)
  have hp2 := pw8 hN8
  have hp1 := pw1 N
  refine go_iconst (v := 1) dX12_layTwos_0 rfl ?_
  refine go_aload_n dX12_layTwos_1 rfl ?_
  refine go_get dX12_layTwos_2 fl_X12_87_12 mo_obj hq (by omega) rfl ?_
  refine go_tp (z := nI N) (hN) ?_
  refine go_ishl dX12_layTwos_5 ?_
  refine go_tp (z := nI (2 ^ N)) (sh1 N (by omega)) ?_
  refine go_iconst (v := 1) dX12_layTwos_6 rfl ?_
  refine go_isub dX12_layTwos_7 ?_
  refine go_tp (z := nI (2 ^ N - 1)) (full_i N (by omega)) ?_
  refine go_istore_n (ls' := [some (.ref q), some (.int (nI k)), some (.int (nI (2 ^ N - 1))), none, none, none, none, none, none, none]) dX12_layTwos_8 ⟨by decide, rfl, rfl⟩ ?_
  refine go_iload_n dX12_layTwos_9 rfl ?_
  refine go_istore_n (ls' := [some (.ref q), some (.int (nI k)), some (.int (nI (2 ^ N - 1))), some (.int (nI k)), none, none, none, none, none, none]) dX12_layTwos_10 ⟨by decide, rfl, rfl⟩ ?_
  have lp0 : ∀ (μ_lp0 : Nat) (f z r : Nat) (ma : Nat → Int32) (hz : z ≤ f) (hz2 : z < 2 ^ N) (hmz : z + 1 ≤ μ_lp0) (hr : r < 200) (hx0 : ltM N 256 (2 ^ N - 1) k (A 19) = ltM N f z r ma), Go G mX12_layTwos 3 0 0 Q9 0 0 11 [some (.ref q), none, some (.int (nI z)), some (.int (nI r)), none, none, none, none, none, none] [] (mo G m0 q F (r19 A ma) L K) n := by
    intro μ_lp0
    induction μ_lp0 with
    | zero =>
      intro f z r ma hz hz2 hmz hr hx0
      exact absurd hmz (by omega)
    | succ μ_lp0 ih_lp0 =>
      intro f z r ma hz hz2 hmz hr hx0
      refine go_iload_n dX12_layTwos_11 rfl ?_
      refine go_if_eq dX12_layTwos_12 (fun c12 => ?_) (fun c12 => ?_)
      · have c12n := (n0_eq (a := z) (by omega)).mp c12
        exact go_vret dX12_layTwos_160 rfl (Nat.le_of_ble_eq_true rfl) (Nat.le_of_ble_eq_true rfl) (hQ9 ▸ ⟨rfl, by rw [hx0, c12n, ltM_z], rfl⟩)
      · have c12n := mt (n0_eq (a := z) (by omega)).mpr c12
        obtain ⟨g, rfl⟩ : ∃ g, f = g + 1 := ⟨f - 1, by omega⟩
        have hlw := (low_in z (by omega) (by omega)).1
        have hlN := low_N N hN8 z (by omega) (by omega)
        have hlt := clr_s (low_in z (by omega) (by omega)).2
        have hrr : ltR z r < 200 := by
          unfold ltR
          split
          · decide
          · exact Nat.lt_of_le_of_lt (Nat.mod_le _ _) hr
        refine go_iload_n dX12_layTwos_15 rfl ?_
        have hl16 := (low_in z (by omega) (by omega)).1
        refine go_Sr [.int (nI z)] [] dX12_layTwos_16 sl_X12_248 ⟨by decide, by decide⟩ (e_X12_lowest (by omega) (by omega)) rfl rfl (Nat.le_of_ble_eq_true rfl) (Nat.le_of_ble_eq_true rfl) (Nat.le_of_ble_eq_true rfl) ?_
        refine go_istore (ls' := [some (.ref q), none, some (.int (nI z)), some (.int (nI r)), some (.int (nI (lowN z))), none, none, none, none, none]) dX12_layTwos_19 ⟨by decide, rfl, rfl⟩ ?_
        refine go_iload_n dX12_layTwos_21 rfl ?_
        refine go_iconst (v := 1) dX12_layTwos_22 rfl ?_
        refine go_iload dX12_layTwos_23 rfl ?_
        refine go_ishl dX12_layTwos_25 ?_
        refine go_iconst (v := (-1)) dX12_layTwos_26 rfl ?_
        refine go_ixor dX12_layTwos_27 ?_
        refine go_iand dX12_layTwos_28 ?_
        refine go_tp (z := nI (clrN z (lowN z))) (clr_i z (by omega) (lowN z) (by omega)) ?_
        have hc28_12 : clrN z (lowN z) < 256 := clr_lt (by omega)
        refine go_istore_n (ls' := [some (.ref q), none, some (.int (nI (clrN z (lowN z)))), some (.int (nI r)), some (.int (nI (lowN z))), none, none, none, none, none]) dX12_layTwos_29 ⟨by decide, rfl, rfl⟩ ?_
        refine go_iload_n dX12_layTwos_30 rfl ?_
        have hp31 := pop_le (clrN z (lowN z))
        refine go_Sr [.int (nI (clrN z (lowN z)))] [] dX12_layTwos_31 sl_X12_251 ⟨by decide, by decide⟩ (e_X12_onesOf (by omega)) rfl rfl (Nat.le_of_ble_eq_true rfl) (Nat.le_of_ble_eq_true rfl) (Nat.le_of_ble_eq_true rfl) ?_
        refine go_istore (ls' := [some (.ref q), none, some (.int (nI (clrN z (lowN z)))), some (.int (nI r)), some (.int (nI (lowN z))), some (.int (nI (popN (clrN z (lowN z))))), none, none, none, none]) dX12_layTwos_34 ⟨by decide, rfl, rfl⟩ ?_
        rcases Nat.eq_zero_or_pos (popN (clrN z (lowN z))) with hp0 | hp0
        · have hR5 : ltR z r = 0 := by unfold ltR; rw [if_pos hp0]
          refine go_ls (ls' := [some (.ref q), none, some (.int (nI (clrN z (lowN z)))), some (.int (nI r)), some (.int (nI (lowN z))), some (.int 0), none, none, none, none]) (by rw [hp0]; rfl) ?_
          refine go_iload dX12_layTwos_36 rfl ?_
          refine go_iconst (v := 1) dX12_layTwos_38 rfl ?_
          refine go_isub dX12_layTwos_39 ?_
          refine go_tp (z := (-1)) (by decide) ?_
          refine go_Sr [.int (-1)] [] dX12_layTwos_40 sl_X12_265 ⟨by decide, by decide⟩ (e_X12_twosOf_m1) rfl rfl (Nat.le_of_ble_eq_true rfl) (Nat.le_of_ble_eq_true rfl) (Nat.le_of_ble_eq_true rfl) ?_
          refine go_istore (ls' := [some (.ref q), none, some (.int (nI (clrN z (lowN z)))), some (.int (nI r)), some (.int (nI (lowN z))), some (.int 0), some (.int 1), none, none, none]) dX12_layTwos_43 ⟨by decide, rfl, rfl⟩ ?_
          refine go_iload dX12_layTwos_45 rfl ?_
          refine go_if_ne dX12_layTwos_47 (fun c47 => ?_) (fun c47 => ?_)
          · have c47n := mt (n0_eq (a := 0) (by omega)).mpr c47
            first | exact absurd c47n (by decide) | exact absurd (by decide) c47n | exact absurd rfl c47n | omega
          · have c47n := (n0_eq (a := 0) (by omega)).mp c47
            refine go_iconst (v := 0) dX12_layTwos_50 rfl ?_
            refine go_goto dX12_layTwos_51 ?_
            refine go_istore (ls' := [some (.ref q), none, some (.int (nI (clrN z (lowN z)))), some (.int (nI r)), some (.int (nI (lowN z))), some (.int 0), some (.int 1), some (.int 0), none, none]) dX12_layTwos_58 ⟨by decide, rfl, rfl⟩ ?_
            refine go_iload dX12_layTwos_60 rfl ?_
            refine go_if_ne dX12_layTwos_62 (fun c62 => ?_) (fun c62 => ?_)
            · have c62n := mt (n0_eq (a := 0) (by omega)).mpr c62
              first | exact absurd c62n (by decide) | exact absurd (by decide) c62n | exact absurd rfl c62n | omega
            · have c62n := (n0_eq (a := 0) (by omega)).mp c62
              refine go_iconst (v := 0) dX12_layTwos_65 rfl ?_
              refine go_goto dX12_layTwos_66 ?_
              refine go_istore_n (ls' := [some (.ref q), none, some (.int (nI (clrN z (lowN z)))), some (.int 0), some (.int (nI (lowN z))), some (.int 0), some (.int 1), some (.int 0), none, none]) dX12_layTwos_73 ⟨by decide, rfl, rfl⟩ ?_
              refine go_bipush (v := (-4)) dX12_layTwos_74 rfl ?_
              refine go_istore (ls' := [some (.ref q), none, some (.int (nI (clrN z (lowN z)))), some (.int 0), some (.int (nI (lowN z))), some (.int 0), some (.int 1), some (.int 0), some (.int (-4)), none]) dX12_layTwos_76 ⟨by decide, rfl, rfl⟩ ?_
              refine go_iload dX12_layTwos_78 rfl ?_
              refine go_iconst (v := 1) dX12_layTwos_80 rfl ?_
              refine go_iadd dX12_layTwos_81 ?_
              refine go_tp (z := nI ((lowN z) + 1)) (nI_add (lowN z) 1) ?_
              refine go_istore (ls' := [some (.ref q), none, some (.int (nI (clrN z (lowN z)))), some (.int 0), some (.int (nI (lowN z))), some (.int 0), some (.int 1), some (.int 0), some (.int (-4)), some (.int (nI ((lowN z) + 1)))]) dX12_layTwos_82 ⟨by decide, rfl, rfl⟩ ?_
              have lp1 : ∀ (μ_lp1 : Nat) (b : Nat) (x y : Int32) (hb1 : lowN z + 1 ≤ b) (hb2 : b ≤ N) (hmb : N + 1 ≤ b + μ_lp1) (hI5 : ltI N z r b x y), Go G mX12_layTwos 3 0 0 Q9 0 0 84 [some (.ref q), none, some (.int (nI (clrN z (lowN z)))), some (.int (nI (ltR z r))), some (.int (nI (lowN z))), none, none, some (.int y), some (.int x), some (.int (nI b))] [] (mo G m0 q F (r19 A ma) L K) n := by
                intro μ_lp1
                induction μ_lp1 with
                | zero =>
                  intro b x y hb1 hb2 hmb hI5
                  exact absurd hmb (by omega)
                | succ μ_lp1 ih_lp1 =>
                  intro b x y hb1 hb2 hmb hI5
                  refine go_iload dX12_layTwos_84 rfl ?_
                  refine go_aload_n dX12_layTwos_86 rfl ?_
                  refine go_get dX12_layTwos_87 fl_X12_87_12 mo_obj hq (by omega) rfl ?_
                  refine go_tp (z := nI N) (hN) ?_
                  refine go_icmp_ge dX12_layTwos_90 (fun c90 => ?_) (fun c90 => ?_)
                  · have c90n := (nI_leI (a := N) (b := b) (by omega) (by omega)).mp c90
                    have c90n := Nat.not_lt.mpr c90n
                    have c90 := Int32.not_lt.mpr c90
                    have hxl := ltI_e hI5 (by omega)
                    refine go_aload_n dX12_layTwos_125 rfl ?_
                    refine go_get dX12_layTwos_126 fl_X12_65_12 mo_obj hq (by omega) rfl ?_
                    refine go_iload dX12_layTwos_129 rfl ?_
                    refine go_iload dX12_layTwos_131 rfl ?_
                    refine go_iast dX12_layTwos_133 (mo_arr 19 (by decide)) (by omega) (by omega) (vp_in_nI (n := lowN z) (by show lowN z < 8; omega) (by decide)) ?_
                    refine go_mem (mo_setA 19 (by decide) _ _) ?_
                    rw [nI_clamp (by omega)]
                    refine go_iload dX12_layTwos_134 rfl ?_
                    refine go_if_lt dX12_layTwos_136 (fun c136 => ?_) (fun c136 => ?_)
                    · have hx4 : x = -4 := by
                        rw [hxl] at c136 ⊢
                        exact nbF_neg _ _ _ (by omega) c136
                      refine go_goto dX12_layTwos_157 ?_
                      refine go_weak (ls' := [some (.ref q), none, some (.int (nI (clrN z (lowN z)))), some (.int (nI (ltR z r))), none, none, none, none, none, none]) ⟨rfl, rfl, rfl, trivial⟩ ?_
                      refine go_mem (f' := (mo G m0 q F (r19 A (fun i => if i = lowN z then -4 else ma i)) L K)) (by rw [r19_s, hx4]) ?_
                      exact ih_lp0 g _ (ltR z r) _ (by omega) (by omega) (by omega) hrr (by rw [hx0, ltM_n (by omega) (hxl ▸ c136)])
                    · obtain ⟨o, ho1, ho2, ho3, hxo⟩ := ltX_nI hN8 (by omega) (hxl ▸ c136)
                      rw [hxl, hxo]
                      have hxl := hxo
                      have hcl := clr_les (s := clrN z (lowN z)) (a := o)
                      refine go_aload_n dX12_layTwos_139 rfl ?_
                      refine go_get dX12_layTwos_140 fl_X12_65_12 mo_obj hq (by omega) rfl ?_
                      refine go_iload dX12_layTwos_143 rfl ?_
                      refine go_iload dX12_layTwos_145 rfl ?_
                      refine go_iast dX12_layTwos_147 (mo_arr 19 (by decide)) (by omega) (by omega) (vp_in_nI (n := o) (by show o < 8; omega) (by decide)) ?_
                      refine go_mem (mo_setA 19 (by decide) _ _) ?_
                      rw [nI_clamp (by omega)]
                      refine go_iload_n dX12_layTwos_148 rfl ?_
                      refine go_iconst (v := 1) dX12_layTwos_149 rfl ?_
                      refine go_iload dX12_layTwos_150 rfl ?_
                      refine go_ishl dX12_layTwos_152 ?_
                      refine go_iconst (v := (-1)) dX12_layTwos_153 rfl ?_
                      refine go_ixor dX12_layTwos_154 ?_
                      refine go_iand dX12_layTwos_155 ?_
                      refine go_tp (z := nI (clrN (clrN z (lowN z)) o)) (clr_i (clrN z (lowN z)) (by omega) o (by omega)) ?_
                      have hc155_15 : clrN (clrN z (lowN z)) o < 256 := clr_lt (by omega)
                      refine go_istore_n (ls' := [some (.ref q), none, some (.int (nI (clrN (clrN z (lowN z)) o))), some (.int (nI (ltR z r))), some (.int (nI (lowN z))), none, none, some (.int y), some (.int (nI o)), some (.int (nI b))]) dX12_layTwos_156 ⟨by decide, rfl, rfl⟩ ?_
                      refine go_goto dX12_layTwos_157 ?_
                      refine go_weak (ls' := [some (.ref q), none, some (.int (nI (clrN (clrN z (lowN z)) o))), some (.int (nI (ltR z r))), none, none, none, none, none, none]) ⟨rfl, rfl, rfl, trivial⟩ ?_
                      refine go_mem (f' := (mo G m0 q F (r19 A (fun i => if i = o then nI (lowN z) else if i = lowN z then nI o else ma i)) L K)) (by rw [r19_s, r19_s]) ?_
                      exact ih_lp0 g _ (ltR z r) _ (by omega) (by omega) (by omega) hrr (by rw [hx0, ltM_p (by omega) hxl (by omega)])
                  · have c90n := mt (nI_leI (a := N) (b := b) (by omega) (by omega)).mpr c90
                    have c90n := Nat.lt_of_not_le c90n
                    have c90 := Int32.not_le.mp c90
                    refine go_iload_n dX12_layTwos_93 rfl ?_
                    refine go_iload dX12_layTwos_94 rfl ?_
                    refine go_Sr [.int (nI (clrN z (lowN z))), .int (nI b)] [] dX12_layTwos_96 sl_X12_245 ⟨by decide, by decide⟩ (e_X12_hasBit) rfl rfl (Nat.le_of_ble_eq_true rfl) (Nat.le_of_ble_eq_true rfl) (Nat.le_of_ble_eq_true rfl) ?_
                    refine go_tp (z := if Nat.testBit (clrN z (lowN z)) b then 1 else 0) (by rw [bit_t _ (by omega) _ (by omega)]) ?_
                    refine go_if_eq dX12_layTwos_99 (fun c99 => ?_) (fun c99 => ?_)
                    · have c99 := bz_f c99
                      refine go_iinc (v := nI (b + 1)) (ls' := [some (.ref q), none, some (.int (nI (clrN z (lowN z)))), some (.int (nI (ltR z r))), some (.int (nI (lowN z))), none, none, some (.int y), some (.int x), some (.int (nI (b + 1)))]) dX12_layTwos_119 rfl (nI_1 (b)) ⟨by decide, rfl, rfl⟩ ?_
                      refine go_goto dX12_layTwos_122 ?_
                      exact ih_lp1 (b + 1) _ _ (by omega) (by omega) (by omega) (ltI_n hI5 (by omega) c99)
                    · have c99 := bz_t c99
                      refine go_iload dX12_layTwos_102 rfl ?_
                      refine go_if_ne dX12_layTwos_104 (fun c104 => ?_) (fun c104 => ?_)
                      · refine go_iload dX12_layTwos_112 rfl ?_
                        refine go_istore (ls' := [some (.ref q), none, some (.int (nI (clrN z (lowN z)))), some (.int (nI (ltR z r))), some (.int (nI (lowN z))), none, none, some (.int y), some (.int x), some (.int (nI b))]) dX12_layTwos_114 ⟨by decide, rfl, rfl⟩ ?_
                        refine go_iinc (v := y - 1) (ls' := [some (.ref q), none, some (.int (nI (clrN z (lowN z)))), some (.int (nI (ltR z r))), some (.int (nI (lowN z))), none, none, some (.int (y - 1)), some (.int x), some (.int (nI b))]) dX12_layTwos_116 rfl (i32_m1 _) ⟨by decide, rfl, rfl⟩ ?_
                        refine go_iinc (v := nI (b + 1)) (ls' := [some (.ref q), none, some (.int (nI (clrN z (lowN z)))), some (.int (nI (ltR z r))), some (.int (nI (lowN z))), none, none, some (.int (y - 1)), some (.int x), some (.int (nI (b + 1)))]) dX12_layTwos_119 rfl (nI_1 (b)) ⟨by decide, rfl, rfl⟩ ?_
                        refine go_goto dX12_layTwos_122 ?_
                        exact ih_lp1 (b + 1) _ _ (by omega) (by omega) (by omega) (ltI_w hI5 (by omega) hN8 c99 c104)
                      · refine go_iload dX12_layTwos_107 rfl ?_
                        refine go_goto dX12_layTwos_109 ?_
                        refine go_istore (ls' := [some (.ref q), none, some (.int (nI (clrN z (lowN z)))), some (.int (nI (ltR z r))), some (.int (nI (lowN z))), none, none, some (.int y), some (.int (nI b)), some (.int (nI b))]) dX12_layTwos_114 ⟨by decide, rfl, rfl⟩ ?_
                        refine go_iinc (v := y - 1) (ls' := [some (.ref q), none, some (.int (nI (clrN z (lowN z)))), some (.int (nI (ltR z r))), some (.int (nI (lowN z))), none, none, some (.int (y - 1)), some (.int (nI b)), some (.int (nI b))]) dX12_layTwos_116 rfl (i32_m1 _) ⟨by decide, rfl, rfl⟩ ?_
                        refine go_iinc (v := nI (b + 1)) (ls' := [some (.ref q), none, some (.int (nI (clrN z (lowN z)))), some (.int (nI (ltR z r))), some (.int (nI (lowN z))), none, none, some (.int (y - 1)), some (.int (nI b)), some (.int (nI (b + 1)))]) dX12_layTwos_119 rfl (nI_1 (b)) ⟨by decide, rfl, rfl⟩ ?_
                        refine go_goto dX12_layTwos_122 ?_
                        exact ih_lp1 (b + 1) _ _ (by omega) (by omega) (by omega) (ltI_f hI5 (by omega) hN8 c99 c104)
              refine go_weak (ls' := [some (.ref q), none, some (.int (nI (clrN z (lowN z)))), some (.int 0), some (.int (nI (lowN z))), none, none, some (.int 0), some (.int (-4)), some (.int (nI ((lowN z) + 1)))]) ⟨rfl, rfl, rfl, rfl, rfl, rfl, rfl, trivial⟩ ?_
              refine go_ls (ls' := [some (.ref q), none, some (.int (nI (clrN z (lowN z)))), some (.int (nI (ltR z r))), some (.int (nI (lowN z))), none, none, some (.int 0), some (.int (-4)), some (.int (nI ((lowN z) + 1)))]) (by rw [hR5]; rfl) ?_
              exact lp1 (N + 1) (lowN z + 1) _ _ (Nat.le_refl _) (by omega) (by omega) (Or.inl ⟨rfl, 0, by omega, rfl, by unfold ltX; rw [pop_z _ (by omega) hp0, nbF_z, nbF_z]⟩)
        · obtain ⟨o5, ho5⟩ : ∃ o5, popN (clrN z (lowN z)) = o5 + 1 := ⟨popN (clrN z (lowN z)) - 1, by omega⟩
          have hpl5 := pop_le (clrN z (lowN z))
          have htw5 := twS_le o5
          have htn5 : ¬ nI (twS o5) = 0 := fun e => by have := (nI_eq (a := twS o5) (b := 0) (by omega) (by omega)).mp e; omega
          have hR5 : ltR z r = r % twS o5 := by unfold ltR; rw [if_neg (by omega), ho5, twB_s]
          refine go_ls (ls' := [some (.ref q), none, some (.int (nI (clrN z (lowN z)))), some (.int (nI r)), some (.int (nI (lowN z))), some (.int (nI (o5 + 1))), none, none, none, none]) (by rw [ho5]) ?_
          refine go_iload dX12_layTwos_36 rfl ?_
          refine go_iconst (v := 1) dX12_layTwos_38 rfl ?_
          refine go_isub dX12_layTwos_39 ?_
          refine go_tp (z := nI o5) (nI_pred _) ?_
          have htw40 := twS_le o5
          refine go_Sr [.int (nI o5)] [] dX12_layTwos_40 sl_X12_265 ⟨by decide, by decide⟩ (e_X12_twosOf (k := o5) (by omega)) rfl rfl (Nat.le_of_ble_eq_true rfl) (Nat.le_of_ble_eq_true rfl) (Nat.le_of_ble_eq_true rfl) ?_
          refine go_istore (ls' := [some (.ref q), none, some (.int (nI (clrN z (lowN z)))), some (.int (nI r)), some (.int (nI (lowN z))), some (.int (nI (o5 + 1))), some (.int (nI (twS o5))), none, none, none]) dX12_layTwos_43 ⟨by decide, rfl, rfl⟩ ?_
          refine go_iload dX12_layTwos_45 rfl ?_
          refine go_if_ne dX12_layTwos_47 (fun c47 => ?_) (fun c47 => ?_)
          · have c47n := mt (n0_eq (a := o5 + 1) (by omega)).mpr c47
            refine go_iload_n dX12_layTwos_54 rfl ?_
            refine go_iload dX12_layTwos_55 rfl ?_
            refine go_idiv dX12_layTwos_57 (htn5) ?_
            refine go_tp (z := nI (r / (twS o5))) (pk_div (a := r) (d := twS o5) (by omega) (by omega) (by omega)) ?_
            refine go_istore (ls' := [some (.ref q), none, some (.int (nI (clrN z (lowN z)))), some (.int (nI r)), some (.int (nI (lowN z))), some (.int (nI (o5 + 1))), some (.int (nI (twS o5))), some (.int (nI (r / (twS o5)))), none, none]) dX12_layTwos_58 ⟨by decide, rfl, rfl⟩ ?_
            refine go_iload dX12_layTwos_60 rfl ?_
            refine go_if_ne dX12_layTwos_62 (fun c62 => ?_) (fun c62 => ?_)
            · have c62n := mt (n0_eq (a := o5 + 1) (by omega)).mpr c62
              refine go_iload_n dX12_layTwos_69 rfl ?_
              refine go_iload dX12_layTwos_70 rfl ?_
              refine go_irem dX12_layTwos_72 (htn5) ?_
              refine go_tp (z := nI (r % (twS o5))) (pk_rem (a := r) (d := twS o5) (by omega) (by omega) (by omega)) ?_
              refine go_istore_n (ls' := [some (.ref q), none, some (.int (nI (clrN z (lowN z)))), some (.int (nI (r % (twS o5)))), some (.int (nI (lowN z))), some (.int (nI (o5 + 1))), some (.int (nI (twS o5))), some (.int (nI (r / (twS o5)))), none, none]) dX12_layTwos_73 ⟨by decide, rfl, rfl⟩ ?_
              refine go_bipush (v := (-4)) dX12_layTwos_74 rfl ?_
              refine go_istore (ls' := [some (.ref q), none, some (.int (nI (clrN z (lowN z)))), some (.int (nI (r % (twS o5)))), some (.int (nI (lowN z))), some (.int (nI (o5 + 1))), some (.int (nI (twS o5))), some (.int (nI (r / (twS o5)))), some (.int (-4)), none]) dX12_layTwos_76 ⟨by decide, rfl, rfl⟩ ?_
              refine go_iload dX12_layTwos_78 rfl ?_
              refine go_iconst (v := 1) dX12_layTwos_80 rfl ?_
              refine go_iadd dX12_layTwos_81 ?_
              refine go_tp (z := nI ((lowN z) + 1)) (nI_add (lowN z) 1) ?_
              refine go_istore (ls' := [some (.ref q), none, some (.int (nI (clrN z (lowN z)))), some (.int (nI (r % (twS o5)))), some (.int (nI (lowN z))), some (.int (nI (o5 + 1))), some (.int (nI (twS o5))), some (.int (nI (r / (twS o5)))), some (.int (-4)), some (.int (nI ((lowN z) + 1)))]) dX12_layTwos_82 ⟨by decide, rfl, rfl⟩ ?_
              have lp1 : ∀ (μ_lp1 : Nat) (b : Nat) (x y : Int32) (hb1 : lowN z + 1 ≤ b) (hb2 : b ≤ N) (hmb : N + 1 ≤ b + μ_lp1) (hI5 : ltI N z r b x y), Go G mX12_layTwos 3 0 0 Q9 0 0 84 [some (.ref q), none, some (.int (nI (clrN z (lowN z)))), some (.int (nI (ltR z r))), some (.int (nI (lowN z))), none, none, some (.int y), some (.int x), some (.int (nI b))] [] (mo G m0 q F (r19 A ma) L K) n := by
                intro μ_lp1
                induction μ_lp1 with
                | zero =>
                  intro b x y hb1 hb2 hmb hI5
                  exact absurd hmb (by omega)
                | succ μ_lp1 ih_lp1 =>
                  intro b x y hb1 hb2 hmb hI5
                  refine go_iload dX12_layTwos_84 rfl ?_
                  refine go_aload_n dX12_layTwos_86 rfl ?_
                  refine go_get dX12_layTwos_87 fl_X12_87_12 mo_obj hq (by omega) rfl ?_
                  refine go_tp (z := nI N) (hN) ?_
                  refine go_icmp_ge dX12_layTwos_90 (fun c90 => ?_) (fun c90 => ?_)
                  · have c90n := (nI_leI (a := N) (b := b) (by omega) (by omega)).mp c90
                    have c90n := Nat.not_lt.mpr c90n
                    have c90 := Int32.not_lt.mpr c90
                    have hxl := ltI_e hI5 (by omega)
                    refine go_aload_n dX12_layTwos_125 rfl ?_
                    refine go_get dX12_layTwos_126 fl_X12_65_12 mo_obj hq (by omega) rfl ?_
                    refine go_iload dX12_layTwos_129 rfl ?_
                    refine go_iload dX12_layTwos_131 rfl ?_
                    refine go_iast dX12_layTwos_133 (mo_arr 19 (by decide)) (by omega) (by omega) (vp_in_nI (n := lowN z) (by show lowN z < 8; omega) (by decide)) ?_
                    refine go_mem (mo_setA 19 (by decide) _ _) ?_
                    rw [nI_clamp (by omega)]
                    refine go_iload dX12_layTwos_134 rfl ?_
                    refine go_if_lt dX12_layTwos_136 (fun c136 => ?_) (fun c136 => ?_)
                    · have hx4 : x = -4 := by
                        rw [hxl] at c136 ⊢
                        exact nbF_neg _ _ _ (by omega) c136
                      refine go_goto dX12_layTwos_157 ?_
                      refine go_weak (ls' := [some (.ref q), none, some (.int (nI (clrN z (lowN z)))), some (.int (nI (ltR z r))), none, none, none, none, none, none]) ⟨rfl, rfl, rfl, trivial⟩ ?_
                      refine go_mem (f' := (mo G m0 q F (r19 A (fun i => if i = lowN z then -4 else ma i)) L K)) (by rw [r19_s, hx4]) ?_
                      exact ih_lp0 g _ (ltR z r) _ (by omega) (by omega) (by omega) hrr (by rw [hx0, ltM_n (by omega) (hxl ▸ c136)])
                    · obtain ⟨o, ho1, ho2, ho3, hxo⟩ := ltX_nI hN8 (by omega) (hxl ▸ c136)
                      rw [hxl, hxo]
                      have hxl := hxo
                      have hcl := clr_les (s := clrN z (lowN z)) (a := o)
                      refine go_aload_n dX12_layTwos_139 rfl ?_
                      refine go_get dX12_layTwos_140 fl_X12_65_12 mo_obj hq (by omega) rfl ?_
                      refine go_iload dX12_layTwos_143 rfl ?_
                      refine go_iload dX12_layTwos_145 rfl ?_
                      refine go_iast dX12_layTwos_147 (mo_arr 19 (by decide)) (by omega) (by omega) (vp_in_nI (n := o) (by show o < 8; omega) (by decide)) ?_
                      refine go_mem (mo_setA 19 (by decide) _ _) ?_
                      rw [nI_clamp (by omega)]
                      refine go_iload_n dX12_layTwos_148 rfl ?_
                      refine go_iconst (v := 1) dX12_layTwos_149 rfl ?_
                      refine go_iload dX12_layTwos_150 rfl ?_
                      refine go_ishl dX12_layTwos_152 ?_
                      refine go_iconst (v := (-1)) dX12_layTwos_153 rfl ?_
                      refine go_ixor dX12_layTwos_154 ?_
                      refine go_iand dX12_layTwos_155 ?_
                      refine go_tp (z := nI (clrN (clrN z (lowN z)) o)) (clr_i (clrN z (lowN z)) (by omega) o (by omega)) ?_
                      have hc155_15 : clrN (clrN z (lowN z)) o < 256 := clr_lt (by omega)
                      refine go_istore_n (ls' := [some (.ref q), none, some (.int (nI (clrN (clrN z (lowN z)) o))), some (.int (nI (ltR z r))), some (.int (nI (lowN z))), none, none, some (.int y), some (.int (nI o)), some (.int (nI b))]) dX12_layTwos_156 ⟨by decide, rfl, rfl⟩ ?_
                      refine go_goto dX12_layTwos_157 ?_
                      refine go_weak (ls' := [some (.ref q), none, some (.int (nI (clrN (clrN z (lowN z)) o))), some (.int (nI (ltR z r))), none, none, none, none, none, none]) ⟨rfl, rfl, rfl, trivial⟩ ?_
                      refine go_mem (f' := (mo G m0 q F (r19 A (fun i => if i = o then nI (lowN z) else if i = lowN z then nI o else ma i)) L K)) (by rw [r19_s, r19_s]) ?_
                      exact ih_lp0 g _ (ltR z r) _ (by omega) (by omega) (by omega) hrr (by rw [hx0, ltM_p (by omega) hxl (by omega)])
                  · have c90n := mt (nI_leI (a := N) (b := b) (by omega) (by omega)).mpr c90
                    have c90n := Nat.lt_of_not_le c90n
                    have c90 := Int32.not_le.mp c90
                    refine go_iload_n dX12_layTwos_93 rfl ?_
                    refine go_iload dX12_layTwos_94 rfl ?_
                    refine go_Sr [.int (nI (clrN z (lowN z))), .int (nI b)] [] dX12_layTwos_96 sl_X12_245 ⟨by decide, by decide⟩ (e_X12_hasBit) rfl rfl (Nat.le_of_ble_eq_true rfl) (Nat.le_of_ble_eq_true rfl) (Nat.le_of_ble_eq_true rfl) ?_
                    refine go_tp (z := if Nat.testBit (clrN z (lowN z)) b then 1 else 0) (by rw [bit_t _ (by omega) _ (by omega)]) ?_
                    refine go_if_eq dX12_layTwos_99 (fun c99 => ?_) (fun c99 => ?_)
                    · have c99 := bz_f c99
                      refine go_iinc (v := nI (b + 1)) (ls' := [some (.ref q), none, some (.int (nI (clrN z (lowN z)))), some (.int (nI (ltR z r))), some (.int (nI (lowN z))), none, none, some (.int y), some (.int x), some (.int (nI (b + 1)))]) dX12_layTwos_119 rfl (nI_1 (b)) ⟨by decide, rfl, rfl⟩ ?_
                      refine go_goto dX12_layTwos_122 ?_
                      exact ih_lp1 (b + 1) _ _ (by omega) (by omega) (by omega) (ltI_n hI5 (by omega) c99)
                    · have c99 := bz_t c99
                      refine go_iload dX12_layTwos_102 rfl ?_
                      refine go_if_ne dX12_layTwos_104 (fun c104 => ?_) (fun c104 => ?_)
                      · refine go_iload dX12_layTwos_112 rfl ?_
                        refine go_istore (ls' := [some (.ref q), none, some (.int (nI (clrN z (lowN z)))), some (.int (nI (ltR z r))), some (.int (nI (lowN z))), none, none, some (.int y), some (.int x), some (.int (nI b))]) dX12_layTwos_114 ⟨by decide, rfl, rfl⟩ ?_
                        refine go_iinc (v := y - 1) (ls' := [some (.ref q), none, some (.int (nI (clrN z (lowN z)))), some (.int (nI (ltR z r))), some (.int (nI (lowN z))), none, none, some (.int (y - 1)), some (.int x), some (.int (nI b))]) dX12_layTwos_116 rfl (i32_m1 _) ⟨by decide, rfl, rfl⟩ ?_
                        refine go_iinc (v := nI (b + 1)) (ls' := [some (.ref q), none, some (.int (nI (clrN z (lowN z)))), some (.int (nI (ltR z r))), some (.int (nI (lowN z))), none, none, some (.int (y - 1)), some (.int x), some (.int (nI (b + 1)))]) dX12_layTwos_119 rfl (nI_1 (b)) ⟨by decide, rfl, rfl⟩ ?_
                        refine go_goto dX12_layTwos_122 ?_
                        exact ih_lp1 (b + 1) _ _ (by omega) (by omega) (by omega) (ltI_w hI5 (by omega) hN8 c99 c104)
                      · refine go_iload dX12_layTwos_107 rfl ?_
                        refine go_goto dX12_layTwos_109 ?_
                        refine go_istore (ls' := [some (.ref q), none, some (.int (nI (clrN z (lowN z)))), some (.int (nI (ltR z r))), some (.int (nI (lowN z))), none, none, some (.int y), some (.int (nI b)), some (.int (nI b))]) dX12_layTwos_114 ⟨by decide, rfl, rfl⟩ ?_
                        refine go_iinc (v := y - 1) (ls' := [some (.ref q), none, some (.int (nI (clrN z (lowN z)))), some (.int (nI (ltR z r))), some (.int (nI (lowN z))), none, none, some (.int (y - 1)), some (.int (nI b)), some (.int (nI b))]) dX12_layTwos_116 rfl (i32_m1 _) ⟨by decide, rfl, rfl⟩ ?_
                        refine go_iinc (v := nI (b + 1)) (ls' := [some (.ref q), none, some (.int (nI (clrN z (lowN z)))), some (.int (nI (ltR z r))), some (.int (nI (lowN z))), none, none, some (.int (y - 1)), some (.int (nI b)), some (.int (nI (b + 1)))]) dX12_layTwos_119 rfl (nI_1 (b)) ⟨by decide, rfl, rfl⟩ ?_
                        refine go_goto dX12_layTwos_122 ?_
                        exact ih_lp1 (b + 1) _ _ (by omega) (by omega) (by omega) (ltI_f hI5 (by omega) hN8 c99 c104)
              refine go_weak (ls' := [some (.ref q), none, some (.int (nI (clrN z (lowN z)))), some (.int (nI (r % (twS o5)))), some (.int (nI (lowN z))), none, none, some (.int (nI (r / (twS o5)))), some (.int (-4)), some (.int (nI ((lowN z) + 1)))]) ⟨rfl, rfl, rfl, rfl, rfl, rfl, rfl, trivial⟩ ?_
              refine go_ls (ls' := [some (.ref q), none, some (.int (nI (clrN z (lowN z)))), some (.int (nI (ltR z r))), some (.int (nI (lowN z))), none, none, some (.int (nI (r / (twS o5)))), some (.int (-4)), some (.int (nI ((lowN z) + 1)))]) (by rw [hR5]) ?_
              exact lp1 (N + 1) (lowN z + 1) _ _ (Nat.le_refl _) (by omega) (by omega) (Or.inl ⟨rfl, r / twS o5, Nat.lt_of_le_of_lt (Nat.div_le_self _ _) hr, rfl, by unfold ltX; rw [ho5, twB_s]⟩)
            · have c62n := (n0_eq (a := o5 + 1) (by omega)).mp c62
              exact absurd c62 c47
          · have c47n := (n0_eq (a := o5 + 1) (by omega)).mp c47
            omega
  refine go_weak (ls' := [some (.ref q), none, some (.int (nI (2 ^ N - 1))), some (.int (nI k)), none, none, none, none, none, none]) ⟨rfl, rfl, rfl, trivial⟩ ?_
  refine go_mem (f' := (mo G m0 q F (r19 A (A 19)) L K)) (congrArg (fun z => mo G m0 q F z L K) r19_0) ?_
  exact lp0 257 256 (2 ^ N - 1) k (A 19) (by omega) (by omega) (by omega) hk rfl
set_option maxHeartbeats 4000000 in
set_option maxRecDepth 100000 in
theorem e_X12_rests (hq : G.2.1 ≤ q) (hn : q + 25 ≤ n) (hN : F 0 = nI N) (hN8 : N ≤ 8) {i : Int32} : Ev G mX12_rests 6 0 0 [.ref q, .int i] (mo G m0 q F A L K) n (fun r f1 n1 => r = some (.int (resS N A i)) ∧ (∃ A', (∀ r, r ≠ 19 → r ≠ 21 → A' r = A r) ∧ f1 = mo G m0 q (upd F 16 0) A' L K) ∧ n1 = n) := by
  generalize hQ9 : (fun r f1 n1 => r = some (.int (resS N A i)) ∧ (∃ A', (∀ r, r ≠ 19 → r ≠ 21 → A' r = A r) ∧ f1 = mo G m0 q (upd F 16 0) A' L K) ∧ n1 = n : RQ) = Q9
  refine ev_of (by decide) (Nat.le_of_ble_eq_true rfl) (ls := [some (.ref q), some (.int i), none, none, none, none, none]) rfl (fun hb => ?_)
  have hp2 := pw8 hN8
  have hp1 := pw1 N
  have htwN := twS_le N
  refine go_aload_n dX12_rests_0 rfl ?_
  refine go_iconst (v := 0) dX12_rests_1 rfl ?_
  refine go_put dX12_rests_2 fp_X12_83_12 (Or.inr (fun _ _ _ h => by cases h; rfl)) mo_obj hq (by omega) (rfl) rfl (Nat.le_of_ble_eq_true rfl) ?_
  refine go_mem (mo_setO (F' := (upd F 16 (0))) (K' := K) rfl) ?_
  refine go_iload_n dX12_rests_5 rfl ?_
  refine go_i2l dX12_rests_6 ?_
  refine go_ldc2 (v := -1) dX12_rests_7 wm_1404 ?_
  refine go_aload_n dX12_rests_10 rfl ?_
  refine go_get dX12_rests_11 fl_X12_87_12 mo_obj hq (by omega) rfl ?_
  refine go_tp (z := nI N) (hN) ?_
  refine go_iconst (v := 1) dX12_rests_14 rfl ?_
  refine go_isub dX12_rests_15 ?_
  refine go_i2l dX12_rests_16 ?_
  refine go_Sr [.long (i).toInt64, .long (-1), .long (((nI N) - 1).toInt64)] [] dX12_rests_17 sl_X12_90 ⟨by decide, by decide⟩ (e_X12_lies) rfl rfl (Nat.le_of_ble_eq_true rfl) (Nat.le_of_ble_eq_true rfl) (Nat.le_of_ble_eq_true rfl) ?_
  refine go_tp (z := if okm N (i) then 1 else 0) (ite_c (li_okm (by omega))) ?_
  refine go_if_ne dX12_rests_20 (fun c20 => ?_) (fun c20 => ?_)
  · have c20 := bz_t c20
    refine go_iconst (v := 0) dX12_rests_25 rfl ?_
    refine go_istore_n (ls' := [some (.ref q), some (.int i), some (.int 0), none, none, none, none]) dX12_rests_26 ⟨by decide, rfl, rfl⟩ ?_
    refine go_aload_n dX12_rests_27 rfl ?_
    refine go_get dX12_rests_28 fl_X12_87_12 mo_obj hq (by omega) rfl ?_
    refine go_tp (z := nI N) (hN) ?_
    have htw31 := twS_le N
    refine go_Sr [.int (nI N)] [] dX12_rests_31 sl_X12_265 ⟨by decide, by decide⟩ (e_X12_twosOf (k := N) (by omega)) rfl rfl (Nat.le_of_ble_eq_true rfl) (Nat.le_of_ble_eq_true rfl) (Nat.le_of_ble_eq_true rfl) ?_
    refine go_istore_n (ls' := [some (.ref q), some (.int i), some (.int 0), some (.int (nI (twS N))), none, none, none]) dX12_rests_34 ⟨by decide, rfl, rfl⟩ ?_
    refine go_iconst (v := 0) dX12_rests_35 rfl ?_
    refine go_istore (ls' := [some (.ref q), some (.int i), some (.int 0), some (.int (nI (twS N))), some (.int 0), none, none]) dX12_rests_36 ⟨by decide, rfl, rfl⟩ ?_
    have lp0 : ∀ (μ_lp0 : Nat) (k j : Nat) (A1 : Nat → Nat → Int32) (hk : k ≤ twS N) (hmk : 200 ≤ k + μ_lp0) (hrs : rsI N A A1 k j) (hA : ∀ r, r ≠ 19 → r ≠ 21 → A1 r = A r), Go G mX12_rests 6 0 0 Q9 0 0 38 [some (.ref q), some (.int i), some (.int (nI j)), some (.int (nI (twS N))), some (.int (nI k)), none, none] [] (mo G m0 q (upd F 16 (0)) A1 L K) n := by
      intro μ_lp0
      induction μ_lp0 with
      | zero =>
        intro k j A1 hk hmk hrs hA
        exact absurd hmk (by omega)
      | succ μ_lp0 ih_lp0 =>
        intro k j A1 hk hmk hrs hA
        have hjk := hrs.2.1
        refine go_iload dX12_rests_38 rfl ?_
        refine go_iload_n dX12_rests_40 rfl ?_
        refine go_icmp_ge dX12_rests_41 (fun c41 => ?_) (fun c41 => ?_)
        · have c41n := (nI_leI (a := twS N) (b := k) (by omega) (by omega)).mp c41
          have c41n := Nat.not_lt.mpr c41n
          have c41 := Int32.not_lt.mpr c41
          refine go_iload_n dX12_rests_116 rfl ?_
          refine go_if_ge dX12_rests_117 (fun c117 => ?_) (fun c117 => ?_)
          · have c117 := Int32.not_lt.mpr c117
            obtain ⟨ji, hji, rfl⟩ := okm_nI c20 c117 (by omega)
            have kji : (nI ji).toNatClampNeg = ji := nI_clamp (by omega)
            refine go_iload_n dX12_rests_124 rfl ?_
            refine go_if_ne dX12_rests_125 (fun c125 => ?_) (fun c125 => ?_)
            · have c125n := mt (n0_eq (a := j) (by omega)).mpr c125
              refine go_aload_n dX12_rests_133 rfl ?_
              refine go_get dX12_rests_134 fl_X12_71_12 mo_obj hq (by omega) rfl ?_
              refine go_iload_n dX12_rests_137 rfl ?_
              refine go_iald dX12_rests_138 (mo_arr 21 (by decide)) (by omega) (by omega) (vp_in_nI (n := ji) (by show ji < 8; omega) (by decide)) ?_
              refine go_tp (z := A1 21 ji) (by rw [nI_clamp (by omega)]) ?_
              exact go_iret dX12_rests_139 rfl (Nat.le_of_ble_eq_true rfl) (Nat.le_of_ble_eq_true rfl) (have hc : cnS (rsP N A) (twS N) = nI j := (by rw [show twS N = k by omega]; exact hrs.1); hQ9 ▸ ⟨rd_i (by unfold resS; rw [if_pos c20, if_neg c117, hc, if_neg c125, kji]; exact (hrs.2.2.resolve_left (fun z => c125n z.1)).2 ji hji), ⟨_, hA, rfl⟩, rfl⟩)
            · have c125n := (n0_eq (a := j) (by omega)).mp c125
              refine go_bipush (v := (-5)) dX12_rests_128 rfl ?_
              refine go_goto dX12_rests_130 ?_
              exact go_iret dX12_rests_139 rfl (Nat.le_of_ble_eq_true rfl) (Nat.le_of_ble_eq_true rfl) (have hc : cnS (rsP N A) (twS N) = nI j := (by rw [show twS N = k by omega]; exact hrs.1); hQ9 ▸ ⟨rd_i (by unfold resS; rw [if_pos c20, if_neg c117, hc, if_pos (by rw [c125n]; rfl)]), ⟨_, hA, rfl⟩, rfl⟩)
          · have c117 := Int32.not_le.mp c117
            refine go_iload_n dX12_rests_120 rfl ?_
            refine go_goto dX12_rests_121 ?_
            exact go_iret dX12_rests_139 rfl (Nat.le_of_ble_eq_true rfl) (Nat.le_of_ble_eq_true rfl) (have hc : cnS (rsP N A) (twS N) = nI j := (by rw [show twS N = k by omega]; exact hrs.1); hQ9 ▸ ⟨rd_i (by unfold resS; rw [if_pos c20, if_pos c117, hc]), ⟨_, hA, rfl⟩, rfl⟩)
        · have c41n := mt (nI_leI (a := twS N) (b := k) (by omega) (by omega)).mpr c41
          have c41n := Nat.lt_of_not_le c41n
          have c41 := Int32.not_le.mp c41
          refine go_aload_n dX12_rests_44 rfl ?_
          refine go_iload dX12_rests_45 rfl ?_
          refine go_V [.int (nI k)] [] dX12_rests_47 vl_X12_268 ⟨by decide, by decide⟩ (e_X12_layTwos (F := (upd F 16 (0))) (A := A1) (L := L) (K := K) hq hn hN hN8 (k := k) (by omega)) mo_obj hq (by omega) rfl rfl (Nat.le_of_ble_eq_true rfl) (Nat.le_of_ble_eq_true rfl) (Nat.le_of_ble_eq_true rfl) (fun r47 f47 n47 h47 => ?_)
          obtain ⟨rfl, rfl, hn47⟩ := h47
          subst n47
          have hmc : ∀ p, p < N → ltM N 256 (2 ^ N - 1) k (A1 19) p = ltC N k p := fun p hp => ltM_congr hN8 256 _ _ _ _ (by omega) (by omega) (fun i hi ht => by rw [full_t N hN8 i hi] at ht; cases ht) p hp
          have hmt : mtOK N (r19 A1 (ltM N 256 (2 ^ N - 1) k (A1 19)) 19) := by rw [r19_19]; exact ltM_ok hN8 256 _ _ _ (by omega) (by omega) (fun i hi ht => by rw [full_t N hN8 i hi] at ht; cases ht)
          refine go_aload_n dX12_rests_50 rfl ?_
          refine go_Vr [] [] dX12_rests_51 vl_X12_272 ⟨by decide, by decide⟩ (e_X12_areResting (F := (upd F 16 (0))) (A := (r19 A1 (ltM N 256 (2 ^ N - 1) k (A1 19)))) (L := L) (K := K) hq hn hN hN8 hmt) mo_obj hq (by omega) rfl rfl (Nat.le_of_ble_eq_true rfl) (Nat.le_of_ble_eq_true rfl) (Nat.le_of_ble_eq_true rfl) ?_
          refine go_tp (z := if rsP N A k then 1 else 0) (by rw [rs_eq (A := A) (k := k) ((r19_r (by decide)).trans (hA 1 (by decide) (by decide))) ((r19_r (by decide)).trans (hA 2 (by decide) (by decide))) (fun p hp => by rw [r19_19]; exact hmc p hp)]) ?_
          refine go_istore (ls' := [some (.ref q), some (.int i), some (.int (nI j)), some (.int (nI (twS N))), some (.int (nI k)), some (.int (if rsP N A k then 1 else 0)), none]) dX12_rests_54 ⟨by decide, rfl, rfl⟩ ?_
          refine go_iconst (v := 0) dX12_rests_56 rfl ?_
          refine go_istore (ls' := [some (.ref q), some (.int i), some (.int (nI j)), some (.int (nI (twS N))), some (.int (nI k)), some (.int (if rsP N A k then 1 else 0)), some (.int 0)]) dX12_rests_57 ⟨by decide, rfl, rfl⟩ ?_
          have lp1 : ∀ (μ_lp1 : Nat) (p0 : Nat) (hp0 : p0 ≤ N) (hmp : N + 1 ≤ p0 + μ_lp1) (hpi : p0 = 0 ∨ (rsP N A k = true ∧ j = 0)), Go G mX12_rests 6 0 0 Q9 0 0 59 [some (.ref q), some (.int i), some (.int (nI j)), some (.int (nI (twS N))), some (.int (nI k)), some (.int (if rsP N A k then 1 else 0)), some (.int (nI p0))] [] (mo G m0 q (upd F 16 (0)) (c21 (r19 A1 (ltM N 256 (2 ^ N - 1) k (A1 19))) p0) L K) n := by
            intro μ_lp1
            induction μ_lp1 with
            | zero =>
              intro p0 hp0 hmp hpi
              exact absurd hmp (by omega)
            | succ μ_lp1 ih_lp1 =>
              intro p0 hp0 hmp hpi
              refine go_iload dX12_rests_59 rfl ?_
              refine go_aload_n dX12_rests_61 rfl ?_
              refine go_get dX12_rests_62 fl_X12_87_12 mo_obj hq (by omega) rfl ?_
              refine go_tp (z := nI N) (hN) ?_
              refine go_icmp_ge dX12_rests_65 (fun c65 => ?_) (fun c65 => ?_)
              · have c65n := (nI_leI (a := N) (b := p0) (by omega) (by omega)).mp c65
                have c65n := Nat.not_lt.mpr c65n
                have c65 := Int32.not_lt.mpr c65
                refine go_iload_n dX12_rests_97 rfl ?_
                refine go_iload dX12_rests_98 rfl ?_
                refine go_if_eq dX12_rests_100 (fun c100 => ?_) (fun c100 => ?_)
                · have c100 := bz_f c100
                  refine go_iconst (v := 0) dX12_rests_107 rfl ?_
                  refine go_iadd dX12_rests_108 ?_
                  refine go_tp (z := nI (j + 0)) (nI_add j 0) ?_
                  refine go_istore_n (ls' := [some (.ref q), some (.int i), some (.int (nI (j + 0))), some (.int (nI (twS N))), some (.int (nI k)), some (.int (if rsP N A k then 1 else 0)), some (.int (nI p0))]) dX12_rests_109 ⟨by decide, rfl, rfl⟩ ?_
                  refine go_iinc (v := nI (k + 1)) (ls' := [some (.ref q), some (.int i), some (.int (nI (j + 0))), some (.int (nI (twS N))), some (.int (nI (k + 1))), some (.int (if rsP N A k then 1 else 0)), some (.int (nI p0))]) dX12_rests_110 rfl (nI_1 (k)) ⟨by decide, rfl, rfl⟩ ?_
                  refine go_goto dX12_rests_113 ?_
                  refine go_weak (ls' := [some (.ref q), some (.int i), some (.int (nI (j + 0))), some (.int (nI (twS N))), some (.int (nI (k + 1))), none, none]) ⟨rfl, rfl, rfl, rfl, rfl, trivial⟩ ?_
                  refine ih_lp0 (k + 1) j _ (by omega) (by omega) (rsI_n hrs (by omega) c100 (fun p hp => ?_)) (fun r h1 h2 => by rw [c21_r h2, r19_r h1]; exact hA r h1 h2)
                  rcases hpi with y | y
                  · exact absurd hp (by omega)
                  · exact absurd y.1 c100
                · have c100 := bz_t c100
                  refine go_iconst (v := 1) dX12_rests_103 rfl ?_
                  refine go_goto dX12_rests_104 ?_
                  refine go_iadd dX12_rests_108 ?_
                  refine go_tp (z := nI (j + 1)) (nI_add j 1) ?_
                  refine go_istore_n (ls' := [some (.ref q), some (.int i), some (.int (nI (j + 1))), some (.int (nI (twS N))), some (.int (nI k)), some (.int (if rsP N A k then 1 else 0)), some (.int (nI p0))]) dX12_rests_109 ⟨by decide, rfl, rfl⟩ ?_
                  refine go_iinc (v := nI (k + 1)) (ls' := [some (.ref q), some (.int i), some (.int (nI (j + 1))), some (.int (nI (twS N))), some (.int (nI (k + 1))), some (.int (if rsP N A k then 1 else 0)), some (.int (nI p0))]) dX12_rests_110 rfl (nI_1 (k)) ⟨by decide, rfl, rfl⟩ ?_
                  refine go_goto dX12_rests_113 ?_
                  refine go_weak (ls' := [some (.ref q), some (.int i), some (.int (nI (j + 1))), some (.int (nI (twS N))), some (.int (nI (k + 1))), none, none]) ⟨rfl, rfl, rfl, rfl, rfl, trivial⟩ ?_
                  refine ih_lp0 (k + 1) (j + 1) _ (by omega) (by omega) (rsI_y hrs (by omega) c100 (fun z => (fun p hp => show (if p < p0 then (r19 A1 (ltM N 256 (2 ^ N - 1) k (A1 19))) 19 p else (r19 A1 (ltM N 256 (2 ^ N - 1) k (A1 19))) 21 p) = _ by rw [if_pos (by omega)]; exact (congrFun r19_19 p).trans (hmc p hp))) (fun z p hp => ?_)) (fun r h1 h2 => by rw [c21_r h2, r19_r h1]; exact hA r h1 h2)
                  rcases hpi with y | y
                  · exact absurd hp (by omega)
                  · exact absurd y.2 z
              · have c65n := mt (nI_leI (a := N) (b := p0) (by omega) (by omega)).mpr c65
                have c65n := Nat.lt_of_not_le c65n
                have c65 := Int32.not_le.mp c65
                refine go_iload dX12_rests_68 rfl ?_
                refine go_if_eq dX12_rests_70 (fun c70 => ?_) (fun c70 => ?_)
                · have c70 := bz_f c70
                  have hpz : p0 = 0 := hpi.resolve_right (fun z => c70 z.1)
                  refine go_iload_n dX12_rests_97 rfl ?_
                  refine go_iload dX12_rests_98 rfl ?_
                  refine go_if_eq dX12_rests_100 (fun c100 => ?_) (fun c100 => ?_)
                  · have c100 := bz_f c100
                    refine go_iconst (v := 0) dX12_rests_107 rfl ?_
                    refine go_iadd dX12_rests_108 ?_
                    refine go_tp (z := nI (j + 0)) (nI_add j 0) ?_
                    refine go_istore_n (ls' := [some (.ref q), some (.int i), some (.int (nI (j + 0))), some (.int (nI (twS N))), some (.int (nI k)), some (.int (if rsP N A k then 1 else 0)), some (.int (nI p0))]) dX12_rests_109 ⟨by decide, rfl, rfl⟩ ?_
                    refine go_iinc (v := nI (k + 1)) (ls' := [some (.ref q), some (.int i), some (.int (nI (j + 0))), some (.int (nI (twS N))), some (.int (nI (k + 1))), some (.int (if rsP N A k then 1 else 0)), some (.int (nI p0))]) dX12_rests_110 rfl (nI_1 (k)) ⟨by decide, rfl, rfl⟩ ?_
                    refine go_goto dX12_rests_113 ?_
                    refine go_weak (ls' := [some (.ref q), some (.int i), some (.int (nI (j + 0))), some (.int (nI (twS N))), some (.int (nI (k + 1))), none, none]) ⟨rfl, rfl, rfl, rfl, rfl, trivial⟩ ?_
                    exact ih_lp0 (k + 1) j _ (by omega) (by omega) (rsI_n hrs (by omega) c70 (fun p hp => show (if p < p0 then (r19 A1 (ltM N 256 (2 ^ N - 1) k (A1 19))) 19 p else (r19 A1 (ltM N 256 (2 ^ N - 1) k (A1 19))) 21 p) = _ by rw [if_neg (by omega)]; exact congrFun (r19_r (by decide)) p)) (fun r h1 h2 => by rw [c21_r h2, r19_r h1]; exact hA r h1 h2)
                  · have c100 := bz_t c100
                    exact absurd c100 c70
                · have c70 := bz_t c70
                  refine go_iload_n dX12_rests_73 rfl ?_
                  refine go_if_ne dX12_rests_74 (fun c74 => ?_) (fun c74 => ?_)
                  · have c74n := mt (n0_eq (a := j) (by omega)).mpr c74
                    have hpz : p0 = 0 := hpi.resolve_right (fun z => c74n z.2)
                    refine go_iload_n dX12_rests_97 rfl ?_
                    refine go_iload dX12_rests_98 rfl ?_
                    refine go_if_eq dX12_rests_100 (fun c100 => ?_) (fun c100 => ?_)
                    · have c100 := bz_f c100
                      exact absurd c70 c100
                    · have c100 := bz_t c100
                      refine go_iconst (v := 1) dX12_rests_103 rfl ?_
                      refine go_goto dX12_rests_104 ?_
                      refine go_iadd dX12_rests_108 ?_
                      refine go_tp (z := nI (j + 1)) (nI_add j 1) ?_
                      refine go_istore_n (ls' := [some (.ref q), some (.int i), some (.int (nI (j + 1))), some (.int (nI (twS N))), some (.int (nI k)), some (.int (if rsP N A k then 1 else 0)), some (.int (nI p0))]) dX12_rests_109 ⟨by decide, rfl, rfl⟩ ?_
                      refine go_iinc (v := nI (k + 1)) (ls' := [some (.ref q), some (.int i), some (.int (nI (j + 1))), some (.int (nI (twS N))), some (.int (nI (k + 1))), some (.int (if rsP N A k then 1 else 0)), some (.int (nI p0))]) dX12_rests_110 rfl (nI_1 (k)) ⟨by decide, rfl, rfl⟩ ?_
                      refine go_goto dX12_rests_113 ?_
                      refine go_weak (ls' := [some (.ref q), some (.int i), some (.int (nI (j + 1))), some (.int (nI (twS N))), some (.int (nI (k + 1))), none, none]) ⟨rfl, rfl, rfl, rfl, rfl, trivial⟩ ?_
                      exact ih_lp0 (k + 1) (j + 1) _ (by omega) (by omega) (rsI_y hrs (by omega) c70 (fun z => absurd z c74n) (fun z => (fun p hp => show (if p < p0 then (r19 A1 (ltM N 256 (2 ^ N - 1) k (A1 19))) 19 p else (r19 A1 (ltM N 256 (2 ^ N - 1) k (A1 19))) 21 p) = _ by rw [if_neg (by omega)]; exact congrFun (r19_r (by decide)) p))) (fun r h1 h2 => by rw [c21_r h2, r19_r h1]; exact hA r h1 h2)
                  · have c74n := (n0_eq (a := j) (by omega)).mp c74
                    refine go_aload_n dX12_rests_77 rfl ?_
                    refine go_get dX12_rests_78 fl_X12_71_12 mo_obj hq (by omega) rfl ?_
                    refine go_iload dX12_rests_81 rfl ?_
                    refine go_aload_n dX12_rests_83 rfl ?_
                    refine go_get dX12_rests_84 fl_X12_65_12 mo_obj hq (by omega) rfl ?_
                    refine go_iload dX12_rests_87 rfl ?_
                    refine go_iald dX12_rests_89 (mo_arr 19 (by decide)) (by omega) (by omega) (vp_in_nI (n := p0) (by show p0 < 8; omega) (by decide)) ?_
                    refine go_tp (z := (ltM N 256 (2 ^ N - 1) k (A1 19)) p0) (by rw [nI_clamp (by omega)]; rfl) ?_
                    refine go_iast dX12_rests_90 (mo_arr 21 (by decide)) (by omega) (by omega) (vp_in_nI (n := p0) (by show p0 < 8; omega) (by decide)) ?_
                    refine go_mem (mo_setA 21 (by decide) _ _) ?_
                    rw [nI_clamp (by omega)]
                    refine go_iinc (v := nI (p0 + 1)) (ls' := [some (.ref q), some (.int i), some (.int (nI j)), some (.int (nI (twS N))), some (.int (nI k)), some (.int (if rsP N A k then 1 else 0)), some (.int (nI (p0 + 1)))]) dX12_rests_91 rfl (nI_1 (p0)) ⟨by decide, rfl, rfl⟩ ?_
                    refine go_goto dX12_rests_94 ?_
                    refine go_mem (f' := (mo G m0 q (upd F 16 (0)) (c21 (r19 A1 (ltM N 256 (2 ^ N - 1) k (A1 19))) (p0 + 1)) L K)) (by rw [← c21_s]; rfl) ?_
                    exact ih_lp1 (p0 + 1) (by omega) (by omega) (Or.inr ⟨c70, by omega⟩)
          refine go_mem (f' := (mo G m0 q (upd F 16 (0)) (c21 (r19 A1 (ltM N 256 (2 ^ N - 1) k (A1 19))) 0) L K)) (congrArg (fun z => mo G m0 q (upd F 16 (0)) z L K) c21_0) ?_
          exact lp1 (N + 1) 0 (Nat.zero_le _) (by omega) (Or.inl rfl)
    exact lp0 200 0 0 A (by omega) (by omega) ⟨rfl, by omega, Or.inl ⟨rfl, by rw [Nat.sub_zero]⟩⟩ (fun _ _ _ => rfl)
  · have c20 := bz_f c20
    refine go_iconst (v := (-1)) dX12_rests_23 rfl ?_
    exact go_iret dX12_rests_24 rfl (Nat.le_of_ble_eq_true rfl) (Nat.le_of_ble_eq_true rfl) (hQ9 ▸ ⟨rd_i (by unfold resS; rw [if_neg c20]), ⟨_, fun _ _ _ => rfl, rfl⟩, rfl⟩)
end M19
