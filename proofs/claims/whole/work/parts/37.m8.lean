section M8
variable {G : GX} {m0 f : Mem} {q n N M : Nat} {F : Nat → Int32} {A : Nat → Nat → Int32} {L : Nat → Nat → Int64} {K : Option Nat}
set_option maxHeartbeats 4000000 in
set_option maxRecDepth 100000 in
theorem e_X12_june (hq : G.2.1 ≤ q) (hn : q + 25 ≤ n) (hN : F 0 = nI N) (hN8 : N ≤ 8) (hM : F 5 = nI M) (hM5 : M ≤ 5) (hrl : rlOK A) {d what : Int32} : Ev G mX12_june 3 0 0 [.ref q, .int d, .int what] (mo G m0 q F A L K) n (fun r f1 n1 => r = some (.int (junS N M A L d what)) ∧ f1 = (mo G m0 q (upd F 16 (0)) A L K) ∧ n1 = n) := by
  generalize hQ9 : (fun r f1 n1 => r = some (.int (junS N M A L d what)) ∧ f1 = (mo G m0 q (upd F 16 (0)) A L K) ∧ n1 = n : RQ) = Q9
  refine ev_of (by decide) (Nat.le_of_ble_eq_true rfl) (ls := [some (.ref q), some (.int d), some (.int what), none, none, none, none, none, none, none]) rfl (fun hb => ?_)
  refine go_aload_n dX12_june_0 rfl ?_
  refine go_iconst (v := 0) dX12_june_1 rfl ?_
  refine go_put dX12_june_2 fp_X12_83_12 (Or.inr (fun _ _ _ h => by cases h; rfl)) mo_obj hq (by omega) (rfl) rfl (Nat.le_of_ble_eq_true rfl) ?_
  refine go_mem (mo_setO (F' := (upd F 16 (0))) (K' := K) rfl) ?_
  refine go_iload_n dX12_june_5 rfl ?_
  refine go_i2l dX12_june_6 ?_
  refine go_lconst (v := 0) dX12_june_7 rfl ?_
  refine go_ldc2 (v := 2) dX12_june_8 wm_1534 ?_
  refine go_Sr [.long (what).toInt64, .long 0, .long 2] [] dX12_june_11 sl_X12_90 ⟨by decide, by decide⟩ (e_X12_lies) rfl rfl (Nat.le_of_ble_eq_true rfl) (Nat.le_of_ble_eq_true rfl) (Nat.le_of_ble_eq_true rfl) ?_
  refine go_tp (z := if okr what 0 2 then 1 else 0) (ite_c (li_okr rfl rfl)) ?_
  refine go_if_eq dX12_june_14 (fun c14 => ?_) (fun c14 => ?_)
  · have c14 := bz_f c14
    refine go_iconst (v := (-1)) dX12_june_25 rfl ?_
    refine go_istore_n (ls' := [some (.ref q), some (.int d), some (.int what), some (.int (-1)), none, none, none, none, none, none]) dX12_june_26 ⟨by decide, rfl, rfl⟩ ?_
    refine go_iload_n dX12_june_27 rfl ?_
    refine go_if_ne dX12_june_28 (fun c28 => ?_) (fun c28 => ?_)
    · refine go_iload_n dX12_june_57 rfl ?_
      refine go_istore_n (ls' := [some (.ref q), some (.int d), some (.int what), some (.int (-1)), none, none, none, none, none, none]) dX12_june_58 ⟨by decide, rfl, rfl⟩ ?_
      refine go_iload_n dX12_june_59 rfl ?_
      refine go_if_ge dX12_june_60 (fun c60 => ?_) (fun c60 => ?_)
      · have c60 := Int32.not_lt.mpr c60
        first | exact absurd c60 (by decide) | exact absurd (by decide) c60 | exact absurd rfl c60 | omega
      · have c60 := Int32.not_le.mp c60
        refine go_iload_n dX12_june_63 rfl ?_
        exact go_iret dX12_june_64 rfl (Nat.le_of_ble_eq_true rfl) (Nat.le_of_ble_eq_true rfl) (hQ9 ▸ ⟨rd_i (by unfold junS; rw [if_neg c14]), rfl, rfl⟩)
    · first | exact absurd c28 (by decide) | exact absurd (by decide) c28 | exact absurd rfl c28 | omega
  · have c14 := bz_t c14
    refine go_aload_n dX12_june_17 rfl ?_
    refine go_iload_n dX12_june_18 rfl ?_
    refine go_Vr [.int d] [] dX12_june_19 vl_X12_178 ⟨by decide, by decide⟩ (e_X12_wrongRow (F := (upd F 16 (0))) (A := A) (L := L) (K := K) hq hn) mo_obj hq (by omega) rfl rfl (Nat.le_of_ble_eq_true rfl) (Nat.le_of_ble_eq_true rfl) (Nat.le_of_ble_eq_true rfl) ?_
    refine go_goto dX12_june_22 ?_
    refine go_istore_n (ls' := [some (.ref q), some (.int d), some (.int what), some (.int (wkS (A 8) 2 (d))), none, none, none, none, none, none]) dX12_june_26 ⟨by decide, rfl, rfl⟩ ?_
    refine go_iload_n dX12_june_27 rfl ?_
    refine go_if_ne dX12_june_28 (fun c28 => ?_) (fun c28 => ?_)
    · refine go_iload_n dX12_june_57 rfl ?_
      refine go_istore_n (ls' := [some (.ref q), some (.int d), some (.int what), some (.int (wkS (A 8) 2 (d))), none, none, none, none, none, none]) dX12_june_58 ⟨by decide, rfl, rfl⟩ ?_
      refine go_iload_n dX12_june_59 rfl ?_
      refine go_if_ge dX12_june_60 (fun c60 => ?_) (fun c60 => ?_)
      · have c60 := Int32.not_lt.mpr c60
        exact absurd (wkS_z (by decide) c60) c28
      · have c60 := Int32.not_le.mp c60
        refine go_iload_n dX12_june_63 rfl ?_
        exact go_iret dX12_june_64 rfl (Nat.le_of_ble_eq_true rfl) (Nat.le_of_ble_eq_true rfl) (hQ9 ▸ ⟨rd_i (by unfold junS; rw [if_pos c14, if_pos c60]), rfl, rfl⟩)
    · have c28_g : ¬ wkS (A 8) 2 (d) < 0 := by rw [c28]; decide
      obtain ⟨jd, hjd, rfl, ejd⟩ := wkS_ok c28_g
      have kjd : (nI jd).toNatClampNeg = jd := nI_clamp (by omega)
      obtain ⟨R, hR, eR⟩ := hrl jd (by omega)
      refine go_aload_n dX12_june_31 rfl ?_
      refine go_iload_n dX12_june_32 rfl ?_
      refine go_Vr [.int (nI jd)] [] dX12_june_33 vl_X12_332 ⟨by decide, by decide⟩ (e_X12_forgedAt (F := (upd F 16 (0))) (A := A) (L := L) (K := K) hq hn hN hN8 hM hM5 (by omega) hR eR) mo_obj hq (by omega) rfl rfl (Nat.le_of_ble_eq_true rfl) (Nat.le_of_ble_eq_true rfl) (Nat.le_of_ble_eq_true rfl) ?_
      refine go_if_ge dX12_june_36 (fun c36 => ?_) (fun c36 => ?_)
      · have c36 := Int32.not_lt.mpr c36
        refine go_bipush (v := (-13)) dX12_june_52 rfl ?_
        refine go_goto dX12_june_54 ?_
        refine go_istore_n (ls' := [some (.ref q), some (.int (nI jd)), some (.int what), some (.int (-13)), none, none, none, none, none, none]) dX12_june_58 ⟨by decide, rfl, rfl⟩ ?_
        refine go_iload_n dX12_june_59 rfl ?_
        refine go_if_ge dX12_june_60 (fun c60 => ?_) (fun c60 => ?_)
        · have c60 := Int32.not_lt.mpr c60
          first | exact absurd c60 (by decide) | exact absurd (by decide) c60 | exact absurd rfl c60 | omega
        · have c60 := Int32.not_le.mp c60
          refine go_iload_n dX12_june_63 rfl ?_
          exact go_iret dX12_june_64 rfl (Nat.le_of_ble_eq_true rfl) (Nat.le_of_ble_eq_true rfl) (hQ9 ▸ ⟨rd_i (by unfold junS; rw [if_pos c14, if_neg c28_g, kjd, eR, nI_clamp (by omega), if_pos (by simp [c36])]), rfl, rfl⟩)
      · have c36 := Int32.not_le.mp c36
        refine go_aload_n dX12_june_39 rfl ?_
        refine go_get dX12_june_40 fl_X12_43_12 mo_obj hq (by omega) rfl ?_
        refine go_iload_n dX12_june_43 rfl ?_
        refine go_iald dX12_june_44 (mo_arr 12 (by decide)) (by omega) (by omega) (vp_in_nI (n := jd) (by show jd < 8; omega) (by decide)) ?_
        refine go_tp (z := A 12 jd) (by rw [nI_clamp (by omega)]) ?_
        refine go_tp (z := nI R) (eR) ?_
        refine go_aload_n dX12_june_45 rfl ?_
        refine go_get dX12_june_46 fl_X12_87_12 mo_obj hq (by omega) rfl ?_
        refine go_tp (z := nI N) (hN) ?_
        refine go_icmp_eq dX12_june_49 (fun c49 => ?_) (fun c49 => ?_)
        · have c49n := (nI_eq (a := R) (b := N) (by omega) (by omega)).mp c49
          refine go_iload_n dX12_june_57 rfl ?_
          refine go_istore_n (ls' := [some (.ref q), some (.int (nI jd)), some (.int what), some (.int (wkS (A 8) 2 (nI jd))), none, none, none, none, none, none]) dX12_june_58 ⟨by decide, rfl, rfl⟩ ?_
          refine go_iload_n dX12_june_59 rfl ?_
          refine go_if_ge dX12_june_60 (fun c60 => ?_) (fun c60 => ?_)
          · have c60 := Int32.not_lt.mpr c60
            refine go_iconst (v := 0) dX12_june_65 rfl ?_
            refine go_istore (ls' := [some (.ref q), some (.int (nI jd)), some (.int what), some (.int (wkS (A 8) 2 (nI jd))), some (.int 0), none, none, none, none, none]) dX12_june_66 ⟨by decide, rfl, rfl⟩ ?_
            refine go_iconst (v := 0) dX12_june_68 rfl ?_
            refine go_istore (ls' := [some (.ref q), some (.int (nI jd)), some (.int what), some (.int (wkS (A 8) 2 (nI jd))), some (.int 0), some (.int 0), none, none, none, none]) dX12_june_69 ⟨by decide, rfl, rfl⟩ ?_
            refine go_bipush (v := (-4)) dX12_june_71 rfl ?_
            refine go_istore (ls' := [some (.ref q), some (.int (nI jd)), some (.int what), some (.int (wkS (A 8) 2 (nI jd))), some (.int 0), some (.int 0), some (.int (-4)), none, none, none]) dX12_june_73 ⟨by decide, rfl, rfl⟩ ?_
            refine go_aload_n dX12_june_75 rfl ?_
            refine go_get dX12_june_76 fl_X12_87_12 mo_obj hq (by omega) rfl ?_
            refine go_tp (z := nI N) (hN) ?_
            refine go_iconst (v := 1) dX12_june_79 rfl ?_
            refine go_isub dX12_june_80 ?_
            refine go_istore (ls' := [some (.ref q), some (.int (nI jd)), some (.int what), some (.int (wkS (A 8) 2 (nI jd))), some (.int 0), some (.int 0), some (.int (-4)), some (.int ((nI N) - 1)), none, none]) dX12_june_81 ⟨by decide, rfl, rfl⟩ ?_
            have lp0 : ∀ (μ_lp0 : Nat) (a : Nat) (x : Int32) (y : Int32) (w : Int32) (ha : a ≤ N) (hma : a + 1 ≤ μ_lp0) (hx : x = c2B (juP N A L jd) N a (N - a)) (hy : y = f2B (juP N A L jd) N a (N - a)) (hw : w = bdB (astP A L jd) a (N - a)), Go G mX12_june 3 0 0 Q9 0 0 83 [some (.ref q), some (.int (nI jd)), some (.int what), none, some (.int w), some (.int x), some (.int y), some (.int (nI a - 1)), none, none] [] (mo G m0 q (upd F 16 (0)) A L K) n := by
              intro μ_lp0
              induction μ_lp0 with
              | zero =>
                intro a x y w ha hma hx hy hw
                exact absurd hma (by omega)
              | succ μ_lp0 ih_lp0 =>
                intro a x y w ha hma hx hy hw
                rcases a with _ | a
                · skip
                  refine go_iload dX12_june_83 rfl ?_
                  refine go_if_lt dX12_june_85 (fun c85 => ?_) (fun c85 => ?_)
                  · refine go_iload_n dX12_june_235 rfl ?_
                    refine go_if_ne dX12_june_236 (fun c236 => ?_) (fun c236 => ?_)
                    · refine go_iload_n dX12_june_244 rfl ?_
                      refine go_iconst (v := 1) dX12_june_245 rfl ?_
                      refine go_icmp_ne dX12_june_246 (fun c246 => ?_) (fun c246 => ?_)
                      · refine go_iload dX12_june_254 rfl ?_
                        exact go_iret dX12_june_256 rfl (Nat.le_of_ble_eq_true rfl) (Nat.le_of_ble_eq_true rfl) (hQ9 ▸ ⟨rd_i (by unfold junS; rw [if_pos c14, if_neg c28_g, kjd, eR, nI_clamp (by omega), if_neg (by simp [c36, c49]), hy, show N - 0 = N from rfl]; simp [c236, c246]), rfl, rfl⟩)
                      · subst c246
                        refine go_iload dX12_june_249 rfl ?_
                        refine go_goto dX12_june_251 ?_
                        exact go_iret dX12_june_256 rfl (Nat.le_of_ble_eq_true rfl) (Nat.le_of_ble_eq_true rfl) (hQ9 ▸ ⟨rd_i (by unfold junS; rw [if_pos c14, if_neg c28_g, kjd, eR, nI_clamp (by omega), if_neg (by simp [c36, c49]), hx, show N - 0 = N from rfl]; simp [c236]), rfl, rfl⟩)
                    · subst c236
                      refine go_iload dX12_june_239 rfl ?_
                      refine go_goto dX12_june_241 ?_
                      exact go_iret dX12_june_256 rfl (Nat.le_of_ble_eq_true rfl) (Nat.le_of_ble_eq_true rfl) (hQ9 ▸ ⟨rd_i (by unfold junS; rw [if_pos c14, if_neg c28_g, kjd, eR, nI_clamp (by omega), if_neg (by simp [c36, c49]), hw, show N - 0 = N from rfl]; simp []), rfl, rfl⟩)
                  · exact absurd (by decide) c85
                · refine go_ls (ls' := [some (.ref q), some (.int (nI jd)), some (.int what), none, some (.int w), some (.int x), some (.int y), some (.int (nI a)), none, none]) (by rw [nI_pred]) ?_
                  refine go_iload dX12_june_83 rfl ?_
                  refine go_if_lt dX12_june_85 (fun c85 => ?_) (fun c85 => ?_)
                  · have c85n := (n0_lt (a := a) (by omega)).mp c85
                    first | exact absurd c85n (by decide) | exact absurd (by decide) c85n | exact absurd rfl c85n | omega
                  · have c85n := mt (n0_lt (a := a) (by omega)).mpr c85
                    refine go_iload dX12_june_88 rfl ?_
                    refine go_aload_n dX12_june_90 rfl ?_
                    refine go_get dX12_june_91 fl_X12_19_12 mo_obj hq (by omega) rfl ?_
                    refine go_iload dX12_june_94 rfl ?_
                    refine go_iald dX12_june_96 (mo_arr 4 (by decide)) (by omega) (by omega) (vp_in_nI (n := a) (by show a < 8; omega) (by decide)) ?_
                    refine go_tp (z := A 4 a) (by rw [nI_clamp (by omega)]) ?_
                    refine go_i2l dX12_june_97 ?_
                    refine go_aload_n dX12_june_98 rfl ?_
                    refine go_get dX12_june_99 fl_X12_46_12 mo_obj hq (by omega) rfl ?_
                    refine go_bipush (v := 100) dX12_june_102 rfl ?_
                    refine go_iload_n dX12_june_104 rfl ?_
                    refine go_imul dX12_june_105 ?_
                    refine go_tp (z := nI (100 * jd)) (pk_mul 100 jd) ?_
                    refine go_iload dX12_june_106 rfl ?_
                    refine go_iadd dX12_june_108 ?_
                    refine go_tp (z := nI ((100 * jd) + a)) (nI_add (100 * jd) a) ?_
                    refine go_lald dX12_june_109 (mo_lrr 13 (by decide)) (by omega) (by omega) (vp_in_nI (n := (100 * jd) + a) (by show (100 * jd) + a < 800; omega) (by decide)) ?_
                    refine go_tl (z := L 13 ((100 * jd) + a)) (by rw [nI_clamp (by omega)]) ?_
                    refine go_lcmp dX12_june_110 ?_
                    refine go_if_ne dX12_june_111 (fun c111 => ?_) (fun c111 => ?_)
                    · have c111 := mt (lc_eq _ _).mpr c111
                      refine go_iconst (v := 1) dX12_june_118 rfl ?_
                      refine go_iload dX12_june_119 rfl ?_
                      refine go_ishl dX12_june_121 ?_
                      refine go_ior dX12_june_122 ?_
                      refine go_istore (ls' := [some (.ref q), some (.int (nI jd)), some (.int what), none, some (.int (w ||| ((1) <<< ((nI a) &&& 31)))), some (.int x), some (.int y), some (.int (nI a)), none, none]) dX12_june_123 ⟨by decide, rfl, rfl⟩ ?_
                      refine go_aload_n dX12_june_125 rfl ?_
                      refine go_get dX12_june_126 fl_X12_87_12 mo_obj hq (by omega) rfl ?_
                      refine go_tp (z := nI N) (hN) ?_
                      refine go_iconst (v := 1) dX12_june_129 rfl ?_
                      refine go_isub dX12_june_130 ?_
                      refine go_istore (ls' := [some (.ref q), some (.int (nI jd)), some (.int what), none, some (.int (w ||| ((1) <<< ((nI a) &&& 31)))), some (.int x), some (.int y), some (.int (nI a)), some (.int ((nI N) - 1)), none]) dX12_june_131 ⟨by decide, rfl, rfl⟩ ?_
                      have lp1 : ∀ (μ_lp1 : Nat) (k : Nat) (u : Int32) (v : Int32) (z : Int32) (hlk : a + 1 ≤ k) (hk : k ≤ N) (hmk : k + 1 ≤ μ_lp1) (hu : u = x + cfB (juP N A L jd a) k (N - k)) (hv : v = f1B (juP N A L jd a) a y k (N - k)) (hz : z = bdB (astP A L jd) a (N - a)), Go G mX12_june 3 0 0 Q9 0 0 133 [some (.ref q), some (.int (nI jd)), some (.int what), none, some (.int z), some (.int u), some (.int v), some (.int (nI a)), some (.int (nI k - 1)), none] [] (mo G m0 q (upd F 16 (0)) A L K) n := by
                        intro μ_lp1
                        induction μ_lp1 with
                        | zero =>
                          intro k u v z hlk hk hmk hu hv hz
                          exact absurd hmk (by omega)
                        | succ μ_lp1 ih_lp1 =>
                          intro k u v z hlk hk hmk hu hv hz
                          rcases Nat.lt_or_ge (a + 1) k with hzk | hzk
                          rotate_left
                          · obtain rfl : k = a + 1 := by omega
                            refine go_ls (ls' := [some (.ref q), some (.int (nI jd)), some (.int what), none, some (.int z), some (.int u), some (.int v), some (.int (nI a)), some (.int (nI a)), none]) (by rw [nI_pred]) ?_
                            refine go_iload dX12_june_133 rfl ?_
                            refine go_iload dX12_june_135 rfl ?_
                            refine go_icmp_le dX12_june_137 (fun c137 => ?_) (fun c137 => ?_)
                            · have c137n := (nI_leI (a := a) (b := a) (by omega) (by omega)).mp c137
                              have c137n := Nat.not_lt.mpr c137n
                              have c137 := Int32.not_lt.mpr c137
                              refine go_iinc (v := (nI a) - 1) (ls' := [some (.ref q), some (.int (nI jd)), some (.int what), none, some (.int z), some (.int u), some (.int v), some (.int ((nI a) - 1)), some (.int (nI a)), none]) dX12_june_229 rfl (i32_m1 _) ⟨by decide, rfl, rfl⟩ ?_
                              refine go_goto dX12_june_232 ?_
                              refine go_weak (ls' := [some (.ref q), some (.int (nI jd)), some (.int what), none, some (.int z), some (.int u), some (.int v), some (.int ((nI a) - 1)), none, none]) ⟨rfl, rfl, rfl, rfl, rfl, rfl, rfl, trivial⟩ ?_
                              exact ih_lp0 a _ _ _ (by omega) (by omega) (by rw [c2B_d (by omega), hu, hx]) (by rw [f2B_d (by omega), hv, hy]) (hz)
                            · have c137n := mt (nI_leI (a := a) (b := a) (by omega) (by omega)).mpr c137
                              have c137n := Nat.lt_of_not_le c137n
                              have c137 := Int32.not_le.mp c137
                              first | exact absurd c137n (by decide) | exact absurd (by decide) c137n | exact absurd rfl c137n | omega
                          · obtain ⟨k, rfl⟩ : ∃ z, k = z + 1 := ⟨k - 1, by omega⟩
                            refine go_ls (ls' := [some (.ref q), some (.int (nI jd)), some (.int what), none, some (.int z), some (.int u), some (.int v), some (.int (nI a)), some (.int (nI k)), none]) (by rw [nI_pred]) ?_
                            refine go_iload dX12_june_133 rfl ?_
                            refine go_iload dX12_june_135 rfl ?_
                            refine go_icmp_le dX12_june_137 (fun c137 => ?_) (fun c137 => ?_)
                            · have c137n := (nI_leI (a := k) (b := a) (by omega) (by omega)).mp c137
                              have c137n := Nat.not_lt.mpr c137n
                              have c137 := Int32.not_lt.mpr c137
                              omega
                            · have c137n := mt (nI_leI (a := k) (b := a) (by omega) (by omega)).mpr c137
                              have c137n := Nat.lt_of_not_le c137n
                              have c137 := Int32.not_le.mp c137
                              refine go_aload_n dX12_june_140 rfl ?_
                              refine go_iload dX12_june_141 rfl ?_
                              refine go_iload dX12_june_143 rfl ?_
                              refine go_V [.int (nI a), .int (nI k)] [] dX12_june_145 vl_X12_171 ⟨by decide, by decide⟩ (e_X12_swapPlaces (F := (upd F 16 (0))) (A := A) (L := L) (K := K) hq hn (by omega) (by omega)) mo_obj hq (by omega) rfl rfl (Nat.le_of_ble_eq_true rfl) (Nat.le_of_ble_eq_true rfl) (Nat.le_of_ble_eq_true rfl) (fun r145 f145 n145 h145 => ?_)
                              obtain ⟨rfl, rfl, rfl⟩ := h145
                              refine go_aload_n dX12_june_148 rfl ?_
                              refine go_get dX12_june_149 fl_X12_19_12 mo_obj hq (by omega) rfl ?_
                              refine go_iload dX12_june_152 rfl ?_
                              refine go_iald dX12_june_154 (mo_arr 4 (by decide)) (by omega) (by omega) (vp_in_nI (n := a) (by show a < 8; omega) (by decide)) ?_
                              refine go_tp (z := (swS A a k) 4 a) (by rw [nI_clamp (by omega)]) ?_
                              refine go_aload_n dX12_june_155 rfl ?_
                              refine go_get dX12_june_156 fl_X12_19_12 mo_obj hq (by omega) rfl ?_
                              refine go_iload dX12_june_159 rfl ?_
                              refine go_iald dX12_june_161 (mo_arr 4 (by decide)) (by omega) (by omega) (vp_in_nI (n := k) (by show k < 8; omega) (by decide)) ?_
                              refine go_tp (z := (swS A a k) 4 k) (by rw [nI_clamp (by omega)]) ?_
                              refine go_icmp_eq dX12_june_162 (fun c162 => ?_) (fun c162 => ?_)
                              · refine go_iconst (v := 0) dX12_june_177 rfl ?_
                                refine go_istore (ls' := [some (.ref q), some (.int (nI jd)), some (.int what), none, some (.int z), some (.int u), some (.int v), some (.int (nI a)), some (.int (nI k)), some (.int 0)]) dX12_june_178 ⟨by decide, rfl, rfl⟩ ?_
                                refine go_aload_n dX12_june_180 rfl ?_
                                refine go_iload dX12_june_181 rfl ?_
                                refine go_iload dX12_june_183 rfl ?_
                                refine go_V [.int (nI a), .int (nI k)] [] dX12_june_185 vl_X12_171 ⟨by decide, by decide⟩ (e_X12_swapPlaces (F := (upd F 16 (0))) (A := (swS A a k)) (L := L) (K := K) hq hn (by omega) (by omega)) mo_obj hq (by omega) rfl rfl (Nat.le_of_ble_eq_true rfl) (Nat.le_of_ble_eq_true rfl) (Nat.le_of_ble_eq_true rfl) (fun r185 f185 n185 h185 => ?_)
                                obtain ⟨rfl, rfl, rfl⟩ := h185
                                refine go_mem (f' := (mo G m0 q (upd F 16 (0)) A L K)) (by rw [swS_2]) ?_
                                refine go_iload dX12_june_188 rfl ?_
                                refine go_iload dX12_june_190 rfl ?_
                                refine go_if_eq dX12_june_192 (fun c192 => ?_) (fun c192 => ?_)
                                · have c192n := (n0_eq (a := 0) (by omega)).mp c192
                                  refine go_iconst (v := 0) dX12_june_199 rfl ?_
                                  refine go_iadd dX12_june_200 ?_
                                  refine go_istore (ls' := [some (.ref q), some (.int (nI jd)), some (.int what), none, some (.int z), some (.int (u + 0)), some (.int v), some (.int (nI a)), some (.int (nI k)), some (.int 0)]) dX12_june_201 ⟨by decide, rfl, rfl⟩ ?_
                                  refine go_iload dX12_june_203 rfl ?_
                                  refine go_if_eq dX12_june_205 (fun c205 => ?_) (fun c205 => ?_)
                                  · have c205n := (n0_eq (a := 0) (by omega)).mp c205
                                    refine go_iload dX12_june_219 rfl ?_
                                    refine go_istore (ls' := [some (.ref q), some (.int (nI jd)), some (.int what), none, some (.int z), some (.int (u + 0)), some (.int v), some (.int (nI a)), some (.int (nI k)), some (.int 0)]) dX12_june_221 ⟨by decide, rfl, rfl⟩ ?_
                                    refine go_iinc (v := (nI k) - 1) (ls' := [some (.ref q), some (.int (nI jd)), some (.int what), none, some (.int z), some (.int (u + 0)), some (.int v), some (.int (nI a)), some (.int ((nI k) - 1)), some (.int 0)]) dX12_june_223 rfl (i32_m1 _) ⟨by decide, rfl, rfl⟩ ?_
                                    refine go_goto dX12_june_226 ?_
                                    refine go_weak (ls' := [some (.ref q), some (.int (nI jd)), some (.int what), none, some (.int z), some (.int (u + 0)), some (.int v), some (.int (nI a)), some (.int ((nI k) - 1)), none]) ⟨rfl, rfl, rfl, rfl, rfl, rfl, rfl, rfl, trivial⟩ ?_
                                    exact ih_lp1 k _ _ _ (by omega) (by omega) (by omega) (by rw [cfB_d (by omega), ← Int32.add_assoc, hu]; first | (simp [juP, c14, c28, kjd, c36, c49, c60, c111, c137, c137n, c162]; done) | (simp [juP, c14, c28, kjd, c36, c49, c60, c111, c137, c137n, c162, c49n]; done)) (by rw [f1B_d (by omega)]; first | (simp [hv, juP, c14, c28, kjd, c36, c49, c60, c111, c137, c137n, c162]; done) | (simp [hv, juP, c14, c28, kjd, c36, c49, c60, c111, c137, c137n, c162, c49n]; done)) (hz)
                                  · have c205n := mt (n0_eq (a := 0) (by omega)).mpr c205
                                    first | exact absurd c205n (by decide) | exact absurd (by decide) c205n | exact absurd rfl c205n | omega
                                · have c192n := mt (n0_eq (a := 0) (by omega)).mpr c192
                                  first | exact absurd c192n (by decide) | exact absurd (by decide) c192n | exact absurd rfl c192n | omega
                              · refine go_aload_n dX12_june_165 rfl ?_
                                refine go_iload_n dX12_june_166 rfl ?_
                                refine go_Vr [.int (nI jd)] [] dX12_june_167 vl_X12_335 ⟨by decide, by decide⟩ (e_X12_areAsTold (F := (upd F 16 (0))) (A := (swS A a k)) (L := L) (K := K) hq hn hN hN8 (by omega)) mo_obj hq (by omega) rfl rfl (Nat.le_of_ble_eq_true rfl) (Nat.le_of_ble_eq_true rfl) (Nat.le_of_ble_eq_true rfl) ?_
                                refine go_if_eq dX12_june_170 (fun c170 => ?_) (fun c170 => ?_)
                                · have c170 := bz_f c170
                                  refine go_iconst (v := 0) dX12_june_177 rfl ?_
                                  refine go_istore (ls' := [some (.ref q), some (.int (nI jd)), some (.int what), none, some (.int z), some (.int u), some (.int v), some (.int (nI a)), some (.int (nI k)), some (.int 0)]) dX12_june_178 ⟨by decide, rfl, rfl⟩ ?_
                                  refine go_aload_n dX12_june_180 rfl ?_
                                  refine go_iload dX12_june_181 rfl ?_
                                  refine go_iload dX12_june_183 rfl ?_
                                  refine go_V [.int (nI a), .int (nI k)] [] dX12_june_185 vl_X12_171 ⟨by decide, by decide⟩ (e_X12_swapPlaces (F := (upd F 16 (0))) (A := (swS A a k)) (L := L) (K := K) hq hn (by omega) (by omega)) mo_obj hq (by omega) rfl rfl (Nat.le_of_ble_eq_true rfl) (Nat.le_of_ble_eq_true rfl) (Nat.le_of_ble_eq_true rfl) (fun r185 f185 n185 h185 => ?_)
                                  obtain ⟨rfl, rfl, rfl⟩ := h185
                                  refine go_mem (f' := (mo G m0 q (upd F 16 (0)) A L K)) (by rw [swS_2]) ?_
                                  refine go_iload dX12_june_188 rfl ?_
                                  refine go_iload dX12_june_190 rfl ?_
                                  refine go_if_eq dX12_june_192 (fun c192 => ?_) (fun c192 => ?_)
                                  · have c192n := (n0_eq (a := 0) (by omega)).mp c192
                                    refine go_iconst (v := 0) dX12_june_199 rfl ?_
                                    refine go_iadd dX12_june_200 ?_
                                    refine go_istore (ls' := [some (.ref q), some (.int (nI jd)), some (.int what), none, some (.int z), some (.int (u + 0)), some (.int v), some (.int (nI a)), some (.int (nI k)), some (.int 0)]) dX12_june_201 ⟨by decide, rfl, rfl⟩ ?_
                                    refine go_iload dX12_june_203 rfl ?_
                                    refine go_if_eq dX12_june_205 (fun c205 => ?_) (fun c205 => ?_)
                                    · have c205n := (n0_eq (a := 0) (by omega)).mp c205
                                      refine go_iload dX12_june_219 rfl ?_
                                      refine go_istore (ls' := [some (.ref q), some (.int (nI jd)), some (.int what), none, some (.int z), some (.int (u + 0)), some (.int v), some (.int (nI a)), some (.int (nI k)), some (.int 0)]) dX12_june_221 ⟨by decide, rfl, rfl⟩ ?_
                                      refine go_iinc (v := (nI k) - 1) (ls' := [some (.ref q), some (.int (nI jd)), some (.int what), none, some (.int z), some (.int (u + 0)), some (.int v), some (.int (nI a)), some (.int ((nI k) - 1)), some (.int 0)]) dX12_june_223 rfl (i32_m1 _) ⟨by decide, rfl, rfl⟩ ?_
                                      refine go_goto dX12_june_226 ?_
                                      refine go_weak (ls' := [some (.ref q), some (.int (nI jd)), some (.int what), none, some (.int z), some (.int (u + 0)), some (.int v), some (.int (nI a)), some (.int ((nI k) - 1)), none]) ⟨rfl, rfl, rfl, rfl, rfl, rfl, rfl, rfl, trivial⟩ ?_
                                      exact ih_lp1 k _ _ _ (by omega) (by omega) (by omega) (by rw [cfB_d (by omega), ← Int32.add_assoc, hu]; first | (simp [juP, c14, c28, kjd, c36, c49, c60, c111, c137, c137n, c162, c170]; done) | (simp [juP, c14, c28, kjd, c36, c49, c60, c111, c137, c137n, c162, c170, c49n]; done)) (by rw [f1B_d (by omega)]; first | (simp [hv, juP, c14, c28, kjd, c36, c49, c60, c111, c137, c137n, c162, c170]; done) | (simp [hv, juP, c14, c28, kjd, c36, c49, c60, c111, c137, c137n, c162, c170, c49n]; done)) (hz)
                                    · have c205n := mt (n0_eq (a := 0) (by omega)).mpr c205
                                      first | exact absurd c205n (by decide) | exact absurd (by decide) c205n | exact absurd rfl c205n | omega
                                  · have c192n := mt (n0_eq (a := 0) (by omega)).mpr c192
                                    first | exact absurd c192n (by decide) | exact absurd (by decide) c192n | exact absurd rfl c192n | omega
                                · have c170 := bz_t c170
                                  refine go_iconst (v := 1) dX12_june_173 rfl ?_
                                  refine go_goto dX12_june_174 ?_
                                  refine go_istore (ls' := [some (.ref q), some (.int (nI jd)), some (.int what), none, some (.int z), some (.int u), some (.int v), some (.int (nI a)), some (.int (nI k)), some (.int 1)]) dX12_june_178 ⟨by decide, rfl, rfl⟩ ?_
                                  refine go_aload_n dX12_june_180 rfl ?_
                                  refine go_iload dX12_june_181 rfl ?_
                                  refine go_iload dX12_june_183 rfl ?_
                                  refine go_V [.int (nI a), .int (nI k)] [] dX12_june_185 vl_X12_171 ⟨by decide, by decide⟩ (e_X12_swapPlaces (F := (upd F 16 (0))) (A := (swS A a k)) (L := L) (K := K) hq hn (by omega) (by omega)) mo_obj hq (by omega) rfl rfl (Nat.le_of_ble_eq_true rfl) (Nat.le_of_ble_eq_true rfl) (Nat.le_of_ble_eq_true rfl) (fun r185 f185 n185 h185 => ?_)
                                  obtain ⟨rfl, rfl, rfl⟩ := h185
                                  refine go_mem (f' := (mo G m0 q (upd F 16 (0)) A L K)) (by rw [swS_2]) ?_
                                  refine go_iload dX12_june_188 rfl ?_
                                  refine go_iload dX12_june_190 rfl ?_
                                  refine go_if_eq dX12_june_192 (fun c192 => ?_) (fun c192 => ?_)
                                  · have c192n := (n0_eq (a := 1) (by omega)).mp c192
                                    first | exact absurd c192n (by decide) | exact absurd (by decide) c192n | exact absurd rfl c192n | omega
                                  · have c192n := mt (n0_eq (a := 1) (by omega)).mpr c192
                                    refine go_iconst (v := 1) dX12_june_195 rfl ?_
                                    refine go_goto dX12_june_196 ?_
                                    refine go_iadd dX12_june_200 ?_
                                    refine go_istore (ls' := [some (.ref q), some (.int (nI jd)), some (.int what), none, some (.int z), some (.int (u + 1)), some (.int v), some (.int (nI a)), some (.int (nI k)), some (.int 1)]) dX12_june_201 ⟨by decide, rfl, rfl⟩ ?_
                                    refine go_iload dX12_june_203 rfl ?_
                                    refine go_if_eq dX12_june_205 (fun c205 => ?_) (fun c205 => ?_)
                                    · have c205n := (n0_eq (a := 1) (by omega)).mp c205
                                      first | exact absurd c205n (by decide) | exact absurd (by decide) c205n | exact absurd rfl c205n | omega
                                    · have c205n := mt (n0_eq (a := 1) (by omega)).mpr c205
                                      refine go_bipush (v := 10) dX12_june_208 rfl ?_
                                      refine go_iload dX12_june_210 rfl ?_
                                      refine go_imul dX12_june_212 ?_
                                      refine go_tp (z := nI (10 * a)) (pk_mul 10 a) ?_
                                      refine go_iload dX12_june_213 rfl ?_
                                      refine go_iadd dX12_june_215 ?_
                                      refine go_tp (z := nI ((10 * a) + k)) (nI_add (10 * a) k) ?_
                                      refine go_goto dX12_june_216 ?_
                                      refine go_istore (ls' := [some (.ref q), some (.int (nI jd)), some (.int what), none, some (.int z), some (.int (u + 1)), some (.int (nI ((10 * a) + k))), some (.int (nI a)), some (.int (nI k)), some (.int 1)]) dX12_june_221 ⟨by decide, rfl, rfl⟩ ?_
                                      refine go_iinc (v := (nI k) - 1) (ls' := [some (.ref q), some (.int (nI jd)), some (.int what), none, some (.int z), some (.int (u + 1)), some (.int (nI ((10 * a) + k))), some (.int (nI a)), some (.int ((nI k) - 1)), some (.int 1)]) dX12_june_223 rfl (i32_m1 _) ⟨by decide, rfl, rfl⟩ ?_
                                      refine go_goto dX12_june_226 ?_
                                      refine go_weak (ls' := [some (.ref q), some (.int (nI jd)), some (.int what), none, some (.int z), some (.int (u + 1)), some (.int (nI ((10 * a) + k))), some (.int (nI a)), some (.int ((nI k) - 1)), none]) ⟨rfl, rfl, rfl, rfl, rfl, rfl, rfl, rfl, trivial⟩ ?_
                                      exact ih_lp1 k _ _ _ (by omega) (by omega) (by omega) (by rw [cfB_d (by omega), ← Int32.add_assoc, hu]; first | (simp [juP, c14, c28, kjd, c36, c49, c60, c111, c137, c137n, c162, c170]; done) | (simp [juP, c14, c28, kjd, c36, c49, c60, c111, c137, c137n, c162, c170, c49n]; done)) (by rw [f1B_d (by omega)]; first | (simp [hv, juP, c14, c28, kjd, c36, c49, c60, c111, c137, c137n, c162, c170]; done) | (simp [hv, juP, c14, c28, kjd, c36, c49, c60, c111, c137, c137n, c162, c170, c49n]; done)) (hz)
                      exact lp1 (N + 1) N _ _ _ (by omega) (Nat.le_refl _) (Nat.le_refl _) (by rw [cfB_0, Int32.add_zero]) (by rw [f1B_0]) (by rw [bdB_d (by omega), hw]; first | (simp [astP, c14, c28, kjd, c36, c49, c60, c111]; done) | (simp [astP, c14, c28, kjd, c36, c49, c60, c111, c49n]; done))
                    · have c111 := (lc_eq _ _).mp c111
                      refine go_iconst (v := 0) dX12_june_114 rfl ?_
                      refine go_goto dX12_june_115 ?_
                      refine go_ior dX12_june_122 ?_
                      refine go_istore (ls' := [some (.ref q), some (.int (nI jd)), some (.int what), none, some (.int (w ||| 0)), some (.int x), some (.int y), some (.int (nI a)), none, none]) dX12_june_123 ⟨by decide, rfl, rfl⟩ ?_
                      refine go_aload_n dX12_june_125 rfl ?_
                      refine go_get dX12_june_126 fl_X12_87_12 mo_obj hq (by omega) rfl ?_
                      refine go_tp (z := nI N) (hN) ?_
                      refine go_iconst (v := 1) dX12_june_129 rfl ?_
                      refine go_isub dX12_june_130 ?_
                      refine go_istore (ls' := [some (.ref q), some (.int (nI jd)), some (.int what), none, some (.int (w ||| 0)), some (.int x), some (.int y), some (.int (nI a)), some (.int ((nI N) - 1)), none]) dX12_june_131 ⟨by decide, rfl, rfl⟩ ?_
                      have lp1 : ∀ (μ_lp1 : Nat) (k : Nat) (u : Int32) (v : Int32) (z : Int32) (hlk : a + 1 ≤ k) (hk : k ≤ N) (hmk : k + 1 ≤ μ_lp1) (hu : u = x + cfB (juP N A L jd a) k (N - k)) (hv : v = f1B (juP N A L jd a) a y k (N - k)) (hz : z = bdB (astP A L jd) a (N - a)), Go G mX12_june 3 0 0 Q9 0 0 133 [some (.ref q), some (.int (nI jd)), some (.int what), none, some (.int z), some (.int u), some (.int v), some (.int (nI a)), some (.int (nI k - 1)), none] [] (mo G m0 q (upd F 16 (0)) A L K) n := by
                        intro μ_lp1
                        induction μ_lp1 with
                        | zero =>
                          intro k u v z hlk hk hmk hu hv hz
                          exact absurd hmk (by omega)
                        | succ μ_lp1 ih_lp1 =>
                          intro k u v z hlk hk hmk hu hv hz
                          rcases Nat.lt_or_ge (a + 1) k with hzk | hzk
                          rotate_left
                          · obtain rfl : k = a + 1 := by omega
                            refine go_ls (ls' := [some (.ref q), some (.int (nI jd)), some (.int what), none, some (.int z), some (.int u), some (.int v), some (.int (nI a)), some (.int (nI a)), none]) (by rw [nI_pred]) ?_
                            refine go_iload dX12_june_133 rfl ?_
                            refine go_iload dX12_june_135 rfl ?_
                            refine go_icmp_le dX12_june_137 (fun c137 => ?_) (fun c137 => ?_)
                            · have c137n := (nI_leI (a := a) (b := a) (by omega) (by omega)).mp c137
                              have c137n := Nat.not_lt.mpr c137n
                              have c137 := Int32.not_lt.mpr c137
                              refine go_iinc (v := (nI a) - 1) (ls' := [some (.ref q), some (.int (nI jd)), some (.int what), none, some (.int z), some (.int u), some (.int v), some (.int ((nI a) - 1)), some (.int (nI a)), none]) dX12_june_229 rfl (i32_m1 _) ⟨by decide, rfl, rfl⟩ ?_
                              refine go_goto dX12_june_232 ?_
                              refine go_weak (ls' := [some (.ref q), some (.int (nI jd)), some (.int what), none, some (.int z), some (.int u), some (.int v), some (.int ((nI a) - 1)), none, none]) ⟨rfl, rfl, rfl, rfl, rfl, rfl, rfl, trivial⟩ ?_
                              exact ih_lp0 a _ _ _ (by omega) (by omega) (by rw [c2B_d (by omega), hu, hx]) (by rw [f2B_d (by omega), hv, hy]) (hz)
                            · have c137n := mt (nI_leI (a := a) (b := a) (by omega) (by omega)).mpr c137
                              have c137n := Nat.lt_of_not_le c137n
                              have c137 := Int32.not_le.mp c137
                              first | exact absurd c137n (by decide) | exact absurd (by decide) c137n | exact absurd rfl c137n | omega
                          · obtain ⟨k, rfl⟩ : ∃ z, k = z + 1 := ⟨k - 1, by omega⟩
                            refine go_ls (ls' := [some (.ref q), some (.int (nI jd)), some (.int what), none, some (.int z), some (.int u), some (.int v), some (.int (nI a)), some (.int (nI k)), none]) (by rw [nI_pred]) ?_
                            refine go_iload dX12_june_133 rfl ?_
                            refine go_iload dX12_june_135 rfl ?_
                            refine go_icmp_le dX12_june_137 (fun c137 => ?_) (fun c137 => ?_)
                            · have c137n := (nI_leI (a := k) (b := a) (by omega) (by omega)).mp c137
                              have c137n := Nat.not_lt.mpr c137n
                              have c137 := Int32.not_lt.mpr c137
                              omega
                            · have c137n := mt (nI_leI (a := k) (b := a) (by omega) (by omega)).mpr c137
                              have c137n := Nat.lt_of_not_le c137n
                              have c137 := Int32.not_le.mp c137
                              refine go_aload_n dX12_june_140 rfl ?_
                              refine go_iload dX12_june_141 rfl ?_
                              refine go_iload dX12_june_143 rfl ?_
                              refine go_V [.int (nI a), .int (nI k)] [] dX12_june_145 vl_X12_171 ⟨by decide, by decide⟩ (e_X12_swapPlaces (F := (upd F 16 (0))) (A := A) (L := L) (K := K) hq hn (by omega) (by omega)) mo_obj hq (by omega) rfl rfl (Nat.le_of_ble_eq_true rfl) (Nat.le_of_ble_eq_true rfl) (Nat.le_of_ble_eq_true rfl) (fun r145 f145 n145 h145 => ?_)
                              obtain ⟨rfl, rfl, rfl⟩ := h145
                              refine go_aload_n dX12_june_148 rfl ?_
                              refine go_get dX12_june_149 fl_X12_19_12 mo_obj hq (by omega) rfl ?_
                              refine go_iload dX12_june_152 rfl ?_
                              refine go_iald dX12_june_154 (mo_arr 4 (by decide)) (by omega) (by omega) (vp_in_nI (n := a) (by show a < 8; omega) (by decide)) ?_
                              refine go_tp (z := (swS A a k) 4 a) (by rw [nI_clamp (by omega)]) ?_
                              refine go_aload_n dX12_june_155 rfl ?_
                              refine go_get dX12_june_156 fl_X12_19_12 mo_obj hq (by omega) rfl ?_
                              refine go_iload dX12_june_159 rfl ?_
                              refine go_iald dX12_june_161 (mo_arr 4 (by decide)) (by omega) (by omega) (vp_in_nI (n := k) (by show k < 8; omega) (by decide)) ?_
                              refine go_tp (z := (swS A a k) 4 k) (by rw [nI_clamp (by omega)]) ?_
                              refine go_icmp_eq dX12_june_162 (fun c162 => ?_) (fun c162 => ?_)
                              · refine go_iconst (v := 0) dX12_june_177 rfl ?_
                                refine go_istore (ls' := [some (.ref q), some (.int (nI jd)), some (.int what), none, some (.int z), some (.int u), some (.int v), some (.int (nI a)), some (.int (nI k)), some (.int 0)]) dX12_june_178 ⟨by decide, rfl, rfl⟩ ?_
                                refine go_aload_n dX12_june_180 rfl ?_
                                refine go_iload dX12_june_181 rfl ?_
                                refine go_iload dX12_june_183 rfl ?_
                                refine go_V [.int (nI a), .int (nI k)] [] dX12_june_185 vl_X12_171 ⟨by decide, by decide⟩ (e_X12_swapPlaces (F := (upd F 16 (0))) (A := (swS A a k)) (L := L) (K := K) hq hn (by omega) (by omega)) mo_obj hq (by omega) rfl rfl (Nat.le_of_ble_eq_true rfl) (Nat.le_of_ble_eq_true rfl) (Nat.le_of_ble_eq_true rfl) (fun r185 f185 n185 h185 => ?_)
                                obtain ⟨rfl, rfl, rfl⟩ := h185
                                refine go_mem (f' := (mo G m0 q (upd F 16 (0)) A L K)) (by rw [swS_2]) ?_
                                refine go_iload dX12_june_188 rfl ?_
                                refine go_iload dX12_june_190 rfl ?_
                                refine go_if_eq dX12_june_192 (fun c192 => ?_) (fun c192 => ?_)
                                · have c192n := (n0_eq (a := 0) (by omega)).mp c192
                                  refine go_iconst (v := 0) dX12_june_199 rfl ?_
                                  refine go_iadd dX12_june_200 ?_
                                  refine go_istore (ls' := [some (.ref q), some (.int (nI jd)), some (.int what), none, some (.int z), some (.int (u + 0)), some (.int v), some (.int (nI a)), some (.int (nI k)), some (.int 0)]) dX12_june_201 ⟨by decide, rfl, rfl⟩ ?_
                                  refine go_iload dX12_june_203 rfl ?_
                                  refine go_if_eq dX12_june_205 (fun c205 => ?_) (fun c205 => ?_)
                                  · have c205n := (n0_eq (a := 0) (by omega)).mp c205
                                    refine go_iload dX12_june_219 rfl ?_
                                    refine go_istore (ls' := [some (.ref q), some (.int (nI jd)), some (.int what), none, some (.int z), some (.int (u + 0)), some (.int v), some (.int (nI a)), some (.int (nI k)), some (.int 0)]) dX12_june_221 ⟨by decide, rfl, rfl⟩ ?_
                                    refine go_iinc (v := (nI k) - 1) (ls' := [some (.ref q), some (.int (nI jd)), some (.int what), none, some (.int z), some (.int (u + 0)), some (.int v), some (.int (nI a)), some (.int ((nI k) - 1)), some (.int 0)]) dX12_june_223 rfl (i32_m1 _) ⟨by decide, rfl, rfl⟩ ?_
                                    refine go_goto dX12_june_226 ?_
                                    refine go_weak (ls' := [some (.ref q), some (.int (nI jd)), some (.int what), none, some (.int z), some (.int (u + 0)), some (.int v), some (.int (nI a)), some (.int ((nI k) - 1)), none]) ⟨rfl, rfl, rfl, rfl, rfl, rfl, rfl, rfl, trivial⟩ ?_
                                    exact ih_lp1 k _ _ _ (by omega) (by omega) (by omega) (by rw [cfB_d (by omega), ← Int32.add_assoc, hu]; first | (simp [juP, c14, c28, kjd, c36, c49, c60, c111, c137, c137n, c162]; done) | (simp [juP, c14, c28, kjd, c36, c49, c60, c111, c137, c137n, c162, c49n]; done)) (by rw [f1B_d (by omega)]; first | (simp [hv, juP, c14, c28, kjd, c36, c49, c60, c111, c137, c137n, c162]; done) | (simp [hv, juP, c14, c28, kjd, c36, c49, c60, c111, c137, c137n, c162, c49n]; done)) (hz)
                                  · have c205n := mt (n0_eq (a := 0) (by omega)).mpr c205
                                    first | exact absurd c205n (by decide) | exact absurd (by decide) c205n | exact absurd rfl c205n | omega
                                · have c192n := mt (n0_eq (a := 0) (by omega)).mpr c192
                                  first | exact absurd c192n (by decide) | exact absurd (by decide) c192n | exact absurd rfl c192n | omega
                              · refine go_aload_n dX12_june_165 rfl ?_
                                refine go_iload_n dX12_june_166 rfl ?_
                                refine go_Vr [.int (nI jd)] [] dX12_june_167 vl_X12_335 ⟨by decide, by decide⟩ (e_X12_areAsTold (F := (upd F 16 (0))) (A := (swS A a k)) (L := L) (K := K) hq hn hN hN8 (by omega)) mo_obj hq (by omega) rfl rfl (Nat.le_of_ble_eq_true rfl) (Nat.le_of_ble_eq_true rfl) (Nat.le_of_ble_eq_true rfl) ?_
                                refine go_if_eq dX12_june_170 (fun c170 => ?_) (fun c170 => ?_)
                                · have c170 := bz_f c170
                                  refine go_iconst (v := 0) dX12_june_177 rfl ?_
                                  refine go_istore (ls' := [some (.ref q), some (.int (nI jd)), some (.int what), none, some (.int z), some (.int u), some (.int v), some (.int (nI a)), some (.int (nI k)), some (.int 0)]) dX12_june_178 ⟨by decide, rfl, rfl⟩ ?_
                                  refine go_aload_n dX12_june_180 rfl ?_
                                  refine go_iload dX12_june_181 rfl ?_
                                  refine go_iload dX12_june_183 rfl ?_
                                  refine go_V [.int (nI a), .int (nI k)] [] dX12_june_185 vl_X12_171 ⟨by decide, by decide⟩ (e_X12_swapPlaces (F := (upd F 16 (0))) (A := (swS A a k)) (L := L) (K := K) hq hn (by omega) (by omega)) mo_obj hq (by omega) rfl rfl (Nat.le_of_ble_eq_true rfl) (Nat.le_of_ble_eq_true rfl) (Nat.le_of_ble_eq_true rfl) (fun r185 f185 n185 h185 => ?_)
                                  obtain ⟨rfl, rfl, rfl⟩ := h185
                                  refine go_mem (f' := (mo G m0 q (upd F 16 (0)) A L K)) (by rw [swS_2]) ?_
                                  refine go_iload dX12_june_188 rfl ?_
                                  refine go_iload dX12_june_190 rfl ?_
                                  refine go_if_eq dX12_june_192 (fun c192 => ?_) (fun c192 => ?_)
                                  · have c192n := (n0_eq (a := 0) (by omega)).mp c192
                                    refine go_iconst (v := 0) dX12_june_199 rfl ?_
                                    refine go_iadd dX12_june_200 ?_
                                    refine go_istore (ls' := [some (.ref q), some (.int (nI jd)), some (.int what), none, some (.int z), some (.int (u + 0)), some (.int v), some (.int (nI a)), some (.int (nI k)), some (.int 0)]) dX12_june_201 ⟨by decide, rfl, rfl⟩ ?_
                                    refine go_iload dX12_june_203 rfl ?_
                                    refine go_if_eq dX12_june_205 (fun c205 => ?_) (fun c205 => ?_)
                                    · have c205n := (n0_eq (a := 0) (by omega)).mp c205
                                      refine go_iload dX12_june_219 rfl ?_
                                      refine go_istore (ls' := [some (.ref q), some (.int (nI jd)), some (.int what), none, some (.int z), some (.int (u + 0)), some (.int v), some (.int (nI a)), some (.int (nI k)), some (.int 0)]) dX12_june_221 ⟨by decide, rfl, rfl⟩ ?_
                                      refine go_iinc (v := (nI k) - 1) (ls' := [some (.ref q), some (.int (nI jd)), some (.int what), none, some (.int z), some (.int (u + 0)), some (.int v), some (.int (nI a)), some (.int ((nI k) - 1)), some (.int 0)]) dX12_june_223 rfl (i32_m1 _) ⟨by decide, rfl, rfl⟩ ?_
                                      refine go_goto dX12_june_226 ?_
                                      refine go_weak (ls' := [some (.ref q), some (.int (nI jd)), some (.int what), none, some (.int z), some (.int (u + 0)), some (.int v), some (.int (nI a)), some (.int ((nI k) - 1)), none]) ⟨rfl, rfl, rfl, rfl, rfl, rfl, rfl, rfl, trivial⟩ ?_
                                      exact ih_lp1 k _ _ _ (by omega) (by omega) (by omega) (by rw [cfB_d (by omega), ← Int32.add_assoc, hu]; first | (simp [juP, c14, c28, kjd, c36, c49, c60, c111, c137, c137n, c162, c170]; done) | (simp [juP, c14, c28, kjd, c36, c49, c60, c111, c137, c137n, c162, c170, c49n]; done)) (by rw [f1B_d (by omega)]; first | (simp [hv, juP, c14, c28, kjd, c36, c49, c60, c111, c137, c137n, c162, c170]; done) | (simp [hv, juP, c14, c28, kjd, c36, c49, c60, c111, c137, c137n, c162, c170, c49n]; done)) (hz)
                                    · have c205n := mt (n0_eq (a := 0) (by omega)).mpr c205
                                      first | exact absurd c205n (by decide) | exact absurd (by decide) c205n | exact absurd rfl c205n | omega
                                  · have c192n := mt (n0_eq (a := 0) (by omega)).mpr c192
                                    first | exact absurd c192n (by decide) | exact absurd (by decide) c192n | exact absurd rfl c192n | omega
                                · have c170 := bz_t c170
                                  refine go_iconst (v := 1) dX12_june_173 rfl ?_
                                  refine go_goto dX12_june_174 ?_
                                  refine go_istore (ls' := [some (.ref q), some (.int (nI jd)), some (.int what), none, some (.int z), some (.int u), some (.int v), some (.int (nI a)), some (.int (nI k)), some (.int 1)]) dX12_june_178 ⟨by decide, rfl, rfl⟩ ?_
                                  refine go_aload_n dX12_june_180 rfl ?_
                                  refine go_iload dX12_june_181 rfl ?_
                                  refine go_iload dX12_june_183 rfl ?_
                                  refine go_V [.int (nI a), .int (nI k)] [] dX12_june_185 vl_X12_171 ⟨by decide, by decide⟩ (e_X12_swapPlaces (F := (upd F 16 (0))) (A := (swS A a k)) (L := L) (K := K) hq hn (by omega) (by omega)) mo_obj hq (by omega) rfl rfl (Nat.le_of_ble_eq_true rfl) (Nat.le_of_ble_eq_true rfl) (Nat.le_of_ble_eq_true rfl) (fun r185 f185 n185 h185 => ?_)
                                  obtain ⟨rfl, rfl, rfl⟩ := h185
                                  refine go_mem (f' := (mo G m0 q (upd F 16 (0)) A L K)) (by rw [swS_2]) ?_
                                  refine go_iload dX12_june_188 rfl ?_
                                  refine go_iload dX12_june_190 rfl ?_
                                  refine go_if_eq dX12_june_192 (fun c192 => ?_) (fun c192 => ?_)
                                  · have c192n := (n0_eq (a := 1) (by omega)).mp c192
                                    first | exact absurd c192n (by decide) | exact absurd (by decide) c192n | exact absurd rfl c192n | omega
                                  · have c192n := mt (n0_eq (a := 1) (by omega)).mpr c192
                                    refine go_iconst (v := 1) dX12_june_195 rfl ?_
                                    refine go_goto dX12_june_196 ?_
                                    refine go_iadd dX12_june_200 ?_
                                    refine go_istore (ls' := [some (.ref q), some (.int (nI jd)), some (.int what), none, some (.int z), some (.int (u + 1)), some (.int v), some (.int (nI a)), some (.int (nI k)), some (.int 1)]) dX12_june_201 ⟨by decide, rfl, rfl⟩ ?_
                                    refine go_iload dX12_june_203 rfl ?_
                                    refine go_if_eq dX12_june_205 (fun c205 => ?_) (fun c205 => ?_)
                                    · have c205n := (n0_eq (a := 1) (by omega)).mp c205
                                      first | exact absurd c205n (by decide) | exact absurd (by decide) c205n | exact absurd rfl c205n | omega
                                    · have c205n := mt (n0_eq (a := 1) (by omega)).mpr c205
                                      refine go_bipush (v := 10) dX12_june_208 rfl ?_
                                      refine go_iload dX12_june_210 rfl ?_
                                      refine go_imul dX12_june_212 ?_
                                      refine go_tp (z := nI (10 * a)) (pk_mul 10 a) ?_
                                      refine go_iload dX12_june_213 rfl ?_
                                      refine go_iadd dX12_june_215 ?_
                                      refine go_tp (z := nI ((10 * a) + k)) (nI_add (10 * a) k) ?_
                                      refine go_goto dX12_june_216 ?_
                                      refine go_istore (ls' := [some (.ref q), some (.int (nI jd)), some (.int what), none, some (.int z), some (.int (u + 1)), some (.int (nI ((10 * a) + k))), some (.int (nI a)), some (.int (nI k)), some (.int 1)]) dX12_june_221 ⟨by decide, rfl, rfl⟩ ?_
                                      refine go_iinc (v := (nI k) - 1) (ls' := [some (.ref q), some (.int (nI jd)), some (.int what), none, some (.int z), some (.int (u + 1)), some (.int (nI ((10 * a) + k))), some (.int (nI a)), some (.int ((nI k) - 1)), some (.int 1)]) dX12_june_223 rfl (i32_m1 _) ⟨by decide, rfl, rfl⟩ ?_
                                      refine go_goto dX12_june_226 ?_
                                      refine go_weak (ls' := [some (.ref q), some (.int (nI jd)), some (.int what), none, some (.int z), some (.int (u + 1)), some (.int (nI ((10 * a) + k))), some (.int (nI a)), some (.int ((nI k) - 1)), none]) ⟨rfl, rfl, rfl, rfl, rfl, rfl, rfl, rfl, trivial⟩ ?_
                                      exact ih_lp1 k _ _ _ (by omega) (by omega) (by omega) (by rw [cfB_d (by omega), ← Int32.add_assoc, hu]; first | (simp [juP, c14, c28, kjd, c36, c49, c60, c111, c137, c137n, c162, c170]; done) | (simp [juP, c14, c28, kjd, c36, c49, c60, c111, c137, c137n, c162, c170, c49n]; done)) (by rw [f1B_d (by omega)]; first | (simp [hv, juP, c14, c28, kjd, c36, c49, c60, c111, c137, c137n, c162, c170]; done) | (simp [hv, juP, c14, c28, kjd, c36, c49, c60, c111, c137, c137n, c162, c170, c49n]; done)) (hz)
                      exact lp1 (N + 1) N _ _ _ (by omega) (Nat.le_refl _) (Nat.le_refl _) (by rw [cfB_0, Int32.add_zero]) (by rw [f1B_0]) (by rw [bdB_d (by omega), hw]; first | (simp [astP, c14, c28, kjd, c36, c49, c60, c111]; done) | (simp [astP, c14, c28, kjd, c36, c49, c60, c111, c49n]; done))
            refine go_weak (ls' := [some (.ref q), some (.int (nI jd)), some (.int what), none, some (.int 0), some (.int 0), some (.int (-4)), some (.int ((nI N) - 1)), none, none]) ⟨rfl, rfl, rfl, rfl, rfl, rfl, rfl, trivial⟩ ?_
            exact lp0 (N + 1) N _ _ _ (Nat.le_refl _) (Nat.le_refl _) (by rw [c2B_0]) (by rw [f2B_0]) (by rw [bdB_0])
          · have c60 := Int32.not_le.mp c60
            rw [c28] at c60; exact absurd c60 (by decide)
        · have c49n := mt (nI_eq (a := R) (b := N) (by omega) (by omega)).mpr c49
          refine go_bipush (v := (-13)) dX12_june_52 rfl ?_
          refine go_goto dX12_june_54 ?_
          refine go_istore_n (ls' := [some (.ref q), some (.int (nI jd)), some (.int what), some (.int (-13)), none, none, none, none, none, none]) dX12_june_58 ⟨by decide, rfl, rfl⟩ ?_
          refine go_iload_n dX12_june_59 rfl ?_
          refine go_if_ge dX12_june_60 (fun c60 => ?_) (fun c60 => ?_)
          · have c60 := Int32.not_lt.mpr c60
            first | exact absurd c60 (by decide) | exact absurd (by decide) c60 | exact absurd rfl c60 | omega
          · have c60 := Int32.not_le.mp c60
            refine go_iload_n dX12_june_63 rfl ?_
            exact go_iret dX12_june_64 rfl (Nat.le_of_ble_eq_true rfl) (Nat.le_of_ble_eq_true rfl) (hQ9 ▸ ⟨rd_i (by unfold junS; rw [if_pos c14, if_neg c28_g, kjd, eR, nI_clamp (by omega), if_pos (by simp [c36, c49, c49n])]), rfl, rfl⟩)
set_option maxHeartbeats 4000000 in
set_option maxRecDepth 100000 in
theorem e_X12_contentIn (hq : G.2.1 ≤ q) (hn : q + 25 ≤ n) {a b l : Nat} (ha : a < 8) (hb8 : b < 8) (hl : l < 5) : Ev G mX12_contentIn 4 0 0 [.ref q, .int (nI a), .int (nI b), .int (nI l)] (mo G m0 q F A L K) n (RD (.int (ciS A a b l)) (mo G m0 q F A L K) n) := by
  generalize hQ9 : (RD (.int (ciS A a b l)) (mo G m0 q F A L K) n : RQ) = Q9
  refine ev_of (by decide) (Nat.le_of_ble_eq_true rfl) (ls := [some (.ref q), some (.int (nI a)), some (.int (nI b)), some (.int (nI l)), none]) rfl (fun hb => ?_)
  refine go_aload_n dX12_contentIn_0 rfl ?_
  refine go_iload_n dX12_contentIn_1 rfl ?_
  refine go_iload_n dX12_contentIn_2 rfl ?_
  refine go_Vr [.int (nI a), .int (nI l)] [] dX12_contentIn_3 vl_X12_114 ⟨by decide, by decide⟩ (e_X12_troubleOf (F := F) (A := A) (L := L) (K := K) hq hn (by omega) (by omega)) mo_obj hq (by omega) rfl rfl (Nat.le_of_ble_eq_true rfl) (Nat.le_of_ble_eq_true rfl) (Nat.le_of_ble_eq_true rfl) ?_
  refine go_tp (z := trS A a l) (rfl) ?_
  refine go_istore (ls' := [some (.ref q), some (.int (nI a)), some (.int (nI b)), some (.int (nI l)), some (.int (trS A a l))]) dX12_contentIn_6 ⟨by decide, rfl, rfl⟩ ?_
  refine go_iload_n dX12_contentIn_8 rfl ?_
  refine go_iload_n dX12_contentIn_9 rfl ?_
  refine go_icmp_ne dX12_contentIn_10 (fun c10 => ?_) (fun c10 => ?_)
  · have c10n := mt (nI_eq (a := a) (b := b) (by omega) (by omega)).mpr c10
    refine go_aload_n dX12_contentIn_21 rfl ?_
    refine go_iload_n dX12_contentIn_22 rfl ?_
    refine go_iload_n dX12_contentIn_23 rfl ?_
    refine go_Vr [.int (nI a), .int (nI b)] [] dX12_contentIn_24 vl_X12_254 ⟨by decide, by decide⟩ (e_X12_likingOf (F := F) (A := A) (L := L) (K := K) hq hn (by omega) (by omega)) mo_obj hq (by omega) rfl rfl (Nat.le_of_ble_eq_true rfl) (Nat.le_of_ble_eq_true rfl) (Nat.le_of_ble_eq_true rfl) ?_
    refine go_iload dX12_contentIn_27 rfl ?_
    refine go_isub dX12_contentIn_29 ?_
    refine go_aload_n dX12_contentIn_30 rfl ?_
    refine go_iload_n dX12_contentIn_31 rfl ?_
    refine go_iload_n dX12_contentIn_32 rfl ?_
    refine go_Vr [.int (nI b), .int (nI l)] [.int ((likS A a b) - (trS A a l))] dX12_contentIn_33 vl_X12_114 ⟨by decide, by decide⟩ (e_X12_troubleOf (F := F) (A := A) (L := L) (K := K) hq hn (by omega) (by omega)) mo_obj hq (by omega) rfl rfl (Nat.le_of_ble_eq_true rfl) (Nat.le_of_ble_eq_true rfl) (Nat.le_of_ble_eq_true rfl) ?_
    refine go_tp (z := trS A b l) (rfl) ?_
    refine go_isub dX12_contentIn_36 ?_
    exact go_iret dX12_contentIn_37 rfl (Nat.le_of_ble_eq_true rfl) (Nat.le_of_ble_eq_true rfl) ((hQ9 ▸ ⟨rd_i (a := ((likS A a b) - (trS A a l)) - (trS A b l)) (by simp [ciS, c10, c10n]), rfl, rfl⟩))
  · have c10n := (nI_eq (a := a) (b := b) (by omega) (by omega)).mp c10
    refine go_bipush (v := 12) dX12_contentIn_13 rfl ?_
    refine go_iload dX12_contentIn_15 rfl ?_
    refine go_isub dX12_contentIn_17 ?_
    refine go_goto dX12_contentIn_18 ?_
    exact go_iret dX12_contentIn_37 rfl (Nat.le_of_ble_eq_true rfl) (Nat.le_of_ble_eq_true rfl) ((hQ9 ▸ ⟨rd_i (a := 12 - (trS A a l)) (by first | (simp [ciS, c10]; done) | (simp [ciS, c10, c10n]; done)), rfl, rfl⟩))
set_option maxHeartbeats 4000000 in
set_option maxRecDepth 100000 in
theorem e_X12_mayBe (hq : G.2.1 ≤ q) (hn : q + 25 ≤ n) {p : Nat} {l : Int32} (hp : p < 8) : Ev G mX12_mayBe 1 0 0 [.ref q, .int (nI p), .int l] (mo G m0 q F A L K) n (RD (.int (if mbeS (A 22) p l then 1 else 0)) (mo G m0 q F A L K) n) := by
  generalize hQ9 : (RD (.int (if mbeS (A 22) p l then 1 else 0)) (mo G m0 q F A L K) n : RQ) = Q9
  refine ev_of (by decide) (Nat.le_of_ble_eq_true rfl) (ls := [some (.ref q), some (.int (nI p)), some (.int l)]) rfl (fun hb => ?_)
  refine go_aload_n dX12_mayBe_0 rfl ?_
  refine go_get dX12_mayBe_1 fl_X12_74_12 mo_obj hq (by omega) rfl ?_
  refine go_iload_n dX12_mayBe_4 rfl ?_
  refine go_iald dX12_mayBe_5 (mo_arr 22 (by decide)) (by omega) (by omega) (vp_in_nI (n := p) (by show p < 8; omega) (by decide)) ?_
  refine go_tp (z := A 22 p) (by rw [nI_clamp (by omega)]) ?_
  refine go_if_lt dX12_mayBe_6 (fun c6 => ?_) (fun c6 => ?_)
  · refine go_iconst (v := 1) dX12_mayBe_19 rfl ?_
    refine go_goto dX12_mayBe_20 ?_
    exact go_zret dX12_mayBe_24 rfl (Nat.le_of_ble_eq_true rfl) (Nat.le_of_ble_eq_true rfl) (rfl) ((hQ9 ▸ ⟨rd_i (a := 1) (by simp [mbeS, c6]), rfl, rfl⟩))
  · refine go_aload_n dX12_mayBe_9 rfl ?_
    refine go_get dX12_mayBe_10 fl_X12_74_12 mo_obj hq (by omega) rfl ?_
    refine go_iload_n dX12_mayBe_13 rfl ?_
    refine go_iald dX12_mayBe_14 (mo_arr 22 (by decide)) (by omega) (by omega) (vp_in_nI (n := p) (by show p < 8; omega) (by decide)) ?_
    refine go_tp (z := A 22 p) (by rw [nI_clamp (by omega)]) ?_
    refine go_iload_n dX12_mayBe_15 rfl ?_
    refine go_icmp_ne dX12_mayBe_16 (fun c16 => ?_) (fun c16 => ?_)
    · refine go_iconst (v := 0) dX12_mayBe_23 rfl ?_
      exact go_zret dX12_mayBe_24 rfl (Nat.le_of_ble_eq_true rfl) (Nat.le_of_ble_eq_true rfl) (rfl) ((hQ9 ▸ ⟨rd_i (a := 0) (by simp [mbeS, c6, c16]), rfl, rfl⟩))
    · refine go_iconst (v := 1) dX12_mayBe_19 rfl ?_
      refine go_goto dX12_mayBe_20 ?_
      exact go_zret dX12_mayBe_24 rfl (Nat.le_of_ble_eq_true rfl) (Nat.le_of_ble_eq_true rfl) (rfl) ((hQ9 ▸ ⟨rd_i (a := 1) (by simp [mbeS, c6, c16]), rfl, rfl⟩))
set_option maxHeartbeats 4000000 in
set_option maxRecDepth 100000 in
theorem e_X12_areAllowed (hq : G.2.1 ≤ q) (hn : q + 25 ≤ n) (hN : F 0 = nI N) (hN8 : N ≤ 8) {set l : Int32} : Ev G mX12_areAllowed 2 0 0 [.ref q, .int set, .int l] (mo G m0 q F A L K) n (RD (.int (if alB (awP (A 22) set l) N then 1 else 0)) (mo G m0 q F A L K) n) := by
  generalize hQ9 : (RD (.int (if alB (awP (A 22) set l) N then 1 else 0)) (mo G m0 q F A L K) n : RQ) = Q9
  refine ev_of (by decide) (Nat.le_of_ble_eq_true rfl) (ls := [some (.ref q), some (.int set), some (.int l), none, none]) rfl (fun hb => ?_)
  refine go_iconst (v := 1) dX12_areAllowed_0 rfl ?_
  refine go_istore_n (ls' := [some (.ref q), some (.int set), some (.int l), some (.int 1), none]) dX12_areAllowed_1 ⟨by decide, rfl, rfl⟩ ?_
  refine go_iconst (v := 0) dX12_areAllowed_2 rfl ?_
  refine go_istore (ls' := [some (.ref q), some (.int set), some (.int l), some (.int 1), some (.int 0)]) dX12_areAllowed_3 ⟨by decide, rfl, rfl⟩ ?_
  have lp0 : ∀ (μ_lp0 : Nat) (i : Nat) (b : Bool) (hi : i ≤ N) (hmi : N + 1 ≤ i + μ_lp0) (hbb : b = alB (awP (A 22) set l) i), Go G mX12_areAllowed 2 0 0 Q9 0 0 5 [some (.ref q), some (.int set), some (.int l), some (.int (if b then 1 else 0)), some (.int (nI i))] [] (mo G m0 q F A L K) n := by
    intro μ_lp0
    induction μ_lp0 with
    | zero =>
      intro i b hi hmi hbb
      exact absurd hmi (by omega)
    | succ μ_lp0 ih_lp0 =>
      intro i b hi hmi hbb
      refine go_iload dX12_areAllowed_5 rfl ?_
      refine go_aload_n dX12_areAllowed_7 rfl ?_
      refine go_get dX12_areAllowed_8 fl_X12_87_12 mo_obj hq (by omega) rfl ?_
      refine go_tp (z := nI N) (hN) ?_
      refine go_icmp_ge dX12_areAllowed_11 (fun c11 => ?_) (fun c11 => ?_)
      · have c11n := (nI_leI (a := N) (b := i) (by omega) (by omega)).mp c11
        have c11n := Nat.not_lt.mpr c11n
        have c11 := Int32.not_lt.mpr c11
        refine go_iload_n dX12_areAllowed_63 rfl ?_
        exact go_zret dX12_areAllowed_64 rfl (Nat.le_of_ble_eq_true rfl) (Nat.le_of_ble_eq_true rfl) (bz_n _) (hQ9 ▸ ⟨rd_i (by rw [hbb, show i = N by omega]), rfl, rfl⟩)
      · have c11n := mt (nI_leI (a := N) (b := i) (by omega) (by omega)).mpr c11
        have c11n := Nat.lt_of_not_le c11n
        have c11 := Int32.not_le.mp c11
        refine go_iload_n dX12_areAllowed_14 rfl ?_
        refine go_if_eq dX12_areAllowed_15 (fun c15 => ?_) (fun c15 => ?_)
        · have c15 := bz_f c15
          refine go_iconst (v := 0) dX12_areAllowed_55 rfl ?_
          refine go_istore_n (ls' := [some (.ref q), some (.int set), some (.int l), some (.int 0), some (.int (nI i))]) dX12_areAllowed_56 ⟨by decide, rfl, rfl⟩ ?_
          refine go_iinc (v := nI (i + 1)) (ls' := [some (.ref q), some (.int set), some (.int l), some (.int 0), some (.int (nI (i + 1)))]) dX12_areAllowed_57 rfl (nI_1 (i)) ⟨by decide, rfl, rfl⟩ ?_
          refine go_goto dX12_areAllowed_60 ?_
          exact ih_lp0 (i + 1) false (by omega) (by omega) (by simp [alB, ← hbb, awP, c11, c11n, c15])
        · have c15 := bz_t c15
          refine go_iload_n dX12_areAllowed_18 rfl ?_
          refine go_iload dX12_areAllowed_19 rfl ?_
          refine go_Sr [.int set, .int (nI i)] [] dX12_areAllowed_21 sl_X12_245 ⟨by decide, by decide⟩ (e_X12_hasBit) rfl rfl (Nat.le_of_ble_eq_true rfl) (Nat.le_of_ble_eq_true rfl) (Nat.le_of_ble_eq_true rfl) ?_
          refine go_if_eq dX12_areAllowed_24 (fun c24 => ?_) (fun c24 => ?_)
          · have c24 := bz_f c24
            refine go_aload_n dX12_areAllowed_40 rfl ?_
            refine go_get dX12_areAllowed_41 fl_X12_74_12 mo_obj hq (by omega) rfl ?_
            refine go_iload dX12_areAllowed_44 rfl ?_
            refine go_iald dX12_areAllowed_46 (mo_arr 22 (by decide)) (by omega) (by omega) (vp_in_nI (n := i) (by show i < 8; omega) (by decide)) ?_
            refine go_tp (z := A 22 i) (by rw [nI_clamp (by omega)]) ?_
            refine go_iload_n dX12_areAllowed_47 rfl ?_
            refine go_icmp_eq dX12_areAllowed_48 (fun c48 => ?_) (fun c48 => ?_)
            · refine go_iconst (v := 0) dX12_areAllowed_55 rfl ?_
              refine go_istore_n (ls' := [some (.ref q), some (.int set), some (.int l), some (.int 0), some (.int (nI i))]) dX12_areAllowed_56 ⟨by decide, rfl, rfl⟩ ?_
              refine go_iinc (v := nI (i + 1)) (ls' := [some (.ref q), some (.int set), some (.int l), some (.int 0), some (.int (nI (i + 1)))]) dX12_areAllowed_57 rfl (nI_1 (i)) ⟨by decide, rfl, rfl⟩ ?_
              refine go_goto dX12_areAllowed_60 ?_
              exact ih_lp0 (i + 1) false (by omega) (by omega) (by simp [alB, ← hbb, awP, c11, c11n, c15, c24, c48])
            · refine go_iconst (v := 1) dX12_areAllowed_51 rfl ?_
              refine go_goto dX12_areAllowed_52 ?_
              refine go_istore_n (ls' := [some (.ref q), some (.int set), some (.int l), some (.int 1), some (.int (nI i))]) dX12_areAllowed_56 ⟨by decide, rfl, rfl⟩ ?_
              refine go_iinc (v := nI (i + 1)) (ls' := [some (.ref q), some (.int set), some (.int l), some (.int 1), some (.int (nI (i + 1)))]) dX12_areAllowed_57 rfl (nI_1 (i)) ⟨by decide, rfl, rfl⟩ ?_
              refine go_goto dX12_areAllowed_60 ?_
              exact ih_lp0 (i + 1) true (by omega) (by omega) (by simp [alB, ← hbb, awP, c11, c11n, c15, c24, c48])
          · have c24 := bz_t c24
            refine go_aload_n dX12_areAllowed_27 rfl ?_
            refine go_iload dX12_areAllowed_28 rfl ?_
            refine go_iload_n dX12_areAllowed_30 rfl ?_
            refine go_Vr [.int (nI i), .int l] [] dX12_areAllowed_31 vl_X12_276 ⟨by decide, by decide⟩ (e_X12_mayBe (F := F) (A := A) (L := L) (K := K) hq hn (by omega)) mo_obj hq (by omega) rfl rfl (Nat.le_of_ble_eq_true rfl) (Nat.le_of_ble_eq_true rfl) (Nat.le_of_ble_eq_true rfl) ?_
            refine go_if_eq dX12_areAllowed_34 (fun c34 => ?_) (fun c34 => ?_)
            · have c34 := bz_f c34
              refine go_iconst (v := 0) dX12_areAllowed_55 rfl ?_
              refine go_istore_n (ls' := [some (.ref q), some (.int set), some (.int l), some (.int 0), some (.int (nI i))]) dX12_areAllowed_56 ⟨by decide, rfl, rfl⟩ ?_
              refine go_iinc (v := nI (i + 1)) (ls' := [some (.ref q), some (.int set), some (.int l), some (.int 0), some (.int (nI (i + 1)))]) dX12_areAllowed_57 rfl (nI_1 (i)) ⟨by decide, rfl, rfl⟩ ?_
              refine go_goto dX12_areAllowed_60 ?_
              exact ih_lp0 (i + 1) false (by omega) (by omega) (by simp [alB, ← hbb, awP, c11, c11n, c15, c24, c34])
            · have c34 := bz_t c34
              refine go_goto dX12_areAllowed_37 ?_
              refine go_iconst (v := 1) dX12_areAllowed_51 rfl ?_
              refine go_goto dX12_areAllowed_52 ?_
              refine go_istore_n (ls' := [some (.ref q), some (.int set), some (.int l), some (.int 1), some (.int (nI i))]) dX12_areAllowed_56 ⟨by decide, rfl, rfl⟩ ?_
              refine go_iinc (v := nI (i + 1)) (ls' := [some (.ref q), some (.int set), some (.int l), some (.int 1), some (.int (nI (i + 1)))]) dX12_areAllowed_57 rfl (nI_1 (i)) ⟨by decide, rfl, rfl⟩ ?_
              refine go_goto dX12_areAllowed_60 ?_
              exact ih_lp0 (i + 1) true (by omega) (by omega) (by simp [alB, ← hbb, awP, c11, c11n, c15, c24, c34])
  exact lp0 (N + 1) 0 true (Nat.zero_le _) (by omega) rfl
set_option maxHeartbeats 4000000 in
set_option maxRecDepth 100000 in
theorem e_X12_freeAll (hq : G.2.1 ≤ q) (hn : q + 25 ≤ n) : Ev G mX12_freeAll 1 0 0 [.ref q] (mo G m0 q F A L K) n (fun r f1 n1 => r = none ∧ f1 = mo G m0 q F (frA A 8) L K ∧ n1 = n) := by
  generalize hQ9 : (fun r f1 n1 => r = none ∧ f1 = mo G m0 q F (frA A 8) L K ∧ n1 = n : RQ) = Q9
  refine ev_of (by decide) (Nat.le_of_ble_eq_true rfl) (ls := [some (.ref q), none]) rfl (fun hb => ?_)
  refine go_iconst (v := 0) dX12_freeAll_0 rfl ?_
  refine go_istore_n (ls' := [some (.ref q), some (.int 0)]) dX12_freeAll_1 ⟨by decide, rfl, rfl⟩ ?_
  have lp0 : ∀ (μ_lp0 : Nat) (i : Nat) (hi : i ≤ 8) (hmi : 9 ≤ i + μ_lp0), Go G mX12_freeAll 1 0 0 Q9 0 0 2 [some (.ref q), some (.int (nI i))] [] (mo G m0 q F (frA A i) L K) n := by
    intro μ_lp0
    induction μ_lp0 with
    | zero =>
      intro i hi hmi
      exact absurd hmi (by omega)
    | succ μ_lp0 ih_lp0 =>
      intro i hi hmi
      refine go_iload_n dX12_freeAll_2 rfl ?_
      refine go_bipush (v := 8) dX12_freeAll_3 rfl ?_
      refine go_icmp_ge dX12_freeAll_5 (fun c5 => ?_) (fun c5 => ?_)
      · have c5n := (nI_leI (a := 8) (b := i) (by omega) (by omega)).mp c5
        have c5n := Nat.not_lt.mpr c5n
        have c5 := Int32.not_lt.mpr c5
        exact go_vret dX12_freeAll_21 rfl (Nat.le_of_ble_eq_true rfl) (Nat.le_of_ble_eq_true rfl) (hQ9 ▸ ⟨rfl, by rw [show i = 8 by omega], rfl⟩)
      · have c5n := mt (nI_leI (a := 8) (b := i) (by omega) (by omega)).mpr c5
        have c5n := Nat.lt_of_not_le c5n
        have c5 := Int32.not_le.mp c5
        refine go_aload_n dX12_freeAll_8 rfl ?_
        refine go_get dX12_freeAll_9 fl_X12_74_12 mo_obj hq (by omega) rfl ?_
        refine go_iload_n dX12_freeAll_12 rfl ?_
        refine go_iconst (v := (-1)) dX12_freeAll_13 rfl ?_
        refine go_iast dX12_freeAll_14 (mo_arr 22 (by decide)) (by omega) (by omega) (vp_in_nI (n := i) (by show i < 8; omega) (by decide)) ?_
        refine go_mem (mo_setA 22 (by decide) _ _) ?_
        rw [nI_clamp (by omega)]
        refine go_iinc (v := nI (i + 1)) (ls' := [some (.ref q), some (.int (nI (i + 1)))]) dX12_freeAll_15 rfl (nI_1 (i)) ⟨by decide, rfl, rfl⟩ ?_
        refine go_goto dX12_freeAll_18 ?_
        refine go_mem (f' := (mo G m0 q F (frA A (i + 1)) L K)) (by rw [← frA_s]) ?_
        exact ih_lp0 (i + 1) (by omega) (by omega)
  refine go_mem (f' := (mo G m0 q F (frA A 0) L K)) (by rw [frA_0]) ?_
  exact lp0 9 0 (Nat.zero_le _) (by omega)
set_option maxHeartbeats 4000000 in
set_option maxRecDepth 100000 in
theorem e_X12_isLetter {c : Int32} : Ev G mX12_isLetter 1 0 0 [.int c] f n (RD (.int (if ltrS c then 1 else 0)) f n) := by
  generalize hQ9 : (RD (.int (if ltrS c then 1 else 0)) f n : RQ) = Q9
  refine ev_of (by decide) (Nat.le_of_ble_eq_true rfl) (ls := [some (.int c)]) rfl (fun hb => ?_)
  refine go_iload_n dX12_isLetter_0 rfl ?_
  refine go_bipush (v := 112) dX12_isLetter_1 rfl ?_
  refine go_icmp_eq dX12_isLetter_3 (fun c3 => ?_) (fun c3 => ?_)
  · subst c3
    refine go_iconst (v := 1) dX12_isLetter_36 rfl ?_
    refine go_goto dX12_isLetter_37 ?_
    exact go_zret dX12_isLetter_41 rfl (Nat.le_of_ble_eq_true rfl) (Nat.le_of_ble_eq_true rfl) (rfl) ((hQ9 ▸ ⟨rd_i (a := 1) (by simp [ltrS]), rfl, rfl⟩))
  · refine go_iload_n dX12_isLetter_6 rfl ?_
    refine go_bipush (v := 108) dX12_isLetter_7 rfl ?_
    refine go_icmp_eq dX12_isLetter_9 (fun c9 => ?_) (fun c9 => ?_)
    · subst c9
      refine go_iconst (v := 1) dX12_isLetter_36 rfl ?_
      refine go_goto dX12_isLetter_37 ?_
      exact go_zret dX12_isLetter_41 rfl (Nat.le_of_ble_eq_true rfl) (Nat.le_of_ble_eq_true rfl) (rfl) ((hQ9 ▸ ⟨rd_i (a := 1) (by simp [ltrS, c3]), rfl, rfl⟩))
    · refine go_iload_n dX12_isLetter_12 rfl ?_
      refine go_bipush (v := 109) dX12_isLetter_13 rfl ?_
      refine go_icmp_eq dX12_isLetter_15 (fun c15 => ?_) (fun c15 => ?_)
      · subst c15
        refine go_iconst (v := 1) dX12_isLetter_36 rfl ?_
        refine go_goto dX12_isLetter_37 ?_
        exact go_zret dX12_isLetter_41 rfl (Nat.le_of_ble_eq_true rfl) (Nat.le_of_ble_eq_true rfl) (rfl) ((hQ9 ▸ ⟨rd_i (a := 1) (by simp [ltrS, c3, c9]), rfl, rfl⟩))
      · refine go_iload_n dX12_isLetter_18 rfl ?_
        refine go_bipush (v := 120) dX12_isLetter_19 rfl ?_
        refine go_icmp_eq dX12_isLetter_21 (fun c21 => ?_) (fun c21 => ?_)
        · subst c21
          refine go_iconst (v := 1) dX12_isLetter_36 rfl ?_
          refine go_goto dX12_isLetter_37 ?_
          exact go_zret dX12_isLetter_41 rfl (Nat.le_of_ble_eq_true rfl) (Nat.le_of_ble_eq_true rfl) (rfl) ((hQ9 ▸ ⟨rd_i (a := 1) (by simp [ltrS, c3, c9, c15]), rfl, rfl⟩))
        · refine go_iload_n dX12_isLetter_24 rfl ?_
          refine go_bipush (v := 107) dX12_isLetter_25 rfl ?_
          refine go_icmp_eq dX12_isLetter_27 (fun c27 => ?_) (fun c27 => ?_)
          · subst c27
            refine go_iconst (v := 1) dX12_isLetter_36 rfl ?_
            refine go_goto dX12_isLetter_37 ?_
            exact go_zret dX12_isLetter_41 rfl (Nat.le_of_ble_eq_true rfl) (Nat.le_of_ble_eq_true rfl) (rfl) ((hQ9 ▸ ⟨rd_i (a := 1) (by simp [ltrS, c3, c9, c15, c21]), rfl, rfl⟩))
          · refine go_iload_n dX12_isLetter_30 rfl ?_
            refine go_bipush (v := 110) dX12_isLetter_31 rfl ?_
            refine go_icmp_ne dX12_isLetter_33 (fun c33 => ?_) (fun c33 => ?_)
            · refine go_iconst (v := 0) dX12_isLetter_40 rfl ?_
              exact go_zret dX12_isLetter_41 rfl (Nat.le_of_ble_eq_true rfl) (Nat.le_of_ble_eq_true rfl) (rfl) ((hQ9 ▸ ⟨rd_i (a := 0) (by simp [ltrS, c3, c9, c15, c21, c27, c33]), rfl, rfl⟩))
            · subst c33
              refine go_iconst (v := 1) dX12_isLetter_36 rfl ?_
              refine go_goto dX12_isLetter_37 ?_
              exact go_zret dX12_isLetter_41 rfl (Nat.le_of_ble_eq_true rfl) (Nat.le_of_ble_eq_true rfl) (rfl) ((hQ9 ▸ ⟨rd_i (a := 1) (by simp [ltrS, c3, c9, c15, c21, c27]), rfl, rfl⟩))
set_option maxHeartbeats 4000000 in
set_option maxRecDepth 100000 in
theorem e_X12_drawBelow (hq : G.2.1 ≤ q) (hn : q + 25 ≤ n) {x : Int32} (hx : ¬ x = 0) : Ev G mX12_drawBelow 1 0 0 [.ref q, .int x] (mo G m0 q F A L K) n (fun r f1 n1 => r = some (.int (drS (sdS (F 37)) x)) ∧ f1 = mo G m0 q (upd F 37 (sdS (F 37))) A L K ∧ n1 = n) := by
  generalize hQ9 : (fun r f1 n1 => r = some (.int (drS (sdS (F 37)) x)) ∧ f1 = mo G m0 q (upd F 37 (sdS (F 37))) A L K ∧ n1 = n : RQ) = Q9
  refine ev_of (by decide) (Nat.le_of_ble_eq_true rfl) (ls := [some (.ref q), some (.int x)]) rfl (fun hb => ?_)
  refine go_aload_n dX12_drawBelow_0 rfl ?_
  refine go_aload_n dX12_drawBelow_1 rfl ?_
  refine go_get dX12_drawBelow_2 fl_X12_348_12 mo_obj hq (by omega) rfl ?_
  refine go_ldcw (v := 1103515245) dX12_drawBelow_5 wm_1594 ?_
  refine go_imul dX12_drawBelow_8 ?_
  refine go_sipush (v := 12345) dX12_drawBelow_9 rfl ?_
  refine go_iadd dX12_drawBelow_12 ?_
  refine go_put dX12_drawBelow_13 fp_X12_348_12 (Or.inr (fun _ _ _ h => by cases h; rfl)) mo_obj hq (by omega) (rfl) rfl (Nat.le_of_ble_eq_true rfl) ?_
  refine go_mem (mo_setO (F' := (upd F 37 (((F 37) * 1103515245) + 12345))) (K' := K) rfl) ?_
  refine go_aload_n dX12_drawBelow_16 rfl ?_
  refine go_get dX12_drawBelow_17 fl_X12_348_12 mo_obj hq (by omega) rfl ?_
  refine go_tp (z := ((F 37) * 1103515245) + 12345) (rfl) ?_
  refine go_ldcw (v := 2147483647) dX12_drawBelow_20 wm_1595 ?_
  refine go_iand dX12_drawBelow_23 ?_
  refine go_ldcw (v := 65536) dX12_drawBelow_24 wm_1596 ?_
  refine go_idiv dX12_drawBelow_27 (by decide) ?_
  refine go_iload_n dX12_drawBelow_28 rfl ?_
  refine go_irem dX12_drawBelow_29 (hx) ?_
  exact go_iret dX12_drawBelow_30 rfl (Nat.le_of_ble_eq_true rfl) (Nat.le_of_ble_eq_true rfl) (hQ9 ▸ ⟨rfl, rfl, rfl⟩)
def arB (P : Nat → Nat → Bool) (N : Nat) : Nat → Bool
  | 0 => true
  | k + 1 => arB P N k && alB (fun j => decide (j ≤ k) || !(P k j)) N
/-- none of k's from j on -/
def nkB (P : Nat → Bool) : Nat → Nat → Bool
  | _, 0 => true
  | j, k + 1 => !(P j) && nkB P (j + 1) k
def n2B (P : Nat → Nat → Bool) (N : Nat) : Nat → Nat → Bool
  | _, 0 => true
  | j, k + 1 => nkB (P j) (j + 1) (N - (j + 1)) && n2B P N (j + 1) k
theorem nkB_d {P : Nat → Bool} {N j : Nat} (h : j < N) : nkB P j (N - j) = (!(P j) && nkB P (j + 1) (N - (j + 1))) := by
  rw [show N - j = (N - (j + 1)) + 1 by omega]
  rfl
theorem n2B_d {P : Nat → Nat → Bool} {N j : Nat} (h : j < N) : n2B P N j (N - j) = (nkB (P j) (j + 1) (N - (j + 1)) && n2B P N (j + 1) (N - (j + 1))) := by
  rw [show N - j = (N - (j + 1)) + 1 by omega]
  rfl
theorem nkB_0 {P : Nat → Bool} {N : Nat} : nkB P N (N - N) = true := by rw [Nat.sub_self]; rfl
theorem n2B_0 {P : Nat → Nat → Bool} {N : Nat} : n2B P N N (N - N) = true := by rw [Nat.sub_self]; rfl
set_option maxHeartbeats 4000000 in
set_option maxRecDepth 100000 in
theorem e_X12_areResting (hq : G.2.1 ≤ q) (hn : q + 25 ≤ n) (hN : F 0 = nI N) (hN8 : N ≤ 8) (hmt : mtOK N (A 19)) : Ev G mX12_areResting 5 0 0 [.ref q] (mo G m0 q F A L K) n (RD (.int (if n2B (raS A (A 19)) N 0 N then 1 else 0)) (mo G m0 q F A L K) n) := by
  generalize hQ9 : (RD (.int (if n2B (raS A (A 19)) N 0 N then 1 else 0)) (mo G m0 q F A L K) n : RQ) = Q9
  refine ev_of (by decide) (Nat.le_of_ble_eq_true rfl) (ls := [some (.ref q), none, none, none]) rfl (fun hb => ?_)
  refine go_iconst (v := 1) dX12_areResting_0 rfl ?_
  refine go_istore_n (ls' := [some (.ref q), some (.int 1), none, none]) dX12_areResting_1 ⟨by decide, rfl, rfl⟩ ?_
  refine go_iconst (v := 0) dX12_areResting_2 rfl ?_
  refine go_istore_n (ls' := [some (.ref q), some (.int 1), some (.int 0), none]) dX12_areResting_3 ⟨by decide, rfl, rfl⟩ ?_
  have lp0 : ∀ (μ_lp0 : Nat) (i : Nat) (b1 : Bool) (hi : i ≤ N) (hmi : N + 1 ≤ i + μ_lp0) (hx : n2B (raS A (A 19)) N 0 N = (b1 && n2B (raS A (A 19)) N i (N - i))), Go G mX12_areResting 5 0 0 Q9 0 0 4 [some (.ref q), some (.int (if b1 then 1 else 0)), some (.int (nI i)), none] [] (mo G m0 q F A L K) n := by
    intro μ_lp0
    induction μ_lp0 with
    | zero =>
      intro i b1 hi hmi hx
      exact absurd hmi (by omega)
    | succ μ_lp0 ih_lp0 =>
      intro i b1 hi hmi hx
      refine go_iload_n dX12_areResting_4 rfl ?_
      refine go_aload_n dX12_areResting_5 rfl ?_
      refine go_get dX12_areResting_6 fl_X12_87_12 mo_obj hq (by omega) rfl ?_
      refine go_tp (z := nI N) (hN) ?_
      refine go_icmp_ge dX12_areResting_9 (fun c9 => ?_) (fun c9 => ?_)
      · have c9n := (nI_leI (a := N) (b := i) (by omega) (by omega)).mp c9
        have c9n := Nat.not_lt.mpr c9n
        have c9 := Int32.not_lt.mpr c9
        refine go_iload_n dX12_areResting_55 rfl ?_
        exact go_zret dX12_areResting_56 rfl (Nat.le_of_ble_eq_true rfl) (Nat.le_of_ble_eq_true rfl) (bz_n _) (hQ9 ▸ ⟨rd_i (by rw [hx, show i = N by omega, n2B_0, Bool.and_true]), rfl, rfl⟩)
      · have c9n := mt (nI_leI (a := N) (b := i) (by omega) (by omega)).mpr c9
        have c9n := Nat.lt_of_not_le c9n
        have c9 := Int32.not_le.mp c9
        refine go_iload_n dX12_areResting_12 rfl ?_
        refine go_iconst (v := 1) dX12_areResting_13 rfl ?_
        refine go_iadd dX12_areResting_14 ?_
        refine go_tp (z := nI (i + 1)) (nI_add i 1) ?_
        refine go_istore_n (ls' := [some (.ref q), some (.int (if b1 then 1 else 0)), some (.int (nI i)), some (.int (nI (i + 1)))]) dX12_areResting_15 ⟨by decide, rfl, rfl⟩ ?_
        have lp1 : ∀ (μ_lp1 : Nat) (k : Nat) (b2 : Bool) (hk0 : i + 1 ≤ k) (hk : k ≤ N) (hmk : N + 1 ≤ k + μ_lp1) (hy : (b1 && nkB (raS A (A 19) i) (i + 1) (N - (i + 1))) = (b2 && nkB (raS A (A 19) i) k (N - k))), Go G mX12_areResting 5 0 0 Q9 0 0 16 [some (.ref q), some (.int (if b2 then 1 else 0)), some (.int (nI i)), some (.int (nI k))] [] (mo G m0 q F A L K) n := by
          intro μ_lp1
          induction μ_lp1 with
          | zero =>
            intro k b2 hk0 hk hmk hy
            exact absurd hmk (by omega)
          | succ μ_lp1 ih_lp1 =>
            intro k b2 hk0 hk hmk hy
            refine go_iload_n dX12_areResting_16 rfl ?_
            refine go_aload_n dX12_areResting_17 rfl ?_
            refine go_get dX12_areResting_18 fl_X12_87_12 mo_obj hq (by omega) rfl ?_
            refine go_tp (z := nI N) (hN) ?_
            refine go_icmp_ge dX12_areResting_21 (fun c21 => ?_) (fun c21 => ?_)
            · have c21n := (nI_leI (a := N) (b := k) (by omega) (by omega)).mp c21
              have c21n := Nat.not_lt.mpr c21n
              have c21 := Int32.not_lt.mpr c21
              refine go_iinc (v := nI (i + 1)) (ls' := [some (.ref q), some (.int (if b2 then 1 else 0)), some (.int (nI (i + 1))), some (.int (nI k))]) dX12_areResting_49 rfl (nI_1 (i)) ⟨by decide, rfl, rfl⟩ ?_
              refine go_goto dX12_areResting_52 ?_
              refine go_weak (ls' := [some (.ref q), some (.int (if b2 then 1 else 0)), some (.int (nI (i + 1))), none]) ⟨rfl, rfl, rfl, trivial⟩ ?_
              exact ih_lp0 (i + 1) b2 (by omega) (by omega) (by rw [hx, n2B_d (by omega), ← Bool.and_assoc, hy, show k = N by omega, nkB_0, Bool.and_true])
            · have c21n := mt (nI_leI (a := N) (b := k) (by omega) (by omega)).mpr c21
              have c21n := Nat.lt_of_not_le c21n
              have c21 := Int32.not_le.mp c21
              refine go_iload_n dX12_areResting_24 rfl ?_
              refine go_if_eq dX12_areResting_25 (fun c25 => ?_) (fun c25 => ?_)
              · have c25 := bz_f c25
                refine go_iconst (v := 0) dX12_areResting_41 rfl ?_
                refine go_istore_n (ls' := [some (.ref q), some (.int 0), some (.int (nI i)), some (.int (nI k))]) dX12_areResting_42 ⟨by decide, rfl, rfl⟩ ?_
                refine go_iinc (v := nI (k + 1)) (ls' := [some (.ref q), some (.int 0), some (.int (nI i)), some (.int (nI (k + 1)))]) dX12_areResting_43 rfl (nI_1 (k)) ⟨by decide, rfl, rfl⟩ ?_
                refine go_goto dX12_areResting_46 ?_
                exact ih_lp1 (k + 1) false (by omega) (by omega) (by omega) (by rw [hy, nkB_d (by omega)]; simp [c9, c9n, c21, c21n, c25])
              · have c25 := bz_t c25
                refine go_aload_n dX12_areResting_28 rfl ?_
                refine go_iload_n dX12_areResting_29 rfl ?_
                refine go_iload_n dX12_areResting_30 rfl ?_
                refine go_Vr [.int (nI i), .int (nI k)] [] dX12_areResting_31 vl_X12_242 ⟨by decide, by decide⟩ (e_X12_areRather (F := F) (A := A) (L := L) (K := K) hq hn hN hN8 hmt (by omega) (by omega)) mo_obj hq (by omega) rfl rfl (Nat.le_of_ble_eq_true rfl) (Nat.le_of_ble_eq_true rfl) (Nat.le_of_ble_eq_true rfl) ?_
                refine go_if_ne dX12_areResting_34 (fun c34 => ?_) (fun c34 => ?_)
                · have c34 := bz_t c34
                  refine go_iconst (v := 0) dX12_areResting_41 rfl ?_
                  refine go_istore_n (ls' := [some (.ref q), some (.int 0), some (.int (nI i)), some (.int (nI k))]) dX12_areResting_42 ⟨by decide, rfl, rfl⟩ ?_
                  refine go_iinc (v := nI (k + 1)) (ls' := [some (.ref q), some (.int 0), some (.int (nI i)), some (.int (nI (k + 1)))]) dX12_areResting_43 rfl (nI_1 (k)) ⟨by decide, rfl, rfl⟩ ?_
                  refine go_goto dX12_areResting_46 ?_
                  exact ih_lp1 (k + 1) false (by omega) (by omega) (by omega) (by rw [hy, nkB_d (by omega)]; simp [c9, c9n, c21, c21n, c25, c34])
                · have c34 := bz_f c34
                  refine go_iconst (v := 1) dX12_areResting_37 rfl ?_
                  refine go_goto dX12_areResting_38 ?_
                  refine go_istore_n (ls' := [some (.ref q), some (.int 1), some (.int (nI i)), some (.int (nI k))]) dX12_areResting_42 ⟨by decide, rfl, rfl⟩ ?_
                  refine go_iinc (v := nI (k + 1)) (ls' := [some (.ref q), some (.int 1), some (.int (nI i)), some (.int (nI (k + 1)))]) dX12_areResting_43 rfl (nI_1 (k)) ⟨by decide, rfl, rfl⟩ ?_
                  refine go_goto dX12_areResting_46 ?_
                  exact ih_lp1 (k + 1) true (by omega) (by omega) (by omega) (by rw [hy, nkB_d (by omega)]; simp [c9, c9n, c21, c21n, c25, c34])
        exact lp1 (N + 1) (i + 1) b1 (Nat.le_refl _) (by omega) (by omega) rfl
  exact lp0 (N + 1) 0 true (Nat.zero_le _) (by omega) rfl
end M8
