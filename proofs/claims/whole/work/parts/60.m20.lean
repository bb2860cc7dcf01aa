section M20
variable {G : GX} {m0 f : Mem} {q n N M : Nat} {F : Nat → Int32} {A : Nat → Nat → Int32} {L : Nat → Nat → Int64} {K : Option Nat}
set_option maxHeartbeats 4000000 in
set_option maxRecDepth 100000 in
theorem e_X12_layPlaced (hq : G.2.1 ≤ q) (hn : q + 25 ≤ n) (hN : F 0 = nI N) (hN8 : N ≤ 8) (hM : F 5 = nI M) (hM5 : M ≤ 5) : Ev G mX12_layPlaced 5 0 0 [.ref q] (mo G m0 q F A L K) n (fun r f1 n1 => r = none ∧ (∃ A', (∀ r, r ≠ 23 → A' r = A r) ∧ A' 23 0 = plR N M A (A 22) M 0 ∧ f1 = mo G m0 q F A' L K) ∧ n1 = n) := by
  generalize hQ9 : (fun r f1 n1 => r = none ∧ (∃ A', (∀ r, r ≠ 23 → A' r = A r) ∧ A' 23 0 = plR N M A (A 22) M 0 ∧ f1 = mo G m0 q F A' L K) ∧ n1 = n : RQ) = Q9
  refine ev_of (by decide) (Nat.le_of_ble_eq_true rfl) (ls := [some (.ref q), none, none, none, none, none, none]) rfl (fun hb => ?_)
  have hp2 := pw8 hN8
  have hp1 := pw1 N
  refine go_iconst (v := 0) dX12_layPlaced_0 rfl ?_
  refine go_istore_n (ls' := [some (.ref q), some (.int 0), none, none, none, none, none]) dX12_layPlaced_1 ⟨by decide, rfl, rfl⟩ ?_
  have lp0 : ∀ (μ_lp0 : Nat) (s : Nat) (A1 : Nat → Nat → Int32) (hs : s ≤ 2 ^ N) (hms : 257 ≤ s + μ_lp0) (hA : ∀ r, r ≠ 23 → A1 r = A r) (hT : ∀ i, i < s → A1 23 (256 * M + i) = pl0S N (A 22) i N), Go G mX12_layPlaced 5 0 0 Q9 0 0 2 [some (.ref q), some (.int (nI s)), none, none, none, none, none] [] (mo G m0 q F A1 L K) n := by
    intro μ_lp0
    induction μ_lp0 with
    | zero =>
      intro s A1 hs hms hA hT
      exact absurd hms (by omega)
    | succ μ_lp0 ih_lp0 =>
      intro s A1 hs hms hA hT
      refine go_iload_n dX12_layPlaced_2 rfl ?_
      refine go_iconst (v := 1) dX12_layPlaced_3 rfl ?_
      refine go_aload_n dX12_layPlaced_4 rfl ?_
      refine go_get dX12_layPlaced_5 fl_X12_87_12 mo_obj hq (by omega) rfl ?_
      refine go_tp (z := nI N) (hN) ?_
      refine go_ishl dX12_layPlaced_8 ?_
      refine go_tp (z := nI (2 ^ N)) (sh1 N (by omega)) ?_
      refine go_icmp_ge dX12_layPlaced_9 (fun c9 => ?_) (fun c9 => ?_)
      · have c9n := (nI_leI (a := 2 ^ N) (b := s) (by omega) (by omega)).mp c9
        have c9n := Nat.not_lt.mpr c9n
        have c9 := Int32.not_lt.mpr c9
        refine go_aload_n dX12_layPlaced_97 rfl ?_
        refine go_get dX12_layPlaced_98 fl_X12_94_12 mo_obj hq (by omega) rfl ?_
        refine go_tp (z := nI M) (hM) ?_
        refine go_iconst (v := 1) dX12_layPlaced_101 rfl ?_
        refine go_isub dX12_layPlaced_102 ?_
        refine go_istore_n (ls' := [some (.ref q), some (.int ((nI M) - 1)), none, none, none, none, none]) dX12_layPlaced_103 ⟨by decide, rfl, rfl⟩ ?_
        have lp2 : ∀ (μ_lp2 : Nat) (l : Nat) (A1 : Nat → Nat → Int32) (hA : ∀ r, r ≠ 23 → A1 r = A r) (hT : ∀ i, i < 2 ^ N → A1 23 (256 * l + i) = plR N M A (A 22) (M - l) i) (hl : l ≤ M) (hml : l + 1 ≤ μ_lp2), Go G mX12_layPlaced 5 0 0 Q9 0 0 104 [some (.ref q), some (.int (nI l - 1)), none, none, none, none, none] [] (mo G m0 q F A1 L K) n := by
          intro μ_lp2
          induction μ_lp2 with
          | zero =>
            intro l A1 hA hT hl hml
            exact absurd hml (by omega)
          | succ μ_lp2 ih_lp2 =>
            intro l A1 hA hT hl hml
            rcases l with _ | l
            · skip
              refine go_iload_n dX12_layPlaced_104 rfl ?_
              refine go_if_lt dX12_layPlaced_105 (fun c105 => ?_) (fun c105 => ?_)
              · exact go_vret dX12_layPlaced_276 rfl (Nat.le_of_ble_eq_true rfl) (Nat.le_of_ble_eq_true rfl) (hQ9 ▸ ⟨rfl, ⟨_, hA, hT 0 (by omega), rfl⟩, rfl⟩)
              · exact absurd (by decide) c105
            · refine go_ls (ls' := [some (.ref q), some (.int (nI l)), none, none, none, none, none]) (by rw [nI_pred]) ?_
              refine go_iload_n dX12_layPlaced_104 rfl ?_
              refine go_if_lt dX12_layPlaced_105 (fun c105 => ?_) (fun c105 => ?_)
              · have c105n := (n0_lt (a := l) (by omega)).mp c105
                first | exact absurd c105n (by decide) | exact absurd (by decide) c105n | exact absurd rfl c105n | omega
              · have c105n := mt (n0_lt (a := l) (by omega)).mpr c105
                refine go_iconst (v := 0) dX12_layPlaced_108 rfl ?_
                refine go_istore_n (ls' := [some (.ref q), some (.int (nI l)), some (.int 0), none, none, none, none]) dX12_layPlaced_109 ⟨by decide, rfl, rfl⟩ ?_
                have lp3 : ∀ (μ_lp3 : Nat) (s : Nat) (A2 : Nat → Nat → Int32) (hs : s ≤ 2 ^ N) (hms : 257 ≤ s + μ_lp3) (hA2 : ∀ r, r ≠ 23 → A2 r = A r) (hT2 : ∀ i, i < 2 ^ N → A2 23 (256 * (l + 1) + i) = plR N M A (A 22) (M - (l + 1)) i) (hS : ∀ i, i < s → A2 23 (256 * l + i) = plR N M A (A 22) (M - l) i), Go G mX12_layPlaced 5 0 0 Q9 0 0 110 [some (.ref q), some (.int (nI l)), some (.int (nI s)), none, none, none, none] [] (mo G m0 q F A2 L K) n := by
                  intro μ_lp3
                  induction μ_lp3 with
                  | zero =>
                    intro s A2 hs hms hA2 hT2 hS
                    exact absurd hms (by omega)
                  | succ μ_lp3 ih_lp3 =>
                    intro s A2 hs hms hA2 hT2 hS
                    refine go_iload_n dX12_layPlaced_110 rfl ?_
                    refine go_iconst (v := 1) dX12_layPlaced_111 rfl ?_
                    refine go_aload_n dX12_layPlaced_112 rfl ?_
                    refine go_get dX12_layPlaced_113 fl_X12_87_12 mo_obj hq (by omega) rfl ?_
                    refine go_tp (z := nI N) (hN) ?_
                    refine go_ishl dX12_layPlaced_116 ?_
                    refine go_tp (z := nI (2 ^ N)) (sh1 N (by omega)) ?_
                    refine go_icmp_ge dX12_layPlaced_117 (fun c117 => ?_) (fun c117 => ?_)
                    · have c117n := (nI_leI (a := 2 ^ N) (b := s) (by omega) (by omega)).mp c117
                      have c117n := Nat.not_lt.mpr c117n
                      have c117 := Int32.not_lt.mpr c117
                      refine go_iinc (v := (nI l) - 1) (ls' := [some (.ref q), some (.int ((nI l) - 1)), some (.int (nI s)), none, none, none, none]) dX12_layPlaced_270 rfl (i32_m1 _) ⟨by decide, rfl, rfl⟩ ?_
                      refine go_goto dX12_layPlaced_273 ?_
                      refine go_weak (ls' := [some (.ref q), some (.int ((nI l) - 1)), none, none, none, none, none]) ⟨rfl, rfl, trivial⟩ ?_
                      have hT2 : ∀ i, i < 2 ^ N → A2 23 (256 * l + i) = plR N M A (A 22) (M - l) i := fun i hi => hS i (by omega)
                      exact ih_lp2 l  _ hA2 hT2 (by omega) (by omega) 
                    · have c117n := mt (nI_leI (a := 2 ^ N) (b := s) (by omega) (by omega)).mpr c117
                      have c117n := Nat.lt_of_not_le c117n
                      have c117 := Int32.not_le.mp c117
                      refine go_aload_n dX12_layPlaced_120 rfl ?_
                      refine go_iconst (v := 0) dX12_layPlaced_121 rfl ?_
                      refine go_iload_n dX12_layPlaced_122 rfl ?_
                      refine go_Vr [.int 0, .int (nI l)] [] dX12_layPlaced_123 vl_X12_279 ⟨by decide, by decide⟩ (e_X12_areAllowed (F := F) (A := A2) (L := L) (K := K) hq hn hN hN8) mo_obj hq (by omega) rfl rfl (Nat.le_of_ble_eq_true rfl) (Nat.le_of_ble_eq_true rfl) (Nat.le_of_ble_eq_true rfl) ?_
                      refine go_tp (z := if awl (A 22) N (0) l then 1 else 0) (by rw [hA2 22 (by decide)]; rfl) ?_
                      refine go_if_eq dX12_layPlaced_126 (fun c126 => ?_) (fun c126 => ?_)
                      · have c126 := bz_f c126
                        refine go_sipush (v := (-9999)) dX12_layPlaced_148 rfl ?_
                        refine go_istore_n (ls' := [some (.ref q), some (.int (nI l)), some (.int (nI s)), some (.int (-9999)), none, none, none]) dX12_layPlaced_151 ⟨by decide, rfl, rfl⟩ ?_
                        refine go_iconst (v := 0) dX12_layPlaced_152 rfl ?_
                        refine go_istore (ls' := [some (.ref q), some (.int (nI l)), some (.int (nI s)), some (.int (-9999)), some (.int 0), none, none]) dX12_layPlaced_153 ⟨by decide, rfl, rfl⟩ ?_
                        have lp4 : ∀ (μ_lp4 : Nat) (a : Nat) (x : Int32) (ha : a ≤ N) (hma : N + 1 ≤ a + μ_lp4) (hx : x = plOut A (plR N M A (A 22) (M - (l + 1))) (A 22) N l s (if awl (A 22) N 0 l = true then (plR N M A (A 22) (M - (l + 1))) s else -9999) a), Go G mX12_layPlaced 5 0 0 Q9 0 0 155 [some (.ref q), some (.int (nI l)), some (.int (nI s)), some (.int x), some (.int (nI a)), none, none] [] (mo G m0 q F A2 L K) n := by
                          intro μ_lp4
                          induction μ_lp4 with
                          | zero =>
                            intro a x ha hma hx
                            exact absurd hma (by omega)
                          | succ μ_lp4 ih_lp4 =>
                            intro a x ha hma hx
                            refine go_iload dX12_layPlaced_155 rfl ?_
                            refine go_aload_n dX12_layPlaced_157 rfl ?_
                            refine go_get dX12_layPlaced_158 fl_X12_87_12 mo_obj hq (by omega) rfl ?_
                            refine go_tp (z := nI N) (hN) ?_
                            refine go_icmp_ge dX12_layPlaced_161 (fun c161 => ?_) (fun c161 => ?_)
                            · have c161n := (nI_leI (a := N) (b := a) (by omega) (by omega)).mp c161
                              have c161n := Nat.not_lt.mpr c161n
                              have c161 := Int32.not_lt.mpr c161
                              refine go_aload_n dX12_layPlaced_251 rfl ?_
                              refine go_get dX12_layPlaced_252 fl_X12_77_12 mo_obj hq (by omega) rfl ?_
                              refine go_sipush (v := 256) dX12_layPlaced_255 rfl ?_
                              refine go_iload_n dX12_layPlaced_258 rfl ?_
                              refine go_imul dX12_layPlaced_259 ?_
                              refine go_tp (z := nI (256 * l)) (pk_mul 256 l) ?_
                              refine go_iload_n dX12_layPlaced_260 rfl ?_
                              refine go_iadd dX12_layPlaced_261 ?_
                              refine go_tp (z := nI ((256 * l) + s)) (nI_add (256 * l) s) ?_
                              refine go_iload_n dX12_layPlaced_262 rfl ?_
                              refine go_iast dX12_layPlaced_263 (mo_arr 23 (by decide)) (by omega) (by omega) (vp_in_nI (n := (256 * l) + s) (by show (256 * l) + s < 1536; omega) (by decide)) ?_
                              refine go_mem (mo_setA 23 (by decide) _ _) ?_
                              rw [nI_clamp (by omega)]
                              refine go_iinc (v := nI (s + 1)) (ls' := [some (.ref q), some (.int (nI l)), some (.int (nI (s + 1))), some (.int x), some (.int (nI a)), none, none]) dX12_layPlaced_264 rfl (nI_1 (s)) ⟨by decide, rfl, rfl⟩ ?_
                              refine go_goto dX12_layPlaced_267 ?_
                              refine go_weak (ls' := [some (.ref q), some (.int (nI l)), some (.int (nI (s + 1))), none, none, none, none]) ⟨rfl, rfl, rfl, trivial⟩ ?_
                              refine ih_lp3 (s + 1) _ (by omega) (by omega) (fun r hr => (upA_n _ hr _ _).trans (hA2 r hr)) (fun i hi => by rw [upA_at, if_neg (by omega)]; exact hT2 i hi) (fun i hi => ?_)
                              rw [upA_at]
                              by_cases e : i = s
                              · rw [if_pos ⟨rfl, by rw [e]⟩, hx, show a = N by omega, e, plR_s (l := l) (s := s) (by omega)]; rfl
                              · rw [if_neg (by omega)]; exact hS i (by omega)
                            · have c161n := mt (nI_leI (a := N) (b := a) (by omega) (by omega)).mpr c161
                              have c161n := Nat.lt_of_not_le c161n
                              have c161 := Int32.not_le.mp c161
                              refine go_iload dX12_layPlaced_164 rfl ?_
                              refine go_istore (ls' := [some (.ref q), some (.int (nI l)), some (.int (nI s)), some (.int x), some (.int (nI a)), some (.int (nI a)), none]) dX12_layPlaced_166 ⟨by decide, rfl, rfl⟩ ?_
                              have lp5 : ∀ (μ_lp5 : Nat) (k : Nat) (y : Int32) (hk : a + k ≤ N) (hmk : N + 1 ≤ k + μ_lp5) (hy : y = plIn A (plR N M A (A 22) (M - (l + 1))) (A 22) N l s a x k), Go G mX12_layPlaced 5 0 0 Q9 0 0 168 [some (.ref q), some (.int (nI l)), some (.int (nI s)), some (.int y), some (.int (nI a)), some (.int (nI (a + k))), none] [] (mo G m0 q F A2 L K) n := by
                                intro μ_lp5
                                induction μ_lp5 with
                                | zero =>
                                  intro k y hk hmk hy
                                  exact absurd hmk (by omega)
                                | succ μ_lp5 ih_lp5 =>
                                  intro k y hk hmk hy
                                  refine go_iload dX12_layPlaced_168 rfl ?_
                                  refine go_aload_n dX12_layPlaced_170 rfl ?_
                                  refine go_get dX12_layPlaced_171 fl_X12_87_12 mo_obj hq (by omega) rfl ?_
                                  refine go_tp (z := nI N) (hN) ?_
                                  refine go_icmp_ge dX12_layPlaced_174 (fun c174 => ?_) (fun c174 => ?_)
                                  · have c174n := (nI_leI (a := N) (b := a + k) (by omega) (by omega)).mp c174
                                    have c174n := Nat.not_lt.mpr c174n
                                    have c174 := Int32.not_lt.mpr c174
                                    refine go_iinc (v := nI (a + 1)) (ls' := [some (.ref q), some (.int (nI l)), some (.int (nI s)), some (.int y), some (.int (nI (a + 1))), some (.int (nI (a + k))), none]) dX12_layPlaced_245 rfl (nI_1 (a)) ⟨by decide, rfl, rfl⟩ ?_
                                    refine go_goto dX12_layPlaced_248 ?_
                                    refine go_weak (ls' := [some (.ref q), some (.int (nI l)), some (.int (nI s)), some (.int y), some (.int (nI (a + 1))), none, none]) ⟨rfl, rfl, rfl, rfl, rfl, trivial⟩ ?_
                                    exact ih_lp4 (a + 1) _ (by omega) (by omega) (by unfold plOut; rw [← hx, hy, show N - a = k by omega])
                                  · have c174n := mt (nI_leI (a := N) (b := a + k) (by omega) (by omega)).mpr c174
                                    have c174n := Nat.lt_of_not_le c174n
                                    have c174 := Int32.not_le.mp c174
                                    refine go_iconst (v := 1) dX12_layPlaced_177 rfl ?_
                                    refine go_iload dX12_layPlaced_178 rfl ?_
                                    refine go_ishl dX12_layPlaced_180 ?_
                                    refine go_tp (z := nI (2 ^ a)) (sh1 a (by omega)) ?_
                                    refine go_iconst (v := 1) dX12_layPlaced_181 rfl ?_
                                    refine go_iload dX12_layPlaced_182 rfl ?_
                                    refine go_ishl dX12_layPlaced_184 ?_
                                    refine go_tp (z := nI (2 ^ (a + k))) (sh1 (a + k) (by omega)) ?_
                                    refine go_ior dX12_layPlaced_185 ?_
                                    refine go_tp (z := nI ((2 ^ a) ||| (2 ^ (a + k)))) (nI_or (2 ^ a) (2 ^ (a + k))) ?_
                                    refine go_istore (ls' := [some (.ref q), some (.int (nI l)), some (.int (nI s)), some (.int y), some (.int (nI a)), some (.int (nI (a + k))), some (.int (nI ((2 ^ a) ||| (2 ^ (a + k)))))]) dX12_layPlaced_186 ⟨by decide, rfl, rfl⟩ ?_
                                    refine go_iload_n dX12_layPlaced_188 rfl ?_
                                    refine go_iload dX12_layPlaced_189 rfl ?_
                                    refine go_iand dX12_layPlaced_191 ?_
                                    refine go_tp (z := nI (s &&& ((2 ^ a) ||| (2 ^ (a + k))))) (nI_and s ((2 ^ a) ||| (2 ^ (a + k)))) ?_
                                    have hpa := p8_lt (a := a) (by omega)
                                    have hpb := p8_lt (a := a + k) (by omega)
                                    have hbo : 2 ^ a ||| 2 ^ (a + k) < 256 := or_lt8 hpa hpb
                                    have hso : s ||| (2 ^ a ||| 2 ^ (a + k)) < 256 := or_lt8 (by omega) hbo
                                    have hal : s &&& (2 ^ a ||| 2 ^ (a + k)) ≤ s := Nat.and_le_left
                                    have hsN : s ||| (2 ^ a ||| 2 ^ (a + k)) < 2 ^ N := Nat.or_lt_two_pow (by omega) (Nat.or_lt_two_pow (Nat.pow_lt_pow_right (by decide) (by omega)) (Nat.pow_lt_pow_right (by decide) (by omega)))
                                    refine go_if_ne dX12_layPlaced_192 (fun c192 => ?_) (fun c192 => ?_)
                                    · have c192n := mt (n0_eq (a := s &&& ((2 ^ a) ||| (2 ^ (a + k)))) (by omega)).mpr c192
                                      refine go_iinc (v := nI ((a + k) + 1)) (ls' := [some (.ref q), some (.int (nI l)), some (.int (nI s)), some (.int y), some (.int (nI a)), some (.int (nI ((a + k) + 1))), some (.int (nI ((2 ^ a) ||| (2 ^ (a + k)))))]) dX12_layPlaced_239 rfl (nI_1 (a + k)) ⟨by decide, rfl, rfl⟩ ?_
                                      refine go_goto dX12_layPlaced_242 ?_
                                      refine go_weak (ls' := [some (.ref q), some (.int (nI l)), some (.int (nI s)), some (.int y), some (.int (nI a)), some (.int (nI ((a + k) + 1))), none]) ⟨rfl, rfl, rfl, rfl, rfl, rfl, trivial⟩ ?_
                                      exact ih_lp5 (k + 1) _ (by omega) (by omega) (by unfold plIn; rw [if_neg c192n, ← hy])
                                    · have c192n := (n0_eq (a := s &&& ((2 ^ a) ||| (2 ^ (a + k)))) (by omega)).mp c192
                                      refine go_aload_n dX12_layPlaced_195 rfl ?_
                                      refine go_iload dX12_layPlaced_196 rfl ?_
                                      refine go_iload_n dX12_layPlaced_198 rfl ?_
                                      refine go_Vr [.int (nI ((2 ^ a) ||| (2 ^ (a + k)))), .int (nI l)] [] dX12_layPlaced_199 vl_X12_279 ⟨by decide, by decide⟩ (e_X12_areAllowed (F := F) (A := A2) (L := L) (K := K) hq hn hN hN8) mo_obj hq (by omega) rfl rfl (Nat.le_of_ble_eq_true rfl) (Nat.le_of_ble_eq_true rfl) (Nat.le_of_ble_eq_true rfl) ?_
                                      refine go_tp (z := if awl (A 22) N (nI ((2 ^ a) ||| (2 ^ (a + k)))) l then 1 else 0) (by rw [hA2 22 (by decide)]; rfl) ?_
                                      refine go_if_eq dX12_layPlaced_202 (fun c202 => ?_) (fun c202 => ?_)
                                      · have c202 := bz_f c202
                                        refine go_iinc (v := nI ((a + k) + 1)) (ls' := [some (.ref q), some (.int (nI l)), some (.int (nI s)), some (.int y), some (.int (nI a)), some (.int (nI ((a + k) + 1))), some (.int (nI ((2 ^ a) ||| (2 ^ (a + k)))))]) dX12_layPlaced_239 rfl (nI_1 (a + k)) ⟨by decide, rfl, rfl⟩ ?_
                                        refine go_goto dX12_layPlaced_242 ?_
                                        refine go_weak (ls' := [some (.ref q), some (.int (nI l)), some (.int (nI s)), some (.int y), some (.int (nI a)), some (.int (nI ((a + k) + 1))), none]) ⟨rfl, rfl, rfl, rfl, rfl, rfl, trivial⟩ ?_
                                        exact ih_lp5 (k + 1) _ (by omega) (by omega) (by unfold plIn; rw [if_pos c192n, if_neg c202, ← hy])
                                      · have c202 := bz_t c202
                                        refine go_iload_n dX12_layPlaced_205 rfl ?_
                                        refine go_aload_n dX12_layPlaced_206 rfl ?_
                                        refine go_iload dX12_layPlaced_207 rfl ?_
                                        refine go_iload dX12_layPlaced_209 rfl ?_
                                        refine go_iload_n dX12_layPlaced_211 rfl ?_
                                        refine go_Vr [.int (nI a), .int (nI (a + k)), .int (nI l)] [.int y] dX12_layPlaced_212 vl_X12_282 ⟨by decide, by decide⟩ (e_X12_contentIn (F := F) (A := A2) (L := L) (K := K) hq hn (by omega) (by omega) (by omega)) mo_obj hq (by omega) rfl rfl (Nat.le_of_ble_eq_true rfl) (Nat.le_of_ble_eq_true rfl) (Nat.le_of_ble_eq_true rfl) ?_
                                        refine go_tp (z := ciS A a (a + k) l) (ciS_rows (fun r hr => hA2 r (by omega)) _ _ _) ?_
                                        refine go_aload_n dX12_layPlaced_215 rfl ?_
                                        refine go_get dX12_layPlaced_216 fl_X12_77_12 mo_obj hq (by omega) rfl ?_
                                        refine go_sipush (v := 256) dX12_layPlaced_219 rfl ?_
                                        refine go_iload_n dX12_layPlaced_222 rfl ?_
                                        refine go_imul dX12_layPlaced_223 ?_
                                        refine go_tp (z := nI (256 * l)) (pk_mul 256 l) ?_
                                        refine go_sipush (v := 256) dX12_layPlaced_224 rfl ?_
                                        refine go_iadd dX12_layPlaced_227 ?_
                                        refine go_tp (z := nI ((256 * l) + 256)) (nI_add (256 * l) 256) ?_
                                        refine go_iload_n dX12_layPlaced_228 rfl ?_
                                        refine go_iload dX12_layPlaced_229 rfl ?_
                                        refine go_ior dX12_layPlaced_231 ?_
                                        refine go_tp (z := nI (s ||| ((2 ^ a) ||| (2 ^ (a + k))))) (nI_or s ((2 ^ a) ||| (2 ^ (a + k)))) ?_
                                        refine go_iadd dX12_layPlaced_232 ?_
                                        refine go_tp (z := nI (((256 * l) + 256) + (s ||| ((2 ^ a) ||| (2 ^ (a + k)))))) (nI_add ((256 * l) + 256) (s ||| ((2 ^ a) ||| (2 ^ (a + k))))) ?_
                                        refine go_iald dX12_layPlaced_233 (mo_arr 23 (by decide)) (by omega) (by omega) (vp_in_nI (n := ((256 * l) + 256) + (s ||| ((2 ^ a) ||| (2 ^ (a + k))))) (by show ((256 * l) + 256) + (s ||| ((2 ^ a) ||| (2 ^ (a + k)))) < 1536; omega) (by decide)) ?_
                                        refine go_tp (z := A2 23 (((256 * l) + 256) + (s ||| ((2 ^ a) ||| (2 ^ (a + k)))))) (by rw [nI_clamp (by omega)]) ?_
                                        refine go_tp (z := plR N M A (A 22) (M - (l + 1)) (s ||| (2 ^ a ||| 2 ^ (a + k)))) (by rw [show 256 * l + 256 + (s ||| (2 ^ a ||| 2 ^ (a + k))) = 256 * (l + 1) + (s ||| (2 ^ a ||| 2 ^ (a + k))) by omega]; exact hT2 _ hsN) ?_
                                        refine go_iadd dX12_layPlaced_234 ?_
                                        refine go_Sr [.int y, .int ((ciS A a (a + k) l) + (plR N M A (A 22) (M - (l + 1)) (s ||| (2 ^ a ||| 2 ^ (a + k)))))] [] dX12_layPlaced_235 sl_X12_105 ⟨by decide, by decide⟩ (e_X12_greater) rfl rfl (Nat.le_of_ble_eq_true rfl) (Nat.le_of_ble_eq_true rfl) (Nat.le_of_ble_eq_true rfl) ?_
                                        refine go_istore_n (ls' := [some (.ref q), some (.int (nI l)), some (.int (nI s)), some (.int (grS (y) ((ciS A a (a + k) l) + (plR N M A (A 22) (M - (l + 1)) (s ||| (2 ^ a ||| 2 ^ (a + k))))))), some (.int (nI a)), some (.int (nI (a + k))), some (.int (nI ((2 ^ a) ||| (2 ^ (a + k)))))]) dX12_layPlaced_238 ⟨by decide, rfl, rfl⟩ ?_
                                        refine go_iinc (v := nI ((a + k) + 1)) (ls' := [some (.ref q), some (.int (nI l)), some (.int (nI s)), some (.int (grS (y) ((ciS A a (a + k) l) + (plR N M A (A 22) (M - (l + 1)) (s ||| (2 ^ a ||| 2 ^ (a + k))))))), some (.int (nI a)), some (.int (nI ((a + k) + 1))), some (.int (nI ((2 ^ a) ||| (2 ^ (a + k)))))]) dX12_layPlaced_239 rfl (nI_1 (a + k)) ⟨by decide, rfl, rfl⟩ ?_
                                        refine go_goto dX12_layPlaced_242 ?_
                                        refine go_weak (ls' := [some (.ref q), some (.int (nI l)), some (.int (nI s)), some (.int (grS (y) ((ciS A a (a + k) l) + (plR N M A (A 22) (M - (l + 1)) (s ||| (2 ^ a ||| 2 ^ (a + k))))))), some (.int (nI a)), some (.int (nI ((a + k) + 1))), none]) ⟨rfl, rfl, rfl, rfl, rfl, rfl, trivial⟩ ?_
                                        exact ih_lp5 (k + 1) _ (by omega) (by omega) (by unfold plIn; rw [if_pos c192n, if_pos c202, ← hy])
                              exact lp5 (N + 1) 0 _ (by omega) (by omega) rfl
                        exact lp4 (N + 1) 0 _ (Nat.zero_le _) (by omega) (by simp [plOut, c126])
                      · have c126 := bz_t c126
                        refine go_aload_n dX12_layPlaced_129 rfl ?_
                        refine go_get dX12_layPlaced_130 fl_X12_77_12 mo_obj hq (by omega) rfl ?_
                        refine go_sipush (v := 256) dX12_layPlaced_133 rfl ?_
                        refine go_iload_n dX12_layPlaced_136 rfl ?_
                        refine go_imul dX12_layPlaced_137 ?_
                        refine go_tp (z := nI (256 * l)) (pk_mul 256 l) ?_
                        refine go_sipush (v := 256) dX12_layPlaced_138 rfl ?_
                        refine go_iadd dX12_layPlaced_141 ?_
                        refine go_tp (z := nI ((256 * l) + 256)) (nI_add (256 * l) 256) ?_
                        refine go_iload_n dX12_layPlaced_142 rfl ?_
                        refine go_iadd dX12_layPlaced_143 ?_
                        refine go_tp (z := nI (((256 * l) + 256) + s)) (nI_add ((256 * l) + 256) s) ?_
                        refine go_iald dX12_layPlaced_144 (mo_arr 23 (by decide)) (by omega) (by omega) (vp_in_nI (n := ((256 * l) + 256) + s) (by show ((256 * l) + 256) + s < 1536; omega) (by decide)) ?_
                        refine go_tp (z := A2 23 (((256 * l) + 256) + s)) (by rw [nI_clamp (by omega)]) ?_
                        refine go_tp (z := plR N M A (A 22) (M - (l + 1)) s) (by rw [show 256 * l + 256 + s = 256 * (l + 1) + s by omega]; exact hT2 s (by omega)) ?_
                        refine go_goto dX12_layPlaced_145 ?_
                        refine go_istore_n (ls' := [some (.ref q), some (.int (nI l)), some (.int (nI s)), some (.int (plR N M A (A 22) (M - (l + 1)) s)), none, none, none]) dX12_layPlaced_151 ⟨by decide, rfl, rfl⟩ ?_
                        refine go_iconst (v := 0) dX12_layPlaced_152 rfl ?_
                        refine go_istore (ls' := [some (.ref q), some (.int (nI l)), some (.int (nI s)), some (.int (plR N M A (A 22) (M - (l + 1)) s)), some (.int 0), none, none]) dX12_layPlaced_153 ⟨by decide, rfl, rfl⟩ ?_
                        have lp4 : ∀ (μ_lp4 : Nat) (a : Nat) (x : Int32) (ha : a ≤ N) (hma : N + 1 ≤ a + μ_lp4) (hx : x = plOut A (plR N M A (A 22) (M - (l + 1))) (A 22) N l s (if awl (A 22) N 0 l = true then (plR N M A (A 22) (M - (l + 1))) s else -9999) a), Go G mX12_layPlaced 5 0 0 Q9 0 0 155 [some (.ref q), some (.int (nI l)), some (.int (nI s)), some (.int x), some (.int (nI a)), none, none] [] (mo G m0 q F A2 L K) n := by
                          intro μ_lp4
                          induction μ_lp4 with
                          | zero =>
                            intro a x ha hma hx
                            exact absurd hma (by omega)
                          | succ μ_lp4 ih_lp4 =>
                            intro a x ha hma hx
                            refine go_iload dX12_layPlaced_155 rfl ?_
                            refine go_aload_n dX12_layPlaced_157 rfl ?_
                            refine go_get dX12_layPlaced_158 fl_X12_87_12 mo_obj hq (by omega) rfl ?_
                            refine go_tp (z := nI N) (hN) ?_
                            refine go_icmp_ge dX12_layPlaced_161 (fun c161 => ?_) (fun c161 => ?_)
                            · have c161n := (nI_leI (a := N) (b := a) (by omega) (by omega)).mp c161
                              have c161n := Nat.not_lt.mpr c161n
                              have c161 := Int32.not_lt.mpr c161
                              refine go_aload_n dX12_layPlaced_251 rfl ?_
                              refine go_get dX12_layPlaced_252 fl_X12_77_12 mo_obj hq (by omega) rfl ?_
                              refine go_sipush (v := 256) dX12_layPlaced_255 rfl ?_
                              refine go_iload_n dX12_layPlaced_258 rfl ?_
                              refine go_imul dX12_layPlaced_259 ?_
                              refine go_tp (z := nI (256 * l)) (pk_mul 256 l) ?_
                              refine go_iload_n dX12_layPlaced_260 rfl ?_
                              refine go_iadd dX12_layPlaced_261 ?_
                              refine go_tp (z := nI ((256 * l) + s)) (nI_add (256 * l) s) ?_
                              refine go_iload_n dX12_layPlaced_262 rfl ?_
                              refine go_iast dX12_layPlaced_263 (mo_arr 23 (by decide)) (by omega) (by omega) (vp_in_nI (n := (256 * l) + s) (by show (256 * l) + s < 1536; omega) (by decide)) ?_
                              refine go_mem (mo_setA 23 (by decide) _ _) ?_
                              rw [nI_clamp (by omega)]
                              refine go_iinc (v := nI (s + 1)) (ls' := [some (.ref q), some (.int (nI l)), some (.int (nI (s + 1))), some (.int x), some (.int (nI a)), none, none]) dX12_layPlaced_264 rfl (nI_1 (s)) ⟨by decide, rfl, rfl⟩ ?_
                              refine go_goto dX12_layPlaced_267 ?_
                              refine go_weak (ls' := [some (.ref q), some (.int (nI l)), some (.int (nI (s + 1))), none, none, none, none]) ⟨rfl, rfl, rfl, trivial⟩ ?_
                              refine ih_lp3 (s + 1) _ (by omega) (by omega) (fun r hr => (upA_n _ hr _ _).trans (hA2 r hr)) (fun i hi => by rw [upA_at, if_neg (by omega)]; exact hT2 i hi) (fun i hi => ?_)
                              rw [upA_at]
                              by_cases e : i = s
                              · rw [if_pos ⟨rfl, by rw [e]⟩, hx, show a = N by omega, e, plR_s (l := l) (s := s) (by omega)]; rfl
                              · rw [if_neg (by omega)]; exact hS i (by omega)
                            · have c161n := mt (nI_leI (a := N) (b := a) (by omega) (by omega)).mpr c161
                              have c161n := Nat.lt_of_not_le c161n
                              have c161 := Int32.not_le.mp c161
                              refine go_iload dX12_layPlaced_164 rfl ?_
                              refine go_istore (ls' := [some (.ref q), some (.int (nI l)), some (.int (nI s)), some (.int x), some (.int (nI a)), some (.int (nI a)), none]) dX12_layPlaced_166 ⟨by decide, rfl, rfl⟩ ?_
                              have lp5 : ∀ (μ_lp5 : Nat) (k : Nat) (y : Int32) (hk : a + k ≤ N) (hmk : N + 1 ≤ k + μ_lp5) (hy : y = plIn A (plR N M A (A 22) (M - (l + 1))) (A 22) N l s a x k), Go G mX12_layPlaced 5 0 0 Q9 0 0 168 [some (.ref q), some (.int (nI l)), some (.int (nI s)), some (.int y), some (.int (nI a)), some (.int (nI (a + k))), none] [] (mo G m0 q F A2 L K) n := by
                                intro μ_lp5
                                induction μ_lp5 with
                                | zero =>
                                  intro k y hk hmk hy
                                  exact absurd hmk (by omega)
                                | succ μ_lp5 ih_lp5 =>
                                  intro k y hk hmk hy
                                  refine go_iload dX12_layPlaced_168 rfl ?_
                                  refine go_aload_n dX12_layPlaced_170 rfl ?_
                                  refine go_get dX12_layPlaced_171 fl_X12_87_12 mo_obj hq (by omega) rfl ?_
                                  refine go_tp (z := nI N) (hN) ?_
                                  refine go_icmp_ge dX12_layPlaced_174 (fun c174 => ?_) (fun c174 => ?_)
                                  · have c174n := (nI_leI (a := N) (b := a + k) (by omega) (by omega)).mp c174
                                    have c174n := Nat.not_lt.mpr c174n
                                    have c174 := Int32.not_lt.mpr c174
                                    refine go_iinc (v := nI (a + 1)) (ls' := [some (.ref q), some (.int (nI l)), some (.int (nI s)), some (.int y), some (.int (nI (a + 1))), some (.int (nI (a + k))), none]) dX12_layPlaced_245 rfl (nI_1 (a)) ⟨by decide, rfl, rfl⟩ ?_
                                    refine go_goto dX12_layPlaced_248 ?_
                                    refine go_weak (ls' := [some (.ref q), some (.int (nI l)), some (.int (nI s)), some (.int y), some (.int (nI (a + 1))), none, none]) ⟨rfl, rfl, rfl, rfl, rfl, trivial⟩ ?_
                                    exact ih_lp4 (a + 1) _ (by omega) (by omega) (by unfold plOut; rw [← hx, hy, show N - a = k by omega])
                                  · have c174n := mt (nI_leI (a := N) (b := a + k) (by omega) (by omega)).mpr c174
                                    have c174n := Nat.lt_of_not_le c174n
                                    have c174 := Int32.not_le.mp c174
                                    refine go_iconst (v := 1) dX12_layPlaced_177 rfl ?_
                                    refine go_iload dX12_layPlaced_178 rfl ?_
                                    refine go_ishl dX12_layPlaced_180 ?_
                                    refine go_tp (z := nI (2 ^ a)) (sh1 a (by omega)) ?_
                                    refine go_iconst (v := 1) dX12_layPlaced_181 rfl ?_
                                    refine go_iload dX12_layPlaced_182 rfl ?_
                                    refine go_ishl dX12_layPlaced_184 ?_
                                    refine go_tp (z := nI (2 ^ (a + k))) (sh1 (a + k) (by omega)) ?_
                                    refine go_ior dX12_layPlaced_185 ?_
                                    refine go_tp (z := nI ((2 ^ a) ||| (2 ^ (a + k)))) (nI_or (2 ^ a) (2 ^ (a + k))) ?_
                                    refine go_istore (ls' := [some (.ref q), some (.int (nI l)), some (.int (nI s)), some (.int y), some (.int (nI a)), some (.int (nI (a + k))), some (.int (nI ((2 ^ a) ||| (2 ^ (a + k)))))]) dX12_layPlaced_186 ⟨by decide, rfl, rfl⟩ ?_
                                    refine go_iload_n dX12_layPlaced_188 rfl ?_
                                    refine go_iload dX12_layPlaced_189 rfl ?_
                                    refine go_iand dX12_layPlaced_191 ?_
                                    refine go_tp (z := nI (s &&& ((2 ^ a) ||| (2 ^ (a + k))))) (nI_and s ((2 ^ a) ||| (2 ^ (a + k)))) ?_
                                    have hpa := p8_lt (a := a) (by omega)
                                    have hpb := p8_lt (a := a + k) (by omega)
                                    have hbo : 2 ^ a ||| 2 ^ (a + k) < 256 := or_lt8 hpa hpb
                                    have hso : s ||| (2 ^ a ||| 2 ^ (a + k)) < 256 := or_lt8 (by omega) hbo
                                    have hal : s &&& (2 ^ a ||| 2 ^ (a + k)) ≤ s := Nat.and_le_left
                                    have hsN : s ||| (2 ^ a ||| 2 ^ (a + k)) < 2 ^ N := Nat.or_lt_two_pow (by omega) (Nat.or_lt_two_pow (Nat.pow_lt_pow_right (by decide) (by omega)) (Nat.pow_lt_pow_right (by decide) (by omega)))
                                    refine go_if_ne dX12_layPlaced_192 (fun c192 => ?_) (fun c192 => ?_)
                                    · have c192n := mt (n0_eq (a := s &&& ((2 ^ a) ||| (2 ^ (a + k)))) (by omega)).mpr c192
                                      refine go_iinc (v := nI ((a + k) + 1)) (ls' := [some (.ref q), some (.int (nI l)), some (.int (nI s)), some (.int y), some (.int (nI a)), some (.int (nI ((a + k) + 1))), some (.int (nI ((2 ^ a) ||| (2 ^ (a + k)))))]) dX12_layPlaced_239 rfl (nI_1 (a + k)) ⟨by decide, rfl, rfl⟩ ?_
                                      refine go_goto dX12_layPlaced_242 ?_
                                      refine go_weak (ls' := [some (.ref q), some (.int (nI l)), some (.int (nI s)), some (.int y), some (.int (nI a)), some (.int (nI ((a + k) + 1))), none]) ⟨rfl, rfl, rfl, rfl, rfl, rfl, trivial⟩ ?_
                                      exact ih_lp5 (k + 1) _ (by omega) (by omega) (by unfold plIn; rw [if_neg c192n, ← hy])
                                    · have c192n := (n0_eq (a := s &&& ((2 ^ a) ||| (2 ^ (a + k)))) (by omega)).mp c192
                                      refine go_aload_n dX12_layPlaced_195 rfl ?_
                                      refine go_iload dX12_layPlaced_196 rfl ?_
                                      refine go_iload_n dX12_layPlaced_198 rfl ?_
                                      refine go_Vr [.int (nI ((2 ^ a) ||| (2 ^ (a + k)))), .int (nI l)] [] dX12_layPlaced_199 vl_X12_279 ⟨by decide, by decide⟩ (e_X12_areAllowed (F := F) (A := A2) (L := L) (K := K) hq hn hN hN8) mo_obj hq (by omega) rfl rfl (Nat.le_of_ble_eq_true rfl) (Nat.le_of_ble_eq_true rfl) (Nat.le_of_ble_eq_true rfl) ?_
                                      refine go_tp (z := if awl (A 22) N (nI ((2 ^ a) ||| (2 ^ (a + k)))) l then 1 else 0) (by rw [hA2 22 (by decide)]; rfl) ?_
                                      refine go_if_eq dX12_layPlaced_202 (fun c202 => ?_) (fun c202 => ?_)
                                      · have c202 := bz_f c202
                                        refine go_iinc (v := nI ((a + k) + 1)) (ls' := [some (.ref q), some (.int (nI l)), some (.int (nI s)), some (.int y), some (.int (nI a)), some (.int (nI ((a + k) + 1))), some (.int (nI ((2 ^ a) ||| (2 ^ (a + k)))))]) dX12_layPlaced_239 rfl (nI_1 (a + k)) ⟨by decide, rfl, rfl⟩ ?_
                                        refine go_goto dX12_layPlaced_242 ?_
                                        refine go_weak (ls' := [some (.ref q), some (.int (nI l)), some (.int (nI s)), some (.int y), some (.int (nI a)), some (.int (nI ((a + k) + 1))), none]) ⟨rfl, rfl, rfl, rfl, rfl, rfl, trivial⟩ ?_
                                        exact ih_lp5 (k + 1) _ (by omega) (by omega) (by unfold plIn; rw [if_pos c192n, if_neg c202, ← hy])
                                      · have c202 := bz_t c202
                                        refine go_iload_n dX12_layPlaced_205 rfl ?_
                                        refine go_aload_n dX12_layPlaced_206 rfl ?_
                                        refine go_iload dX12_layPlaced_207 rfl ?_
                                        refine go_iload dX12_layPlaced_209 rfl ?_
                                        refine go_iload_n dX12_layPlaced_211 rfl ?_
                                        refine go_Vr [.int (nI a), .int (nI (a + k)), .int (nI l)] [.int y] dX12_layPlaced_212 vl_X12_282 ⟨by decide, by decide⟩ (e_X12_contentIn (F := F) (A := A2) (L := L) (K := K) hq hn (by omega) (by omega) (by omega)) mo_obj hq (by omega) rfl rfl (Nat.le_of_ble_eq_true rfl) (Nat.le_of_ble_eq_true rfl) (Nat.le_of_ble_eq_true rfl) ?_
                                        refine go_tp (z := ciS A a (a + k) l) (ciS_rows (fun r hr => hA2 r (by omega)) _ _ _) ?_
                                        refine go_aload_n dX12_layPlaced_215 rfl ?_
                                        refine go_get dX12_layPlaced_216 fl_X12_77_12 mo_obj hq (by omega) rfl ?_
                                        refine go_sipush (v := 256) dX12_layPlaced_219 rfl ?_
                                        refine go_iload_n dX12_layPlaced_222 rfl ?_
                                        refine go_imul dX12_layPlaced_223 ?_
                                        refine go_tp (z := nI (256 * l)) (pk_mul 256 l) ?_
                                        refine go_sipush (v := 256) dX12_layPlaced_224 rfl ?_
                                        refine go_iadd dX12_layPlaced_227 ?_
                                        refine go_tp (z := nI ((256 * l) + 256)) (nI_add (256 * l) 256) ?_
                                        refine go_iload_n dX12_layPlaced_228 rfl ?_
                                        refine go_iload dX12_layPlaced_229 rfl ?_
                                        refine go_ior dX12_layPlaced_231 ?_
                                        refine go_tp (z := nI (s ||| ((2 ^ a) ||| (2 ^ (a + k))))) (nI_or s ((2 ^ a) ||| (2 ^ (a + k)))) ?_
                                        refine go_iadd dX12_layPlaced_232 ?_
                                        refine go_tp (z := nI (((256 * l) + 256) + (s ||| ((2 ^ a) ||| (2 ^ (a + k)))))) (nI_add ((256 * l) + 256) (s ||| ((2 ^ a) ||| (2 ^ (a + k))))) ?_
                                        refine go_iald dX12_layPlaced_233 (mo_arr 23 (by decide)) (by omega) (by omega) (vp_in_nI (n := ((256 * l) + 256) + (s ||| ((2 ^ a) ||| (2 ^ (a + k))))) (by show ((256 * l) + 256) + (s ||| ((2 ^ a) ||| (2 ^ (a + k)))) < 1536; omega) (by decide)) ?_
                                        refine go_tp (z := A2 23 (((256 * l) + 256) + (s ||| ((2 ^ a) ||| (2 ^ (a + k)))))) (by rw [nI_clamp (by omega)]) ?_
                                        refine go_tp (z := plR N M A (A 22) (M - (l + 1)) (s ||| (2 ^ a ||| 2 ^ (a + k)))) (by rw [show 256 * l + 256 + (s ||| (2 ^ a ||| 2 ^ (a + k))) = 256 * (l + 1) + (s ||| (2 ^ a ||| 2 ^ (a + k))) by omega]; exact hT2 _ hsN) ?_
                                        refine go_iadd dX12_layPlaced_234 ?_
                                        refine go_Sr [.int y, .int ((ciS A a (a + k) l) + (plR N M A (A 22) (M - (l + 1)) (s ||| (2 ^ a ||| 2 ^ (a + k)))))] [] dX12_layPlaced_235 sl_X12_105 ⟨by decide, by decide⟩ (e_X12_greater) rfl rfl (Nat.le_of_ble_eq_true rfl) (Nat.le_of_ble_eq_true rfl) (Nat.le_of_ble_eq_true rfl) ?_
                                        refine go_istore_n (ls' := [some (.ref q), some (.int (nI l)), some (.int (nI s)), some (.int (grS (y) ((ciS A a (a + k) l) + (plR N M A (A 22) (M - (l + 1)) (s ||| (2 ^ a ||| 2 ^ (a + k))))))), some (.int (nI a)), some (.int (nI (a + k))), some (.int (nI ((2 ^ a) ||| (2 ^ (a + k)))))]) dX12_layPlaced_238 ⟨by decide, rfl, rfl⟩ ?_
                                        refine go_iinc (v := nI ((a + k) + 1)) (ls' := [some (.ref q), some (.int (nI l)), some (.int (nI s)), some (.int (grS (y) ((ciS A a (a + k) l) + (plR N M A (A 22) (M - (l + 1)) (s ||| (2 ^ a ||| 2 ^ (a + k))))))), some (.int (nI a)), some (.int (nI ((a + k) + 1))), some (.int (nI ((2 ^ a) ||| (2 ^ (a + k)))))]) dX12_layPlaced_239 rfl (nI_1 (a + k)) ⟨by decide, rfl, rfl⟩ ?_
                                        refine go_goto dX12_layPlaced_242 ?_
                                        refine go_weak (ls' := [some (.ref q), some (.int (nI l)), some (.int (nI s)), some (.int (grS (y) ((ciS A a (a + k) l) + (plR N M A (A 22) (M - (l + 1)) (s ||| (2 ^ a ||| 2 ^ (a + k))))))), some (.int (nI a)), some (.int (nI ((a + k) + 1))), none]) ⟨rfl, rfl, rfl, rfl, rfl, rfl, trivial⟩ ?_
                                        exact ih_lp5 (k + 1) _ (by omega) (by omega) (by unfold plIn; rw [if_pos c192n, if_pos c202, ← hy])
                              exact lp5 (N + 1) 0 _ (by omega) (by omega) rfl
                        exact lp4 (N + 1) 0 _ (Nat.zero_le _) (by omega) (by simp [plOut, c126])
                exact lp3 257 0 A1 (by omega) (by omega) hA hT (fun i hi => absurd hi (by omega))
        have hT0 : ∀ i, i < 2 ^ N → A1 23 (256 * M + i) = plR N M A (A 22) (M - M) i := fun i hi => by rw [Nat.sub_self]; exact hT i (by omega)
        exact lp2 (M + 1) M  _ hA hT0 (Nat.le_refl _) (Nat.le_refl _) 
      · have c9n := mt (nI_leI (a := 2 ^ N) (b := s) (by omega) (by omega)).mpr c9
        have c9n := Nat.lt_of_not_le c9n
        have c9 := Int32.not_le.mp c9
        refine go_iconst (v := 0) dX12_layPlaced_12 rfl ?_
        refine go_istore_n (ls' := [some (.ref q), some (.int (nI s)), some (.int 0), none, none, none, none]) dX12_layPlaced_13 ⟨by decide, rfl, rfl⟩ ?_
        refine go_iconst (v := 0) dX12_layPlaced_14 rfl ?_
        refine go_istore_n (ls' := [some (.ref q), some (.int (nI s)), some (.int 0), some (.int 0), none, none, none]) dX12_layPlaced_15 ⟨by decide, rfl, rfl⟩ ?_
        have lp1 : ∀ (μ_lp1 : Nat) (p : Nat) (x : Int32) (hp : p ≤ N) (hmp : N + 1 ≤ p + μ_lp1) (hx : x = pl0S N (A 22) s p), Go G mX12_layPlaced 5 0 0 Q9 0 0 16 [some (.ref q), some (.int (nI s)), some (.int x), some (.int (nI p)), none, none, none] [] (mo G m0 q F A1 L K) n := by
          intro μ_lp1
          induction μ_lp1 with
          | zero =>
            intro p x hp hmp hx
            exact absurd hmp (by omega)
          | succ μ_lp1 ih_lp1 =>
            intro p x hp hmp hx
            refine go_iload_n dX12_layPlaced_16 rfl ?_
            refine go_aload_n dX12_layPlaced_17 rfl ?_
            refine go_get dX12_layPlaced_18 fl_X12_87_12 mo_obj hq (by omega) rfl ?_
            refine go_tp (z := nI N) (hN) ?_
            refine go_icmp_ge dX12_layPlaced_21 (fun c21 => ?_) (fun c21 => ?_)
            · have c21n := (nI_leI (a := N) (b := p) (by omega) (by omega)).mp c21
              have c21n := Nat.not_lt.mpr c21n
              have c21 := Int32.not_lt.mpr c21
              refine go_aload_n dX12_layPlaced_75 rfl ?_
              refine go_get dX12_layPlaced_76 fl_X12_77_12 mo_obj hq (by omega) rfl ?_
              refine go_sipush (v := 256) dX12_layPlaced_79 rfl ?_
              refine go_aload_n dX12_layPlaced_82 rfl ?_
              refine go_get dX12_layPlaced_83 fl_X12_94_12 mo_obj hq (by omega) rfl ?_
              refine go_tp (z := nI M) (hM) ?_
              refine go_imul dX12_layPlaced_86 ?_
              refine go_tp (z := nI (256 * M)) (pk_mul 256 M) ?_
              refine go_iload_n dX12_layPlaced_87 rfl ?_
              refine go_iadd dX12_layPlaced_88 ?_
              refine go_tp (z := nI ((256 * M) + s)) (nI_add (256 * M) s) ?_
              refine go_iload_n dX12_layPlaced_89 rfl ?_
              refine go_iast dX12_layPlaced_90 (mo_arr 23 (by decide)) (by omega) (by omega) (vp_in_nI (n := (256 * M) + s) (by show (256 * M) + s < 1536; omega) (by decide)) ?_
              refine go_mem (mo_setA 23 (by decide) _ _) ?_
              rw [nI_clamp (by omega)]
              refine go_iinc (v := nI (s + 1)) (ls' := [some (.ref q), some (.int (nI (s + 1))), some (.int x), some (.int (nI p)), none, none, none]) dX12_layPlaced_91 rfl (nI_1 (s)) ⟨by decide, rfl, rfl⟩ ?_
              refine go_goto dX12_layPlaced_94 ?_
              refine go_weak (ls' := [some (.ref q), some (.int (nI (s + 1))), none, none, none, none, none]) ⟨rfl, rfl, trivial⟩ ?_
              refine ih_lp0 (s + 1) _ (by omega) (by omega) (fun r hr => (upA_n _ hr _ _).trans (hA r hr)) (fun i hi => ?_)
              rw [upA_at]
              by_cases e : i = s
              · rw [if_pos ⟨rfl, by rw [e]⟩, hx, show p = N by omega, e]
              · rw [if_neg (by omega)]; exact hT i (by omega)
            · have c21n := mt (nI_leI (a := N) (b := p) (by omega) (by omega)).mpr c21
              have c21n := Nat.lt_of_not_le c21n
              have c21 := Int32.not_le.mp c21
              refine go_iload_n dX12_layPlaced_24 rfl ?_
              refine go_iload_n dX12_layPlaced_25 rfl ?_
              refine go_Sr [.int (nI s), .int (nI p)] [] dX12_layPlaced_26 sl_X12_245 ⟨by decide, by decide⟩ (e_X12_hasBit) rfl rfl (Nat.le_of_ble_eq_true rfl) (Nat.le_of_ble_eq_true rfl) (Nat.le_of_ble_eq_true rfl) ?_
              refine go_tp (z := if Nat.testBit s p then 1 else 0) (by rw [bit_t _ (by omega) _ (by omega)]) ?_
              refine go_if_ne dX12_layPlaced_29 (fun c29 => ?_) (fun c29 => ?_)
              · have c29 := bz_t c29
                refine go_iconst (v := 0) dX12_layPlaced_36 rfl ?_
                refine go_istore (ls' := [some (.ref q), some (.int (nI s)), some (.int x), some (.int (nI p)), some (.int 0), none, none]) dX12_layPlaced_37 ⟨by decide, rfl, rfl⟩ ?_
                refine go_iload_n dX12_layPlaced_39 rfl ?_
                refine go_iload dX12_layPlaced_40 rfl ?_
                refine go_if_eq dX12_layPlaced_42 (fun c42 => ?_) (fun c42 => ?_)
                · have c42n := (n0_eq (a := 0) (by omega)).mp c42
                  refine go_iconst (v := 0) dX12_layPlaced_66 rfl ?_
                  refine go_iadd dX12_layPlaced_67 ?_
                  refine go_istore_n (ls' := [some (.ref q), some (.int (nI s)), some (.int (x + 0)), some (.int (nI p)), some (.int 0), none, none]) dX12_layPlaced_68 ⟨by decide, rfl, rfl⟩ ?_
                  refine go_iinc (v := nI (p + 1)) (ls' := [some (.ref q), some (.int (nI s)), some (.int (x + 0)), some (.int (nI (p + 1))), some (.int 0), none, none]) dX12_layPlaced_69 rfl (nI_1 (p)) ⟨by decide, rfl, rfl⟩ ?_
                  refine go_goto dX12_layPlaced_72 ?_
                  refine go_weak (ls' := [some (.ref q), some (.int (nI s)), some (.int (x + 0)), some (.int (nI (p + 1))), none, none, none]) ⟨rfl, rfl, rfl, rfl, trivial⟩ ?_
                  exact ih_lp1 (p + 1) _ (by omega) (by omega) (by unfold pl0S; rw [← hx]; simp [c29])
                · have c42n := mt (n0_eq (a := 0) (by omega)).mpr c42
                  first | exact absurd c42n (by decide) | exact absurd (by decide) c42n | exact absurd rfl c42n | omega
              · have c29 := bz_f c29
                refine go_iconst (v := 1) dX12_layPlaced_32 rfl ?_
                refine go_goto dX12_layPlaced_33 ?_
                refine go_istore (ls' := [some (.ref q), some (.int (nI s)), some (.int x), some (.int (nI p)), some (.int 1), none, none]) dX12_layPlaced_37 ⟨by decide, rfl, rfl⟩ ?_
                refine go_iload_n dX12_layPlaced_39 rfl ?_
                refine go_iload dX12_layPlaced_40 rfl ?_
                refine go_if_eq dX12_layPlaced_42 (fun c42 => ?_) (fun c42 => ?_)
                · have c42n := (n0_eq (a := 1) (by omega)).mp c42
                  first | exact absurd c42n (by decide) | exact absurd (by decide) c42n | exact absurd rfl c42n | omega
                · have c42n := mt (n0_eq (a := 1) (by omega)).mpr c42
                  refine go_aload_n dX12_layPlaced_45 rfl ?_
                  refine go_iload_n dX12_layPlaced_46 rfl ?_
                  refine go_bipush (v := 9) dX12_layPlaced_47 rfl ?_
                  refine go_Vr [.int (nI p), .int 9] [.int x] dX12_layPlaced_49 vl_X12_276 ⟨by decide, by decide⟩ (e_X12_mayBe (F := F) (A := A1) (L := L) (K := K) hq hn (by omega)) mo_obj hq (by omega) rfl rfl (Nat.le_of_ble_eq_true rfl) (Nat.le_of_ble_eq_true rfl) (Nat.le_of_ble_eq_true rfl) ?_
                  refine go_tp (z := if mbeS (A 22) p (9) then 1 else 0) (by rw [hA 22 (by decide)]) ?_
                  refine go_if_eq dX12_layPlaced_52 (fun c52 => ?_) (fun c52 => ?_)
                  · have c52 := bz_f c52
                    refine go_sipush (v := (-9999)) dX12_layPlaced_60 rfl ?_
                    refine go_goto dX12_layPlaced_63 ?_
                    refine go_iadd dX12_layPlaced_67 ?_
                    refine go_istore_n (ls' := [some (.ref q), some (.int (nI s)), some (.int (x + (-9999))), some (.int (nI p)), some (.int 1), none, none]) dX12_layPlaced_68 ⟨by decide, rfl, rfl⟩ ?_
                    refine go_iinc (v := nI (p + 1)) (ls' := [some (.ref q), some (.int (nI s)), some (.int (x + (-9999))), some (.int (nI (p + 1))), some (.int 1), none, none]) dX12_layPlaced_69 rfl (nI_1 (p)) ⟨by decide, rfl, rfl⟩ ?_
                    refine go_goto dX12_layPlaced_72 ?_
                    refine go_weak (ls' := [some (.ref q), some (.int (nI s)), some (.int (x + (-9999))), some (.int (nI (p + 1))), none, none, none]) ⟨rfl, rfl, rfl, rfl, trivial⟩ ?_
                    exact ih_lp1 (p + 1) _ (by omega) (by omega) (by unfold pl0S; rw [← hx]; simp [c29, c52])
                  · have c52 := bz_t c52
                    refine go_bipush (v := (-20)) dX12_layPlaced_55 rfl ?_
                    refine go_goto dX12_layPlaced_57 ?_
                    refine go_iadd dX12_layPlaced_67 ?_
                    refine go_istore_n (ls' := [some (.ref q), some (.int (nI s)), some (.int (x + (-20))), some (.int (nI p)), some (.int 1), none, none]) dX12_layPlaced_68 ⟨by decide, rfl, rfl⟩ ?_
                    refine go_iinc (v := nI (p + 1)) (ls' := [some (.ref q), some (.int (nI s)), some (.int (x + (-20))), some (.int (nI (p + 1))), some (.int 1), none, none]) dX12_layPlaced_69 rfl (nI_1 (p)) ⟨by decide, rfl, rfl⟩ ?_
                    refine go_goto dX12_layPlaced_72 ?_
                    refine go_weak (ls' := [some (.ref q), some (.int (nI s)), some (.int (x + (-20))), some (.int (nI (p + 1))), none, none, none]) ⟨rfl, rfl, rfl, rfl, trivial⟩ ?_
                    exact ih_lp1 (p + 1) _ (by omega) (by omega) (by unfold pl0S; rw [← hx]; simp [c29, c52])
        exact lp1 (N + 1) 0 0 (Nat.zero_le _) (by omega) rfl
  exact lp0 257 0 A (by omega) (by omega) (fun _ _ => rfl) (fun i hi => absurd hi (by omega))
set_option maxHeartbeats 4000000 in
set_option maxRecDepth 100000 in
theorem e_X12_placed (hq : G.2.1 ≤ q) (hn : q + 25 ≤ n) (hN : F 0 = nI N) (hN8 : N ≤ 8) (hM : F 5 = nI M) (hM5 : M ≤ 5) : Ev G mX12_placed 6 0 0 [.ref q] (mo G m0 q F A L K) n (fun r f1 n1 => r = some (.int (pldS N M A)) ∧ (∃ A', (∀ r, r ≠ 22 → r ≠ 23 → A' r = A r) ∧ f1 = mo G m0 q (upd F 16 0) A' L K) ∧ n1 = n) := by
  generalize hQ9 : (fun r f1 n1 => r = some (.int (pldS N M A)) ∧ (∃ A', (∀ r, r ≠ 22 → r ≠ 23 → A' r = A r) ∧ f1 = mo G m0 q (upd F 16 0) A' L K) ∧ n1 = n : RQ) = Q9
  refine ev_of (by decide) (Nat.le_of_ble_eq_true rfl) (ls := [some (.ref q)]) rfl (fun hb => ?_)
  refine go_aload_n dX12_placed_0 rfl ?_
  refine go_iconst (v := 0) dX12_placed_1 rfl ?_
  refine go_put dX12_placed_2 fp_X12_83_12 (Or.inr (fun _ _ _ h => by cases h; rfl)) mo_obj hq (by omega) (rfl) rfl (Nat.le_of_ble_eq_true rfl) ?_
  refine go_mem (mo_setO (F' := (upd F 16 (0))) (K' := K) rfl) ?_
  refine go_aload_n dX12_placed_5 rfl ?_
  refine go_V [] [] dX12_placed_6 vl_X12_286 ⟨by decide, by decide⟩ (e_X12_freeAll (F := (upd F 16 (0))) (A := A) (L := L) (K := K) hq hn) mo_obj hq (by omega) rfl rfl (Nat.le_of_ble_eq_true rfl) (Nat.le_of_ble_eq_true rfl) (Nat.le_of_ble_eq_true rfl) (fun r6 f6 n6 h6 => ?_)
  obtain ⟨rfl, rfl, hn6⟩ := h6
  subst n6
  refine go_aload_n dX12_placed_9 rfl ?_
  refine go_V [] [] dX12_placed_10 vl_X12_289 ⟨by decide, by decide⟩ (e_X12_layPlaced (F := (upd F 16 (0))) (A := (frA A 8)) (L := L) (K := K) hq hn hN hN8 hM hM5) mo_obj hq (by omega) rfl rfl (Nat.le_of_ble_eq_true rfl) (Nat.le_of_ble_eq_true rfl) (Nat.le_of_ble_eq_true rfl) (fun r10 f10 n10 h10 => ?_)
  obtain ⟨rfl, ⟨A10, hr10, hv10, rfl⟩, hn10⟩ := h10
  subst n10
  refine go_aload_n dX12_placed_13 rfl ?_
  refine go_get dX12_placed_14 fl_X12_77_12 mo_obj hq (by omega) rfl ?_
  refine go_iconst (v := 0) dX12_placed_17 rfl ?_
  refine go_iald dX12_placed_18 (mo_arr 23 (by decide)) (by omega) (by omega) (vp_in_nI (n := 0) (by show 0 < 1536; omega) (by decide)) ?_
  refine go_tp (z := A10 23 0) (rfl) ?_
  exact go_iret dX12_placed_19 rfl (Nat.le_of_ble_eq_true rfl) (Nat.le_of_ble_eq_true rfl) (hQ9 ▸ ⟨rd_i (hv10.trans (plR_congr (fun r hr => by unfold frA; rw [if_neg (by omega)]) (fun p hp => by unfold frA; rw [if_pos rfl]; exact if_pos (by omega)) M 0)), ⟨_, fun r h1 h2 => (hr10 r h2).trans (by unfold frA; rw [if_neg h1]), rfl⟩, rfl⟩)
set_option maxHeartbeats 4000000 in
set_option maxRecDepth 100000 in
theorem e_X12_placedAt (hq : G.2.1 ≤ q) (hn : q + 25 ≤ n) (hN : F 0 = nI N) (hN8 : N ≤ 8) (hM : F 5 = nI M) (hM5 : M ≤ 5) {i : Int32} : Ev G mX12_placedAt 6 0 0 [.ref q, .int i] (mo G m0 q F A L K) n (fun r f1 n1 => r = some (.int (plaS N M A i)) ∧ (∃ A', (∀ r, r ≠ 22 → r ≠ 23 → A' r = A r) ∧ f1 = mo G m0 q (upd F 16 0) A' L K) ∧ n1 = n) := by
  generalize hQ9 : (fun r f1 n1 => r = some (.int (plaS N M A i)) ∧ (∃ A', (∀ r, r ≠ 22 → r ≠ 23 → A' r = A r) ∧ f1 = mo G m0 q (upd F 16 0) A' L K) ∧ n1 = n : RQ) = Q9
  refine ev_of (by decide) (Nat.le_of_ble_eq_true rfl) (ls := [some (.ref q), some (.int i), none, none, none, none]) rfl (fun hb => ?_)
  refine go_aload_n dX12_placedAt_0 rfl ?_
  refine go_iconst (v := 0) dX12_placedAt_1 rfl ?_
  refine go_put dX12_placedAt_2 fp_X12_83_12 (Or.inr (fun _ _ _ h => by cases h; rfl)) mo_obj hq (by omega) (rfl) rfl (Nat.le_of_ble_eq_true rfl) ?_
  refine go_mem (mo_setO (F' := (upd F 16 (0))) (K' := K) rfl) ?_
  refine go_aload_n dX12_placedAt_5 rfl ?_
  refine go_iload_n dX12_placedAt_6 rfl ?_
  refine go_Vr [.int i] [] dX12_placedAt_7 vl_X12_165 ⟨by decide, by decide⟩ (e_X12_isPupil (F := (upd F 16 (0))) (A := A) (L := L) (K := K) hq hn hN hN8) mo_obj hq (by omega) rfl rfl (Nat.le_of_ble_eq_true rfl) (Nat.le_of_ble_eq_true rfl) (Nat.le_of_ble_eq_true rfl) ?_
  refine go_if_ne dX12_placedAt_10 (fun c10 => ?_) (fun c10 => ?_)
  · have c10 := bz_t c10
    obtain ⟨ji, hji, rfl⟩ := okp_nI c10 (by omega)
    have kji : (nI ji).toNatClampNeg = ji := nI_clamp (by omega)
    refine go_aload_n dX12_placedAt_15 rfl ?_
    refine go_V [] [] dX12_placedAt_16 vl_X12_286 ⟨by decide, by decide⟩ (e_X12_freeAll (F := (upd F 16 (0))) (A := A) (L := L) (K := K) hq hn) mo_obj hq (by omega) rfl rfl (Nat.le_of_ble_eq_true rfl) (Nat.le_of_ble_eq_true rfl) (Nat.le_of_ble_eq_true rfl) (fun r16 f16 n16 h16 => ?_)
    obtain ⟨rfl, rfl, hn16⟩ := h16
    subst n16
    refine go_aload_n dX12_placedAt_19 rfl ?_
    refine go_V [] [] dX12_placedAt_20 vl_X12_289 ⟨by decide, by decide⟩ (e_X12_layPlaced (F := (upd F 16 (0))) (A := (frA A 8)) (L := L) (K := K) hq hn hN hN8 hM hM5) mo_obj hq (by omega) rfl rfl (Nat.le_of_ble_eq_true rfl) (Nat.le_of_ble_eq_true rfl) (Nat.le_of_ble_eq_true rfl) (fun r20 f20 n20 h20 => ?_)
    obtain ⟨rfl, ⟨A20, hr20, hv20, rfl⟩, hn20⟩ := h20
    subst n20
    refine go_aload_n dX12_placedAt_23 rfl ?_
    refine go_get dX12_placedAt_24 fl_X12_77_12 mo_obj hq (by omega) rfl ?_
    refine go_iconst (v := 0) dX12_placedAt_27 rfl ?_
    refine go_iald dX12_placedAt_28 (mo_arr 23 (by decide)) (by omega) (by omega) (vp_in_nI (n := 0) (by show 0 < 1536; omega) (by decide)) ?_
    refine go_tp (z := A20 23 0) (rfl) ?_
    refine go_tp (z := pldS N M A) (hv20.trans (plR_congr (fun r hr => by unfold frA; rw [if_neg (by omega)]) (fun p hp => by unfold frA; rw [if_pos rfl]; exact if_pos (by omega)) M 0)) ?_
    refine go_istore_n (ls' := [some (.ref q), some (.int (nI ji)), some (.int (pldS N M A)), none, none, none]) dX12_placedAt_29 ⟨by decide, rfl, rfl⟩ ?_
    refine go_iconst (v := 0) dX12_placedAt_30 rfl ?_
    refine go_istore_n (ls' := [some (.ref q), some (.int (nI ji)), some (.int (pldS N M A)), some (.int 0), none, none]) dX12_placedAt_31 ⟨by decide, rfl, rfl⟩ ?_
    have lp0 : ∀ (μ_lp0 : Nat) (p : Nat) (A1 : Nat → Nat → Int32) (hp : p ≤ ji + 1) (hmp : ji + 3 ≤ p + μ_lp0) (hA : ∀ r, r ≠ 22 → r ≠ 23 → A1 r = A r) (hx : ∀ i, i < 8 → A1 22 i = (gfX N M A (pldS N M A) p) i), Go G mX12_placedAt 6 0 0 Q9 0 0 32 [some (.ref q), some (.int (nI ji)), some (.int (pldS N M A)), some (.int (nI p)), none, none] [] (mo G m0 q (upd F 16 (0)) A1 L K) n := by
      intro μ_lp0
      induction μ_lp0 with
      | zero =>
        intro p A1 hp hmp hA hx
        exact absurd hmp (by omega)
      | succ μ_lp0 ih_lp0 =>
        intro p A1 hp hmp hA hx
        refine go_iload_n dX12_placedAt_32 rfl ?_
        refine go_iload_n dX12_placedAt_33 rfl ?_
        refine go_icmp_gt dX12_placedAt_34 (fun c34 => ?_) (fun c34 => ?_)
        · have c34n := (nI_ltI (a := ji) (b := p) (by omega) (by omega)).mp c34
          refine go_aload_n dX12_placedAt_117 rfl ?_
          refine go_get dX12_placedAt_118 fl_X12_74_12 mo_obj hq (by omega) rfl ?_
          refine go_iload_n dX12_placedAt_121 rfl ?_
          refine go_iald dX12_placedAt_122 (mo_arr 22 (by decide)) (by omega) (by omega) (vp_in_nI (n := ji) (by show ji < 8; omega) (by decide)) ?_
          refine go_tp (z := A1 22 ji) (by rw [nI_clamp (by omega)]) ?_
          exact go_iret dX12_placedAt_123 rfl (Nat.le_of_ble_eq_true rfl) (Nat.le_of_ble_eq_true rfl) (hQ9 ▸ ⟨rd_i (by unfold plaS; rw [if_pos c10, kji, hx ji (by omega), show p = ji + 1 by omega]), ⟨_, hA, rfl⟩, rfl⟩)
        · have c34n := mt (nI_ltI (a := ji) (b := p) (by omega) (by omega)).mpr c34
          refine go_iconst (v := (-1)) dX12_placedAt_37 rfl ?_
          refine go_istore (ls' := [some (.ref q), some (.int (nI ji)), some (.int (pldS N M A)), some (.int (nI p)), some (.int (-1)), none]) dX12_placedAt_38 ⟨by decide, rfl, rfl⟩ ?_
          refine go_iconst (v := 0) dX12_placedAt_40 rfl ?_
          refine go_istore (ls' := [some (.ref q), some (.int (nI ji)), some (.int (pldS N M A)), some (.int (nI p)), some (.int (-1)), some (.int 0)]) dX12_placedAt_41 ⟨by decide, rfl, rfl⟩ ?_
          have lp1 : ∀ (μ_lp1 : Nat) (l : Nat) (v w : Int32) (A2 : Nat → Nat → Int32) (hl : l ≤ M + 1) (hml : M + 3 ≤ l + μ_lp1) (hA2 : ∀ r, r ≠ 22 → r ≠ 23 → A2 r = A r) (hx2 : ∀ i, i < 8 → A2 22 i = fxU (gfX N M A (pldS N M A) p) p w i) (hst : (v = -1 ∧ gfL N M A (pldS N M A) (gfX N M A (pldS N M A) p) p 0 (M + 1) = gfL N M A (pldS N M A) (gfX N M A (pldS N M A) p) p l (M + 1 - l) ∧ (l = M + 1 → w = 9)) ∨ (¬ v < 0 ∧ w = gfL N M A (pldS N M A) (gfX N M A (pldS N M A) p) p 0 (M + 1))), Go G mX12_placedAt 6 0 0 Q9 0 0 43 [some (.ref q), some (.int (nI ji)), some (.int (pldS N M A)), some (.int (nI p)), some (.int v), some (.int (nI l))] [] (mo G m0 q (upd F 16 (0)) A2 L K) n := by
            intro μ_lp1
            induction μ_lp1 with
            | zero =>
              intro l v w A2 hl hml hA2 hx2 hst
              exact absurd hml (by omega)
            | succ μ_lp1 ih_lp1 =>
              intro l v w A2 hl hml hA2 hx2 hst
              refine go_iload dX12_placedAt_43 rfl ?_
              refine go_aload_n dX12_placedAt_45 rfl ?_
              refine go_get dX12_placedAt_46 fl_X12_94_12 mo_obj hq (by omega) rfl ?_
              refine go_tp (z := nI M) (hM) ?_
              refine go_icmp_gt dX12_placedAt_49 (fun c49 => ?_) (fun c49 => ?_)
              · have c49n := (nI_ltI (a := M) (b := l) (by omega) (by omega)).mp c49
                refine go_iinc (v := nI (p + 1)) (ls' := [some (.ref q), some (.int (nI ji)), some (.int (pldS N M A)), some (.int (nI (p + 1))), some (.int v), some (.int (nI l))]) dX12_placedAt_111 rfl (nI_1 (p)) ⟨by decide, rfl, rfl⟩ ?_
                refine go_goto dX12_placedAt_114 ?_
                refine go_weak (ls' := [some (.ref q), some (.int (nI ji)), some (.int (pldS N M A)), some (.int (nI (p + 1))), none, none]) ⟨rfl, rfl, rfl, rfl, trivial⟩ ?_
                have hw : w = gfL N M A (pldS N M A) (gfX N M A (pldS N M A) p) p 0 (M + 1) := hst.elim (fun z => by rw [z.2.1, z.2.2 (by omega), show l = M + 1 by omega, Nat.sub_self]; rfl) (fun z => z.2)
                subst hw
                exact ih_lp0 (p + 1) _ (by omega) (by omega) hA2 (fun i hi => hx2 i hi)
              · have c49n := mt (nI_ltI (a := M) (b := l) (by omega) (by omega)).mpr c49
                refine go_iload dX12_placedAt_52 rfl ?_
                refine go_if_ge dX12_placedAt_54 (fun c54 => ?_) (fun c54 => ?_)
                · have c54 := Int32.not_lt.mpr c54
                  refine go_iinc (v := nI (p + 1)) (ls' := [some (.ref q), some (.int (nI ji)), some (.int (pldS N M A)), some (.int (nI (p + 1))), some (.int v), some (.int (nI l))]) dX12_placedAt_111 rfl (nI_1 (p)) ⟨by decide, rfl, rfl⟩ ?_
                  refine go_goto dX12_placedAt_114 ?_
                  refine go_weak (ls' := [some (.ref q), some (.int (nI ji)), some (.int (pldS N M A)), some (.int (nI (p + 1))), none, none]) ⟨rfl, rfl, rfl, rfl, trivial⟩ ?_
                  have hw : w = gfL N M A (pldS N M A) (gfX N M A (pldS N M A) p) p 0 (M + 1) := hst.elim (fun z => absurd (show v < 0 by rw [z.1]; decide) c54) (fun z => z.2)
                  subst hw
                  exact ih_lp0 (p + 1) _ (by omega) (by omega) hA2 (fun i hi => hx2 i hi)
                · have c54 := Int32.not_le.mp c54
                  refine go_aload_n dX12_placedAt_57 rfl ?_
                  refine go_get dX12_placedAt_58 fl_X12_74_12 mo_obj hq (by omega) rfl ?_
                  refine go_iload_n dX12_placedAt_61 rfl ?_
                  refine go_iload dX12_placedAt_62 rfl ?_
                  refine go_aload_n dX12_placedAt_64 rfl ?_
                  refine go_get dX12_placedAt_65 fl_X12_94_12 mo_obj hq (by omega) rfl ?_
                  refine go_tp (z := nI M) (hM) ?_
                  refine go_icmp_ne dX12_placedAt_68 (fun c68 => ?_) (fun c68 => ?_)
                  · have c68n := mt (nI_eq (a := l) (b := M) (by omega) (by omega)).mpr c68
                    refine go_iload dX12_placedAt_76 rfl ?_
                    refine go_iast dX12_placedAt_78 (mo_arr 22 (by decide)) (by omega) (by omega) (vp_in_nI (n := p) (by show p < 8; omega) (by decide)) ?_
                    refine go_mem (mo_setA 22 (by decide) _ _) ?_
                    rw [nI_clamp (by omega)]
                    refine go_aload_n dX12_placedAt_79 rfl ?_
                    refine go_V [] [] dX12_placedAt_80 vl_X12_289 ⟨by decide, by decide⟩ (e_X12_layPlaced (F := (upd F 16 (0))) (A := (upA A2 22 p (nI l))) (L := L) (K := K) hq hn hN hN8 hM hM5) mo_obj hq (by omega) rfl rfl (Nat.le_of_ble_eq_true rfl) (Nat.le_of_ble_eq_true rfl) (Nat.le_of_ble_eq_true rfl) (fun r80 f80 n80 h80 => ?_)
                    obtain ⟨rfl, ⟨A80, hr80, hv80, rfl⟩, hn80⟩ := h80
                    subst n80
                    have hvl : lvS M l = (nI l) := by unfold lvS; first | rw [if_pos c68n] | rw [if_neg c68n] | (simp [c68n]; done)
                    have hx80 : ∀ i, i < 8 → A80 22 i = fxU (gfX N M A (pldS N M A) p) p (lvS M l) i := fun i hi => by
                      rw [hr80 22 (by decide), upA_s, hvl]
                      show (if i = p then _ else A2 22 i) = if i = p then _ else _
                      by_cases e : i = p
                      · rw [if_pos e, if_pos e]
                      · rw [if_neg e, if_neg e, hx2 i hi]; exact if_neg e
                    have hdu : A80 23 0 = plR N M A (fxU (gfX N M A (pldS N M A) p) p (lvS M l)) M 0 := by
                      rw [hv80]
                      refine plR_congr (fun r hr => (upA_n _ (by omega) _ _).trans (hA2 r (by omega) (by omega))) (fun i hi => ?_) M 0
                      rw [← hx80 i (by omega), hr80 22 (by decide)]
                    have hgl := (hst.resolve_right (fun z => z.1 c54)).2.1
                    refine go_aload_n dX12_placedAt_83 rfl ?_
                    refine go_get dX12_placedAt_84 fl_X12_77_12 mo_obj hq (by omega) rfl ?_
                    refine go_iconst (v := 0) dX12_placedAt_87 rfl ?_
                    refine go_iald dX12_placedAt_88 (mo_arr 23 (by decide)) (by omega) (by omega) (vp_in_nI (n := 0) (by show 0 < 1536; omega) (by decide)) ?_
                    refine go_tp (z := A80 23 0) (rfl) ?_
                    refine go_iload_n dX12_placedAt_89 rfl ?_
                    refine go_icmp_ne dX12_placedAt_90 (fun c90 => ?_) (fun c90 => ?_)
                    · refine go_iconst (v := (-1)) dX12_placedAt_102 rfl ?_
                      refine go_istore (ls' := [some (.ref q), some (.int (nI ji)), some (.int (pldS N M A)), some (.int (nI p)), some (.int (-1)), some (.int (nI l))]) dX12_placedAt_103 ⟨by decide, rfl, rfl⟩ ?_
                      refine go_iinc (v := nI (l + 1)) (ls' := [some (.ref q), some (.int (nI ji)), some (.int (pldS N M A)), some (.int (nI p)), some (.int (-1)), some (.int (nI (l + 1)))]) dX12_placedAt_105 rfl (nI_1 (l)) ⟨by decide, rfl, rfl⟩ ?_
                      refine go_goto dX12_placedAt_108 ?_
                      have hg2 : gfL N M A (pldS N M A) (gfX N M A (pldS N M A) p) p 0 (M + 1) = gfL N M A (pldS N M A) (gfX N M A (pldS N M A) p) p (l + 1) (M + 1 - (l + 1)) := by
                        rw [hgl, show M + 1 - l = M + 1 - (l + 1) + 1 by omega]
                        conv => lhs; unfold gfL
                        rw [if_neg (fun z => c90 (hdu.trans z))]
                      exact ih_lp1 (l + 1) _ (lvS M l) _ (by omega) (by omega) (fun r h1 h2 => (hr80 r h2).trans ((upA_n _ h1 _ _).trans (hA2 r h1 h2))) (fun i hi => hx80 i hi) (Or.inl ⟨rfl, hg2, fun z => by unfold lvS; rw [if_pos (by omega)]⟩)
                    · refine go_aload_n dX12_placedAt_93 rfl ?_
                      refine go_get dX12_placedAt_94 fl_X12_74_12 mo_obj hq (by omega) rfl ?_
                      refine go_iload_n dX12_placedAt_97 rfl ?_
                      refine go_iald dX12_placedAt_98 (mo_arr 22 (by decide)) (by omega) (by omega) (vp_in_nI (n := p) (by show p < 8; omega) (by decide)) ?_
                      refine go_tp (z := A80 22 p) (by rw [nI_clamp (by omega)]) ?_
                      refine go_goto dX12_placedAt_99 ?_
                      refine go_istore (ls' := [some (.ref q), some (.int (nI ji)), some (.int (pldS N M A)), some (.int (nI p)), some (.int (A80 22 p)), some (.int (nI l))]) dX12_placedAt_103 ⟨by decide, rfl, rfl⟩ ?_
                      refine go_iinc (v := nI (l + 1)) (ls' := [some (.ref q), some (.int (nI ji)), some (.int (pldS N M A)), some (.int (nI p)), some (.int (A80 22 p)), some (.int (nI (l + 1)))]) dX12_placedAt_105 rfl (nI_1 (l)) ⟨by decide, rfl, rfl⟩ ?_
                      refine go_goto dX12_placedAt_108 ?_
                      have hg2 : lvS M l = gfL N M A (pldS N M A) (gfX N M A (pldS N M A) p) p 0 (M + 1) := by
                        rw [hgl, show M + 1 - l = M + 1 - (l + 1) + 1 by omega]
                        conv => rhs; unfold gfL
                        rw [if_pos (hdu.symm.trans c90)]
                      have hvv : A80 22 p = lvS M l := by rw [hx80 p (by omega)]; exact if_pos rfl
                      exact ih_lp1 (l + 1) _ (lvS M l) _ (by omega) (by omega) (fun r h1 h2 => (hr80 r h2).trans ((upA_n _ h1 _ _).trans (hA2 r h1 h2))) (fun i hi => hx80 i hi) (Or.inr ⟨by rw [hvv]; exact lvS_nn hM5 (by omega), hg2⟩)
                  · have c68n := (nI_eq (a := l) (b := M) (by omega) (by omega)).mp c68
                    refine go_bipush (v := 9) dX12_placedAt_71 rfl ?_
                    refine go_goto dX12_placedAt_73 ?_
                    refine go_iast dX12_placedAt_78 (mo_arr 22 (by decide)) (by omega) (by omega) (vp_in_nI (n := p) (by show p < 8; omega) (by decide)) ?_
                    refine go_mem (mo_setA 22 (by decide) _ _) ?_
                    rw [nI_clamp (by omega)]
                    refine go_aload_n dX12_placedAt_79 rfl ?_
                    refine go_V [] [] dX12_placedAt_80 vl_X12_289 ⟨by decide, by decide⟩ (e_X12_layPlaced (F := (upd F 16 (0))) (A := (upA A2 22 p (9))) (L := L) (K := K) hq hn hN hN8 hM hM5) mo_obj hq (by omega) rfl rfl (Nat.le_of_ble_eq_true rfl) (Nat.le_of_ble_eq_true rfl) (Nat.le_of_ble_eq_true rfl) (fun r80 f80 n80 h80 => ?_)
                    obtain ⟨rfl, ⟨A80, hr80, hv80, rfl⟩, hn80⟩ := h80
                    subst n80
                    have hvl : lvS M l = (9) := by unfold lvS; first | rw [if_pos c68n] | rw [if_neg c68n] | (simp [c68n]; done)
                    have hx80 : ∀ i, i < 8 → A80 22 i = fxU (gfX N M A (pldS N M A) p) p (lvS M l) i := fun i hi => by
                      rw [hr80 22 (by decide), upA_s, hvl]
                      show (if i = p then _ else A2 22 i) = if i = p then _ else _
                      by_cases e : i = p
                      · rw [if_pos e, if_pos e]
                      · rw [if_neg e, if_neg e, hx2 i hi]; exact if_neg e
                    have hdu : A80 23 0 = plR N M A (fxU (gfX N M A (pldS N M A) p) p (lvS M l)) M 0 := by
                      rw [hv80]
                      refine plR_congr (fun r hr => (upA_n _ (by omega) _ _).trans (hA2 r (by omega) (by omega))) (fun i hi => ?_) M 0
                      rw [← hx80 i (by omega), hr80 22 (by decide)]
                    have hgl := (hst.resolve_right (fun z => z.1 c54)).2.1
                    refine go_aload_n dX12_placedAt_83 rfl ?_
                    refine go_get dX12_placedAt_84 fl_X12_77_12 mo_obj hq (by omega) rfl ?_
                    refine go_iconst (v := 0) dX12_placedAt_87 rfl ?_
                    refine go_iald dX12_placedAt_88 (mo_arr 23 (by decide)) (by omega) (by omega) (vp_in_nI (n := 0) (by show 0 < 1536; omega) (by decide)) ?_
                    refine go_tp (z := A80 23 0) (rfl) ?_
                    refine go_iload_n dX12_placedAt_89 rfl ?_
                    refine go_icmp_ne dX12_placedAt_90 (fun c90 => ?_) (fun c90 => ?_)
                    · refine go_iconst (v := (-1)) dX12_placedAt_102 rfl ?_
                      refine go_istore (ls' := [some (.ref q), some (.int (nI ji)), some (.int (pldS N M A)), some (.int (nI p)), some (.int (-1)), some (.int (nI l))]) dX12_placedAt_103 ⟨by decide, rfl, rfl⟩ ?_
                      refine go_iinc (v := nI (l + 1)) (ls' := [some (.ref q), some (.int (nI ji)), some (.int (pldS N M A)), some (.int (nI p)), some (.int (-1)), some (.int (nI (l + 1)))]) dX12_placedAt_105 rfl (nI_1 (l)) ⟨by decide, rfl, rfl⟩ ?_
                      refine go_goto dX12_placedAt_108 ?_
                      have hg2 : gfL N M A (pldS N M A) (gfX N M A (pldS N M A) p) p 0 (M + 1) = gfL N M A (pldS N M A) (gfX N M A (pldS N M A) p) p (l + 1) (M + 1 - (l + 1)) := by
                        rw [hgl, show M + 1 - l = M + 1 - (l + 1) + 1 by omega]
                        conv => lhs; unfold gfL
                        rw [if_neg (fun z => c90 (hdu.trans z))]
                      exact ih_lp1 (l + 1) _ (lvS M l) _ (by omega) (by omega) (fun r h1 h2 => (hr80 r h2).trans ((upA_n _ h1 _ _).trans (hA2 r h1 h2))) (fun i hi => hx80 i hi) (Or.inl ⟨rfl, hg2, fun z => by unfold lvS; rw [if_pos (by omega)]⟩)
                    · refine go_aload_n dX12_placedAt_93 rfl ?_
                      refine go_get dX12_placedAt_94 fl_X12_74_12 mo_obj hq (by omega) rfl ?_
                      refine go_iload_n dX12_placedAt_97 rfl ?_
                      refine go_iald dX12_placedAt_98 (mo_arr 22 (by decide)) (by omega) (by omega) (vp_in_nI (n := p) (by show p < 8; omega) (by decide)) ?_
                      refine go_tp (z := A80 22 p) (by rw [nI_clamp (by omega)]) ?_
                      refine go_goto dX12_placedAt_99 ?_
                      refine go_istore (ls' := [some (.ref q), some (.int (nI ji)), some (.int (pldS N M A)), some (.int (nI p)), some (.int (A80 22 p)), some (.int (nI l))]) dX12_placedAt_103 ⟨by decide, rfl, rfl⟩ ?_
                      refine go_iinc (v := nI (l + 1)) (ls' := [some (.ref q), some (.int (nI ji)), some (.int (pldS N M A)), some (.int (nI p)), some (.int (A80 22 p)), some (.int (nI (l + 1)))]) dX12_placedAt_105 rfl (nI_1 (l)) ⟨by decide, rfl, rfl⟩ ?_
                      refine go_goto dX12_placedAt_108 ?_
                      have hg2 : lvS M l = gfL N M A (pldS N M A) (gfX N M A (pldS N M A) p) p 0 (M + 1) := by
                        rw [hgl, show M + 1 - l = M + 1 - (l + 1) + 1 by omega]
                        conv => rhs; unfold gfL
                        rw [if_pos (hdu.symm.trans c90)]
                      have hvv : A80 22 p = lvS M l := by rw [hx80 p (by omega)]; exact if_pos rfl
                      exact ih_lp1 (l + 1) _ (lvS M l) _ (by omega) (by omega) (fun r h1 h2 => (hr80 r h2).trans ((upA_n _ h1 _ _).trans (hA2 r h1 h2))) (fun i hi => hx80 i hi) (Or.inr ⟨by rw [hvv]; exact lvS_nn hM5 (by omega), hg2⟩)
          exact lp1 (M + 3) 0 (-1) ((gfX N M A (pldS N M A) p) p) A1 (by omega) (by omega) hA (fun i hi => by rw [hx i hi]; unfold fxU; by_cases e : i = p <;> simp [e]) (Or.inl ⟨rfl, rfl, fun z => by omega⟩)
    exact lp0 (ji + 3) 0 _ (Nat.zero_le _) (by omega) (fun r h1 h2 => (hr20 r h2).trans (by unfold frA; rw [if_neg h1])) (fun i hi => (congrFun (hr20 22 (by decide)) i).trans (by unfold frA; rw [if_pos rfl]; exact if_pos hi))
  · have c10 := bz_f c10
    refine go_iconst (v := (-1)) dX12_placedAt_13 rfl ?_
    exact go_iret dX12_placedAt_14 rfl (Nat.le_of_ble_eq_true rfl) (Nat.le_of_ble_eq_true rfl) (hQ9 ▸ ⟨rd_i (by unfold plaS; rw [if_neg c10]), ⟨_, fun _ _ _ => rfl, rfl⟩, rfl⟩)
end M20
