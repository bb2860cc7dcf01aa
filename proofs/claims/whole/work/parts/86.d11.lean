/-! terms, day by day -/
def chX (N : Nat) (A : Nat → Nat → Int32) (y : Int32) : Nat → Nat → Int32 := chA N A (drS (sdS y) (nI N)) (drS (sdS (sdS y)) (nI N))
/-- the places after k days -/
def tdA (N : Nat) (A : Nat → Nat → Int32) (z : Int32) : Nat → Nat → Nat → Int32
  | 0 => A
  | k + 1 => chX N (if k % 10 = 0 then A else tdA N A z k) (teZ z k)
def tdB (N : Nat) (A : Nat → Nat → Int32) (z : Int32) (k : Nat) : Nat → Nat → Int32 := if k % 10 = 0 then A else tdA N A z k
def tdS (N : Nat) (A : Nat → Nat → Int32) (z what : Int32) : Nat → Int32
  | 0 => 0
  | k + 1 => if what = 1 then tdS N A z what k + cnS (lcP N (tdA N A z (k + 1))) N else if k % 10 = 9 then tdS N A z what k + alS N (tdA N A z (k + 1)) else tdS N A z what k
def cteS (N : Nat) (A : Nat → Nat → Int32) (x z what : Int32) : Int32 := if okr x 1 20 = true ∧ okr what 0 1 = true then (if nI N < 2 then 1000000003 else tdS N A z what (x.toNatClampNeg * 10)) else 1000000001
theorem chX_ok {N M : Nat} {A A1 : Nat → Nat → Int32} {y : Int32} (hN : N ≤ 8) (h : ∀ r, r ≠ 4 → A1 r = A r) (hI : insOK N M (A1 4)) : (∀ r, r ≠ 4 → chX N A1 y r = A r) ∧ insOK N M (chX N A1 y 4) := by
  unfold chX chA
  by_cases c : twoS N (drS (sdS y) (nI N)) (drS (sdS (sdS y)) (nI N)) = true
  · rw [if_pos c]
    obtain ⟨h1, h2, h3⟩ := twoS_i.mp c
    obtain ⟨a, ha, ea⟩ := okp_nI h1 (by omega)
    obtain ⟨e, he, ee⟩ := okp_nI h2 (by omega)
    rw [ea, ee, nI_clamp (by omega), nI_clamp (by omega)]
    exact ⟨fun r hr => (swS_row hr).trans (h r hr), insOK_sw hI ha he⟩
  · rw [if_neg c]
    exact ⟨h, hI⟩
theorem tdB_ok {N M : Nat} {A : Nat → Nat → Int32} {z : Int32} (hN : N ≤ 8) (hI : insOK N M (A 4)) : ∀ k, (∀ r, r ≠ 4 → tdA N A z k r = A r) ∧ insOK N M (tdA N A z k 4)
  | 0 => ⟨fun _ _ => rfl, hI⟩
  | k + 1 => by
    have ih := tdB_ok (z := z) hN hI k
    show (∀ r, r ≠ 4 → chX N (tdB N A z k) (teZ z k) r = A r) ∧ insOK N M (chX N (tdB N A z k) (teZ z k) 4)
    refine chX_ok hN ?_ ?_
    · unfold tdB
      by_cases c : k % 10 = 0
      · rw [if_pos c]; exact fun _ _ => rfl
      · rw [if_neg c]; exact ih.1
    · unfold tdB
      by_cases c : k % 10 = 0
      · rw [if_pos c]; exact hI
      · rw [if_neg c]; exact ih.2
theorem okr120 {x : Int32} (h : okr x 1 20 = true) : ∃ j : Nat, 1 ≤ j ∧ j ≤ 20 ∧ x = nI j := by
  obtain ⟨h1, h2⟩ := of_decide_eq_true h
  obtain ⟨j, hj, rfl⟩ := okr_nI (k := 20) rfl (by omega) (decide_eq_true ⟨fun z => h1 (Int32.lt_trans z (by decide)), h2⟩)
  refine ⟨j, ?_, hj, rfl⟩
  rcases Nat.eq_zero_or_pos j with e | e
  · subst e
    exact absurd (by decide) h1
  · exact e
section D11
variable {G : GX} {m0 f : Mem} {x s i0 t w os rs n N M : Nat} {F F3 : Nat → Int32} {W W3 : Nat → Option Nat} {A A3 : Nat → Nat → Int32} {B B3 : Nat → Int32} {b : Int32}
set_option maxHeartbeats 4000000 in
set_option maxRecDepth 100000 in
theorem e_X11_nextSeed {z : Int32} : Ev G mX11_nextSeed 1 0 0 [.int z] f n (RD (.int (sdS z)) f n) := by
  generalize hQ9 : (RD (.int (sdS z)) f n : RQ) = Q9
  refine ev_of (by decide) (Nat.le_of_ble_eq_true rfl) (ls := [some (.int z)]) rfl (fun hb => ?_)
  refine go_iload_n dX11_nextSeed_0 rfl ?_
  refine go_ldcw (v := 1103515245) dX11_nextSeed_1 wm_819 ?_
  refine go_imul dX11_nextSeed_4 ?_
  refine go_sipush (v := 12345) dX11_nextSeed_5 rfl ?_
  refine go_iadd dX11_nextSeed_8 ?_
  exact go_iret dX11_nextSeed_9 rfl (Nat.le_of_ble_eq_true rfl) (Nat.le_of_ble_eq_true rfl) (hQ9 ▸ ⟨rfl, rfl, rfl⟩)
set_option maxHeartbeats 4000000 in
set_option maxRecDepth 100000 in
theorem e_X11_drawn {z y : Int32} (hy : 0 < y) : Ev G mX11_drawn 1 0 0 [.int z, .int y] f n (RD (.int (drS z y)) f n) := by
  generalize hQ9 : (RD (.int (drS z y)) f n : RQ) = Q9
  refine ev_of (by decide) (Nat.le_of_ble_eq_true rfl) (ls := [some (.int z), some (.int y)]) rfl (fun hb => ?_)
  refine go_iload_n dX11_drawn_0 rfl ?_
  refine go_if_le dX11_drawn_1 (fun c1 => ?_) (fun c1 => ?_)
  · have c1 := Int32.not_lt.mpr c1
    exact absurd hy c1
  · have c1 := Int32.not_le.mp c1
    refine go_iload_n dX11_drawn_4 rfl ?_
    refine go_ldcw (v := 2147483647) dX11_drawn_5 wm_823 ?_
    refine go_iand dX11_drawn_8 ?_
    refine go_ldcw (v := 65536) dX11_drawn_9 wm_824 ?_
    refine go_idiv dX11_drawn_12 (by decide) ?_
    refine go_iload_n dX11_drawn_13 rfl ?_
    refine go_irem dX11_drawn_14 (fun z => by rw [z] at hy; exact absurd hy (by decide)) ?_
    refine go_goto dX11_drawn_15 ?_
    exact go_iret dX11_drawn_19 rfl (Nat.le_of_ble_eq_true rfl) (Nat.le_of_ble_eq_true rfl) (hQ9 ▸ ⟨rfl, rfl, rfl⟩)
set_option maxHeartbeats 4000000 in
set_option maxRecDepth 100000 in
theorem e_X11_terms (hX : x2K G m0 x s i0 t w os rs n b) (hq : G.2.1 ≤ s) (hn : s + 8 ≤ n) (hqt : G.2.1 ≤ t) (hnt : t + 8 ≤ n) (hdj : s + 8 ≤ t ∨ t + 8 ≤ s) (h : tsH G m0 s n N M F W A B) (hw2 : w2K G m0 s t n W A) {x1 z what : Int32} : Ev G mX11_terms 9 0 0 [.ref x, .int x1, .int z, .int (what)] (sc G (sc G m0 s F W A B) t F3 W3 A3 B3) n (fun r f1 n1 => r = some (.int (cteS N A x1 z what)) ∧ (∃ F4 W4 A4 B4, f1 = sc G (sc G m0 s F W A B) t F4 W4 A4 B4) ∧ n1 = n) := by
  generalize hQ9 : (fun r f1 n1 => r = some (.int (cteS N A x1 z what)) ∧ (∃ F4 W4 A4 B4, f1 = sc G (sc G m0 s F W A B) t F4 W4 A4 B4) ∧ n1 = n : RQ) = Q9
  refine ev_of (by decide) (Nat.le_of_ble_eq_true rfl) (ls := [some (.ref x), some (.int x1), some (.int z), some (.int (what)), none, none, none, none]) rfl (fun hb => ?_)
  have hxn := hX.2.2.1
  have hN8 := h.hN8
  refine go_iload_n dX11_terms_0 rfl ?_
  refine go_iconst (v := 1) dX11_terms_1 rfl ?_
  refine go_bipush (v := 20) dX11_terms_2 rfl ?_
  refine go_Sr [.int x1, .int 1, .int 20] [] dX11_terms_4 sl_X11_126 ⟨by decide, by decide⟩ (e_X11_isWithin) rfl rfl (Nat.le_of_ble_eq_true rfl) (Nat.le_of_ble_eq_true rfl) (Nat.le_of_ble_eq_true rfl) ?_
  refine go_if_eq dX11_terms_7 (fun c7 => ?_) (fun c7 => ?_)
  · have c7 := bz_f c7
    refine go_iconst (v := (-1)) dX11_terms_19 rfl ?_
    refine go_Sr [.int (-1)] [] dX11_terms_20 sl_X11_162 ⟨by decide, by decide⟩ (e_X11_toldAbove) rfl rfl (Nat.le_of_ble_eq_true rfl) (Nat.le_of_ble_eq_true rfl) (Nat.le_of_ble_eq_true rfl) ?_
    refine go_tp (z := 1000000001) (by decide) ?_
    exact go_iret dX11_terms_23 rfl (Nat.le_of_ble_eq_true rfl) (Nat.le_of_ble_eq_true rfl) (hQ9 ▸ ⟨rd_i (by unfold cteS; rw [if_neg (fun z => c7 z.1)]), ⟨_, _, _, _, rfl⟩, rfl⟩)
  · have c7 := bz_t c7
    refine go_iload_n dX11_terms_10 rfl ?_
    refine go_iconst (v := 0) dX11_terms_11 rfl ?_
    refine go_iconst (v := 1) dX11_terms_12 rfl ?_
    refine go_Sr [.int (what), .int 0, .int 1] [] dX11_terms_13 sl_X11_126 ⟨by decide, by decide⟩ (e_X11_isWithin) rfl rfl (Nat.le_of_ble_eq_true rfl) (Nat.le_of_ble_eq_true rfl) (Nat.le_of_ble_eq_true rfl) ?_
    refine go_if_ne dX11_terms_16 (fun c16 => ?_) (fun c16 => ?_)
    · have c16 := bz_t c16
      obtain ⟨jx, hx1, hx20, rfl⟩ := okr120 c7
      refine go_aload_n dX11_terms_24 rfl ?_
      refine go_get dX11_terms_25 fl_X11_10_11 hX.at hX.2.1 hX.2.2.1 rfl ?_
      refine go_get dX11_terms_28 fl_X11_258_5 ((sc_out (by omega)).trans sc_obj) hq (by omega) rfl ?_
      refine go_tp (z := nI N) h.hN ?_
      refine go_iconst (v := 2) dX11_terms_31 rfl ?_
      refine go_icmp_ge dX11_terms_32 (fun c32 => ?_) (fun c32 => ?_)
      · have c32n := (nI_leI (a := 2) (b := N) (by omega) (by omega)).mp c32
        have c32n := Nat.not_lt.mpr c32n
        have c32 := Int32.not_lt.mpr c32
        refine go_iconst (v := 0) dX11_terms_41 rfl ?_
        refine go_istore (ls' := [some (.ref x), some (.int (nI jx)), some (.int z), some (.int (what)), some (.int 0), none, none, none]) dX11_terms_42 ⟨by decide, rfl, rfl⟩ ?_
        refine go_iload_n dX11_terms_44 rfl ?_
        refine go_istore (ls' := [some (.ref x), some (.int (nI jx)), some (.int z), some (.int (what)), some (.int 0), some (.int z), none, none]) dX11_terms_45 ⟨by decide, rfl, rfl⟩ ?_
        refine go_iconst (v := 0) dX11_terms_47 rfl ?_
        refine go_istore (ls' := [some (.ref x), some (.int (nI jx)), some (.int z), some (.int (what)), some (.int 0), some (.int z), some (.int 0), none]) dX11_terms_48 ⟨by decide, rfl, rfl⟩ ?_
        have lp0 : ∀ (μ_lp0 : Nat) (k : Nat) (F4 : Nat → Int32) (W4 : Nat → Option Nat) (A4 : Nat → Nat → Int32) (B4 : Nat → Int32) (hk : k ≤ jx * 10) (hmk : 201 ≤ k + μ_lp0) (hT : k % 10 = 0 ∨ (F4 = F ∧ W4 = W ∧ A4 = tdA N A z k ∧ B4 = B)), Go G mX11_terms 9 0 0 Q9 0 0 50 [some (.ref x), some (.int (nI jx)), some (.int z), some (.int (what)), some (.int (tdS N A z what k)), some (.int (teZ z k)), some (.int (nI k)), none] [] (sc G (sc G m0 s F W A B) t F4 W4 A4 B4) n := by
          intro μ_lp0
          induction μ_lp0 with
          | zero =>
            intro k F4 W4 A4 B4 hk hmk hT
            exact absurd hmk (by omega)
          | succ μ_lp0 ih_lp0 =>
            intro k F4 W4 A4 B4 hk hmk hT
            refine go_iload dX11_terms_50 rfl ?_
            refine go_iload_n dX11_terms_52 rfl ?_
            refine go_bipush (v := 10) dX11_terms_53 rfl ?_
            refine go_imul dX11_terms_55 ?_
            refine go_tp (z := nI (jx * 10)) (pk_mul jx 10) ?_
            refine go_icmp_ge dX11_terms_56 (fun c56 => ?_) (fun c56 => ?_)
            · have c56n := (nI_leI (a := jx * 10) (b := k) (by omega) (by omega)).mp c56
              have c56n := Nat.not_lt.mpr c56n
              have c56 := Int32.not_lt.mpr c56
              refine go_iload dX11_terms_172 rfl ?_
              exact go_iret dX11_terms_174 rfl (Nat.le_of_ble_eq_true rfl) (Nat.le_of_ble_eq_true rfl) (hQ9 ▸ ⟨rd_i (by unfold cteS; rw [if_pos ⟨c7, c16⟩, if_neg c32, nI_clamp (by omega), show k = jx * 10 by omega]), ⟨_, _, _, _, rfl⟩, rfl⟩)
            · have c56n := mt (nI_leI (a := jx * 10) (b := k) (by omega) (by omega)).mpr c56
              have c56n := Nat.lt_of_not_le c56n
              have c56 := Int32.not_le.mp c56
              refine go_iload dX11_terms_59 rfl ?_
              refine go_bipush (v := 10) dX11_terms_61 rfl ?_
              refine go_irem dX11_terms_63 (by decide) ?_
              refine go_tp (z := nI (k % 10)) (pk_rem (a := k) (d := 10) (by omega) (by omega) (by omega)) ?_
              refine go_if_ne dX11_terms_64 (fun c64 => ?_) (fun c64 => ?_)
              · have c64n := mt (n0_eq (a := k % 10) (by omega)).mpr c64
                obtain ⟨hF4, hW4, hA4, hB4⟩ := hT.resolve_left c64n
                subst F4
                subst W4
                subst A4
                subst B4
                refine go_mem (f' := (sc G (sc G m0 s F W A B) t F W (tdB N A z k) B)) (by rw [show tdB N A z k = tdA N A z k from if_neg c64n]) ?_
                refine go_iload dX11_terms_78 rfl ?_
                refine go_Sr [.int (teZ z k)] [] dX11_terms_80 sl_X11_278 ⟨by decide, by decide⟩ (e_X11_nextSeed) rfl rfl (Nat.le_of_ble_eq_true rfl) (Nat.le_of_ble_eq_true rfl) (Nat.le_of_ble_eq_true rfl) ?_
                refine go_istore (ls' := [some (.ref x), some (.int (nI jx)), some (.int z), some (.int (what)), some (.int (tdS N A z what k)), some (.int (teZ z k)), some (.int (nI k)), some (.int (sdS (teZ z k)))]) dX11_terms_83 ⟨by decide, rfl, rfl⟩ ?_
                refine go_iload dX11_terms_85 rfl ?_
                refine go_Sr [.int (sdS (teZ z k))] [] dX11_terms_87 sl_X11_278 ⟨by decide, by decide⟩ (e_X11_nextSeed) rfl rfl (Nat.le_of_ble_eq_true rfl) (Nat.le_of_ble_eq_true rfl) (Nat.le_of_ble_eq_true rfl) ?_
                refine go_istore (ls' := [some (.ref x), some (.int (nI jx)), some (.int z), some (.int (what)), some (.int (tdS N A z what k)), some (.int (sdS (sdS (teZ z k)))), some (.int (nI k)), some (.int (sdS (teZ z k)))]) dX11_terms_90 ⟨by decide, rfl, rfl⟩ ?_
                refine go_aload_n dX11_terms_92 rfl ?_
                refine go_get dX11_terms_93 fl_X11_19_11 hX.at hX.2.1 hX.2.2.1 rfl ?_
                refine go_iload dX11_terms_96 rfl ?_
                refine go_aload_n dX11_terms_98 rfl ?_
                refine go_get dX11_terms_99 fl_X11_10_11 hX.at hX.2.1 hX.2.2.1 rfl ?_
                refine go_get dX11_terms_102 fl_X11_258_5 ((sc_out (by omega)).trans sc_obj) hq (by omega) rfl ?_
                refine go_tp (z := nI N) h.hN ?_
                refine go_Sr [.int (sdS (teZ z k)), .int (nI N)] [.ref t] dX11_terms_105 sl_X11_281 ⟨by decide, by decide⟩ (e_X11_drawn ((n0_gt (by omega)).mpr (by omega))) rfl rfl (Nat.le_of_ble_eq_true rfl) (Nat.le_of_ble_eq_true rfl) (Nat.le_of_ble_eq_true rfl) ?_
                refine go_iload dX11_terms_108 rfl ?_
                refine go_aload_n dX11_terms_110 rfl ?_
                refine go_get dX11_terms_111 fl_X11_10_11 hX.at hX.2.1 hX.2.2.1 rfl ?_
                refine go_get dX11_terms_114 fl_X11_258_5 ((sc_out (by omega)).trans sc_obj) hq (by omega) rfl ?_
                refine go_tp (z := nI N) h.hN ?_
                refine go_Sr [.int (sdS (sdS (teZ z k))), .int (nI N)] [.int (drS (sdS (teZ z k)) (nI N)), .ref t] dX11_terms_117 sl_X11_281 ⟨by decide, by decide⟩ (e_X11_drawn ((n0_gt (by omega)).mpr (by omega))) rfl rfl (Nat.le_of_ble_eq_true rfl) (Nat.le_of_ble_eq_true rfl) (Nat.le_of_ble_eq_true rfl) ?_
                refine go_V [.int (drS (sdS (teZ z k)) (nI N)), .int (drS (sdS (sdS (teZ z k))) (nI N))] [] dX11_terms_120 vl_X11_144 ⟨by decide, by decide⟩ (e_X5_change (F := F) (W := W) (A := tdB N A z k) (B := B) hqt hnt h.hN h.hN8) sc_obj hqt (by omega) rfl rfl (Nat.le_of_ble_eq_true rfl) (Nat.le_of_ble_eq_true rfl) (Nat.le_of_ble_eq_true rfl) (fun r120 f120 n120 h120 => ?_)
                obtain ⟨rfl, rfl, hn120⟩ := h120
                subst n120
                refine go_mem (f' := (sc G (sc G m0 s F W A B) t F W (tdA N A z (k + 1)) B)) rfl ?_
                have htd := tdB_ok (M := M) (z := z) h.hN8 h.hI (k + 1)
                have hs := (h.tri (F := F) (W := W) (B := B) (t := t) hw2).seR htd.1 htd.2
                refine go_pop dX11_terms_123 rfl ?_
                refine go_iload_n dX11_terms_124 rfl ?_
                refine go_iconst (v := 1) dX11_terms_125 rfl ?_
                refine go_icmp_ne dX11_terms_126 (fun c126 => ?_) (fun c126 => ?_)
                · refine go_iload dX11_terms_144 rfl ?_
                  refine go_bipush (v := 10) dX11_terms_146 rfl ?_
                  refine go_irem dX11_terms_148 (by decide) ?_
                  refine go_tp (z := nI (k % 10)) (pk_rem (a := k) (d := 10) (by omega) (by omega) (by omega)) ?_
                  refine go_bipush (v := 9) dX11_terms_149 rfl ?_
                  refine go_icmp_ne dX11_terms_151 (fun c151 => ?_) (fun c151 => ?_)
                  · have c151n := mt (nI_eq (a := k % 10) (b := 9) (by omega) (by omega)).mpr c151
                    refine go_iinc (v := nI (k + 1)) (ls' := [some (.ref x), some (.int (nI jx)), some (.int z), some (.int (what)), some (.int (tdS N A z what k)), some (.int (sdS (sdS (teZ z k)))), some (.int (nI (k + 1))), some (.int (sdS (teZ z k)))]) dX11_terms_166 rfl (nI_1 (k)) ⟨by decide, rfl, rfl⟩ ?_
                    refine go_goto dX11_terms_169 ?_
                    refine go_weak (ls' := [some (.ref x), some (.int (nI jx)), some (.int z), some (.int (what)), some (.int (tdS N A z what k)), some (.int (sdS (sdS (teZ z k)))), some (.int (nI (k + 1))), none]) ⟨rfl, rfl, rfl, rfl, rfl, rfl, rfl, trivial⟩ ?_
                    refine go_ls (ls' := [some (.ref x), some (.int (nI jx)), some (.int z), some (.int (what)), some (.int (tdS N A z what (k + 1))), some (.int (teZ z (k + 1))), some (.int (nI (k + 1))), none]) (by rw [show tdS N A z what k = tdS N A z what (k + 1) from ((if_neg c126).trans (if_neg c151n)).symm]; rfl) ?_
                    exact ih_lp0 (k + 1) _ _ _ _ (by omega) (by omega) (Or.inr ⟨rfl, rfl, rfl, rfl⟩)
                  · have c151n := (nI_eq (a := k % 10) (b := 9) (by omega) (by omega)).mp c151
                    refine go_iload dX11_terms_154 rfl ?_
                    refine go_aload_n dX11_terms_156 rfl ?_
                    refine go_get dX11_terms_157 fl_X11_19_11 hX.at hX.2.1 hX.2.2.1 rfl ?_
                    refine go_Vr [] [.int (tdS N A z what k)] dX11_terms_160 vl_X11_208 ⟨by decide, by decide⟩ (e_X5_contentOfAll hqt hnt hs.hN hs.hN8 hs.hM hs.hM5 hs.hbe hs.hw hs.hab hs.hI) sc_obj hqt (by omega) rfl rfl (Nat.le_of_ble_eq_true rfl) (Nat.le_of_ble_eq_true rfl) (Nat.le_of_ble_eq_true rfl) ?_
                    refine go_iadd dX11_terms_163 ?_
                    refine go_istore (ls' := [some (.ref x), some (.int (nI jx)), some (.int z), some (.int (what)), some (.int ((tdS N A z what k) + (alS N (tdA N A z (k + 1))))), some (.int (sdS (sdS (teZ z k)))), some (.int (nI k)), some (.int (sdS (teZ z k)))]) dX11_terms_164 ⟨by decide, rfl, rfl⟩ ?_
                    refine go_iinc (v := nI (k + 1)) (ls' := [some (.ref x), some (.int (nI jx)), some (.int z), some (.int (what)), some (.int ((tdS N A z what k) + (alS N (tdA N A z (k + 1))))), some (.int (sdS (sdS (teZ z k)))), some (.int (nI (k + 1))), some (.int (sdS (teZ z k)))]) dX11_terms_166 rfl (nI_1 (k)) ⟨by decide, rfl, rfl⟩ ?_
                    refine go_goto dX11_terms_169 ?_
                    refine go_weak (ls' := [some (.ref x), some (.int (nI jx)), some (.int z), some (.int (what)), some (.int ((tdS N A z what k) + (alS N (tdA N A z (k + 1))))), some (.int (sdS (sdS (teZ z k)))), some (.int (nI (k + 1))), none]) ⟨rfl, rfl, rfl, rfl, rfl, rfl, rfl, trivial⟩ ?_
                    refine go_ls (ls' := [some (.ref x), some (.int (nI jx)), some (.int z), some (.int (what)), some (.int (tdS N A z what (k + 1))), some (.int (teZ z (k + 1))), some (.int (nI (k + 1))), none]) (by rw [show (tdS N A z what k) + (alS N (tdA N A z (k + 1))) = tdS N A z what (k + 1) from ((if_neg c126).trans (if_pos c151n)).symm]; rfl) ?_
                    exact ih_lp0 (k + 1) _ _ _ _ (by omega) (by omega) (Or.inr ⟨rfl, rfl, rfl, rfl⟩)
                · refine go_iload dX11_terms_129 rfl ?_
                  refine go_aload_n dX11_terms_131 rfl ?_
                  refine go_get dX11_terms_132 fl_X11_19_11 hX.at hX.2.1 hX.2.2.1 rfl ?_
                  refine go_Vr [] [.int (tdS N A z what k)] dX11_terms_135 vl_X11_165 ⟨by decide, by decide⟩ (e_X5_howManyClash hqt hnt h.hN h.hN8) sc_obj hqt (by omega) rfl rfl (Nat.le_of_ble_eq_true rfl) (Nat.le_of_ble_eq_true rfl) (Nat.le_of_ble_eq_true rfl) ?_
                  refine go_iadd dX11_terms_138 ?_
                  refine go_istore (ls' := [some (.ref x), some (.int (nI jx)), some (.int z), some (.int (what)), some (.int ((tdS N A z what k) + (cnS (lcP N (tdA N A z (k + 1))) N))), some (.int (sdS (sdS (teZ z k)))), some (.int (nI k)), some (.int (sdS (teZ z k)))]) dX11_terms_139 ⟨by decide, rfl, rfl⟩ ?_
                  refine go_goto dX11_terms_141 ?_
                  refine go_iinc (v := nI (k + 1)) (ls' := [some (.ref x), some (.int (nI jx)), some (.int z), some (.int (what)), some (.int ((tdS N A z what k) + (cnS (lcP N (tdA N A z (k + 1))) N))), some (.int (sdS (sdS (teZ z k)))), some (.int (nI (k + 1))), some (.int (sdS (teZ z k)))]) dX11_terms_166 rfl (nI_1 (k)) ⟨by decide, rfl, rfl⟩ ?_
                  refine go_goto dX11_terms_169 ?_
                  refine go_weak (ls' := [some (.ref x), some (.int (nI jx)), some (.int z), some (.int (what)), some (.int ((tdS N A z what k) + (cnS (lcP N (tdA N A z (k + 1))) N))), some (.int (sdS (sdS (teZ z k)))), some (.int (nI (k + 1))), none]) ⟨rfl, rfl, rfl, rfl, rfl, rfl, rfl, trivial⟩ ?_
                  refine go_ls (ls' := [some (.ref x), some (.int (nI jx)), some (.int z), some (.int (what)), some (.int (tdS N A z what (k + 1))), some (.int (teZ z (k + 1))), some (.int (nI (k + 1))), none]) (by rw [show (tdS N A z what k) + (cnS (lcP N (tdA N A z (k + 1))) N) = tdS N A z what (k + 1) from (if_pos c126).symm]; rfl) ?_
                  exact ih_lp0 (k + 1) _ _ _ _ (by omega) (by omega) (Or.inr ⟨rfl, rfl, rfl, rfl⟩)
              · have c64n := (n0_eq (a := k % 10) (by omega)).mp c64
                refine go_aload_n dX11_terms_67 rfl ?_
                refine go_get dX11_terms_68 fl_X11_19_11 hX.at hX.2.1 hX.2.2.1 rfl ?_
                refine go_aload_n dX11_terms_71 rfl ?_
                refine go_get dX11_terms_72 fl_X11_10_11 hX.at hX.2.1 hX.2.2.1 rfl ?_
                refine go_V [.ref s] [] dX11_terms_75 vl_X11_61 ⟨by decide, by decide⟩ (e_X5_becomes2 (F := F4) (W := W4) (A := A4) (B := B4) hqt hnt hq hn hdj hw2) sc_obj hqt (by omega) rfl rfl (Nat.le_of_ble_eq_true rfl) (Nat.le_of_ble_eq_true rfl) (Nat.le_of_ble_eq_true rfl) (fun r75 f75 n75 h75 => ?_)
                obtain ⟨rfl, rfl, hn75⟩ := h75
                subst n75
                refine go_mem (f' := (sc G (sc G m0 s F W A B) t F W (tdB N A z k) B)) (by rw [show tdB N A z k = A from if_pos c64n]) ?_
                refine go_iload dX11_terms_78 rfl ?_
                refine go_Sr [.int (teZ z k)] [] dX11_terms_80 sl_X11_278 ⟨by decide, by decide⟩ (e_X11_nextSeed) rfl rfl (Nat.le_of_ble_eq_true rfl) (Nat.le_of_ble_eq_true rfl) (Nat.le_of_ble_eq_true rfl) ?_
                refine go_istore (ls' := [some (.ref x), some (.int (nI jx)), some (.int z), some (.int (what)), some (.int (tdS N A z what k)), some (.int (teZ z k)), some (.int (nI k)), some (.int (sdS (teZ z k)))]) dX11_terms_83 ⟨by decide, rfl, rfl⟩ ?_
                refine go_iload dX11_terms_85 rfl ?_
                refine go_Sr [.int (sdS (teZ z k))] [] dX11_terms_87 sl_X11_278 ⟨by decide, by decide⟩ (e_X11_nextSeed) rfl rfl (Nat.le_of_ble_eq_true rfl) (Nat.le_of_ble_eq_true rfl) (Nat.le_of_ble_eq_true rfl) ?_
                refine go_istore (ls' := [some (.ref x), some (.int (nI jx)), some (.int z), some (.int (what)), some (.int (tdS N A z what k)), some (.int (sdS (sdS (teZ z k)))), some (.int (nI k)), some (.int (sdS (teZ z k)))]) dX11_terms_90 ⟨by decide, rfl, rfl⟩ ?_
                refine go_aload_n dX11_terms_92 rfl ?_
                refine go_get dX11_terms_93 fl_X11_19_11 hX.at hX.2.1 hX.2.2.1 rfl ?_
                refine go_iload dX11_terms_96 rfl ?_
                refine go_aload_n dX11_terms_98 rfl ?_
                refine go_get dX11_terms_99 fl_X11_10_11 hX.at hX.2.1 hX.2.2.1 rfl ?_
                refine go_get dX11_terms_102 fl_X11_258_5 ((sc_out (by omega)).trans sc_obj) hq (by omega) rfl ?_
                refine go_tp (z := nI N) h.hN ?_
                refine go_Sr [.int (sdS (teZ z k)), .int (nI N)] [.ref t] dX11_terms_105 sl_X11_281 ⟨by decide, by decide⟩ (e_X11_drawn ((n0_gt (by omega)).mpr (by omega))) rfl rfl (Nat.le_of_ble_eq_true rfl) (Nat.le_of_ble_eq_true rfl) (Nat.le_of_ble_eq_true rfl) ?_
                refine go_iload dX11_terms_108 rfl ?_
                refine go_aload_n dX11_terms_110 rfl ?_
                refine go_get dX11_terms_111 fl_X11_10_11 hX.at hX.2.1 hX.2.2.1 rfl ?_
                refine go_get dX11_terms_114 fl_X11_258_5 ((sc_out (by omega)).trans sc_obj) hq (by omega) rfl ?_
                refine go_tp (z := nI N) h.hN ?_
                refine go_Sr [.int (sdS (sdS (teZ z k))), .int (nI N)] [.int (drS (sdS (teZ z k)) (nI N)), .ref t] dX11_terms_117 sl_X11_281 ⟨by decide, by decide⟩ (e_X11_drawn ((n0_gt (by omega)).mpr (by omega))) rfl rfl (Nat.le_of_ble_eq_true rfl) (Nat.le_of_ble_eq_true rfl) (Nat.le_of_ble_eq_true rfl) ?_
                refine go_V [.int (drS (sdS (teZ z k)) (nI N)), .int (drS (sdS (sdS (teZ z k))) (nI N))] [] dX11_terms_120 vl_X11_144 ⟨by decide, by decide⟩ (e_X5_change (F := F) (W := W) (A := tdB N A z k) (B := B) hqt hnt h.hN h.hN8) sc_obj hqt (by omega) rfl rfl (Nat.le_of_ble_eq_true rfl) (Nat.le_of_ble_eq_true rfl) (Nat.le_of_ble_eq_true rfl) (fun r120 f120 n120 h120 => ?_)
                obtain ⟨rfl, rfl, hn120⟩ := h120
                subst n120
                refine go_mem (f' := (sc G (sc G m0 s F W A B) t F W (tdA N A z (k + 1)) B)) rfl ?_
                have htd := tdB_ok (M := M) (z := z) h.hN8 h.hI (k + 1)
                have hs := (h.tri (F := F) (W := W) (B := B) (t := t) hw2).seR htd.1 htd.2
                refine go_pop dX11_terms_123 rfl ?_
                refine go_iload_n dX11_terms_124 rfl ?_
                refine go_iconst (v := 1) dX11_terms_125 rfl ?_
                refine go_icmp_ne dX11_terms_126 (fun c126 => ?_) (fun c126 => ?_)
                · refine go_iload dX11_terms_144 rfl ?_
                  refine go_bipush (v := 10) dX11_terms_146 rfl ?_
                  refine go_irem dX11_terms_148 (by decide) ?_
                  refine go_tp (z := nI (k % 10)) (pk_rem (a := k) (d := 10) (by omega) (by omega) (by omega)) ?_
                  refine go_bipush (v := 9) dX11_terms_149 rfl ?_
                  refine go_icmp_ne dX11_terms_151 (fun c151 => ?_) (fun c151 => ?_)
                  · have c151n := mt (nI_eq (a := k % 10) (b := 9) (by omega) (by omega)).mpr c151
                    refine go_iinc (v := nI (k + 1)) (ls' := [some (.ref x), some (.int (nI jx)), some (.int z), some (.int (what)), some (.int (tdS N A z what k)), some (.int (sdS (sdS (teZ z k)))), some (.int (nI (k + 1))), some (.int (sdS (teZ z k)))]) dX11_terms_166 rfl (nI_1 (k)) ⟨by decide, rfl, rfl⟩ ?_
                    refine go_goto dX11_terms_169 ?_
                    refine go_weak (ls' := [some (.ref x), some (.int (nI jx)), some (.int z), some (.int (what)), some (.int (tdS N A z what k)), some (.int (sdS (sdS (teZ z k)))), some (.int (nI (k + 1))), none]) ⟨rfl, rfl, rfl, rfl, rfl, rfl, rfl, trivial⟩ ?_
                    refine go_ls (ls' := [some (.ref x), some (.int (nI jx)), some (.int z), some (.int (what)), some (.int (tdS N A z what (k + 1))), some (.int (teZ z (k + 1))), some (.int (nI (k + 1))), none]) (by rw [show tdS N A z what k = tdS N A z what (k + 1) from ((if_neg c126).trans (if_neg c151n)).symm]; rfl) ?_
                    exact ih_lp0 (k + 1) _ _ _ _ (by omega) (by omega) (Or.inr ⟨rfl, rfl, rfl, rfl⟩)
                  · have c151n := (nI_eq (a := k % 10) (b := 9) (by omega) (by omega)).mp c151
                    refine go_iload dX11_terms_154 rfl ?_
                    refine go_aload_n dX11_terms_156 rfl ?_
                    refine go_get dX11_terms_157 fl_X11_19_11 hX.at hX.2.1 hX.2.2.1 rfl ?_
                    refine go_Vr [] [.int (tdS N A z what k)] dX11_terms_160 vl_X11_208 ⟨by decide, by decide⟩ (e_X5_contentOfAll hqt hnt hs.hN hs.hN8 hs.hM hs.hM5 hs.hbe hs.hw hs.hab hs.hI) sc_obj hqt (by omega) rfl rfl (Nat.le_of_ble_eq_true rfl) (Nat.le_of_ble_eq_true rfl) (Nat.le_of_ble_eq_true rfl) ?_
                    refine go_iadd dX11_terms_163 ?_
                    refine go_istore (ls' := [some (.ref x), some (.int (nI jx)), some (.int z), some (.int (what)), some (.int ((tdS N A z what k) + (alS N (tdA N A z (k + 1))))), some (.int (sdS (sdS (teZ z k)))), some (.int (nI k)), some (.int (sdS (teZ z k)))]) dX11_terms_164 ⟨by decide, rfl, rfl⟩ ?_
                    refine go_iinc (v := nI (k + 1)) (ls' := [some (.ref x), some (.int (nI jx)), some (.int z), some (.int (what)), some (.int ((tdS N A z what k) + (alS N (tdA N A z (k + 1))))), some (.int (sdS (sdS (teZ z k)))), some (.int (nI (k + 1))), some (.int (sdS (teZ z k)))]) dX11_terms_166 rfl (nI_1 (k)) ⟨by decide, rfl, rfl⟩ ?_
                    refine go_goto dX11_terms_169 ?_
                    refine go_weak (ls' := [some (.ref x), some (.int (nI jx)), some (.int z), some (.int (what)), some (.int ((tdS N A z what k) + (alS N (tdA N A z (k + 1))))), some (.int (sdS (sdS (teZ z k)))), some (.int (nI (k + 1))), none]) ⟨rfl, rfl, rfl, rfl, rfl, rfl, rfl, trivial⟩ ?_
                    refine go_ls (ls' := [some (.ref x), some (.int (nI jx)), some (.int z), some (.int (what)), some (.int (tdS N A z what (k + 1))), some (.int (teZ z (k + 1))), some (.int (nI (k + 1))), none]) (by rw [show (tdS N A z what k) + (alS N (tdA N A z (k + 1))) = tdS N A z what (k + 1) from ((if_neg c126).trans (if_pos c151n)).symm]; rfl) ?_
                    exact ih_lp0 (k + 1) _ _ _ _ (by omega) (by omega) (Or.inr ⟨rfl, rfl, rfl, rfl⟩)
                · refine go_iload dX11_terms_129 rfl ?_
                  refine go_aload_n dX11_terms_131 rfl ?_
                  refine go_get dX11_terms_132 fl_X11_19_11 hX.at hX.2.1 hX.2.2.1 rfl ?_
                  refine go_Vr [] [.int (tdS N A z what k)] dX11_terms_135 vl_X11_165 ⟨by decide, by decide⟩ (e_X5_howManyClash hqt hnt h.hN h.hN8) sc_obj hqt (by omega) rfl rfl (Nat.le_of_ble_eq_true rfl) (Nat.le_of_ble_eq_true rfl) (Nat.le_of_ble_eq_true rfl) ?_
                  refine go_iadd dX11_terms_138 ?_
                  refine go_istore (ls' := [some (.ref x), some (.int (nI jx)), some (.int z), some (.int (what)), some (.int ((tdS N A z what k) + (cnS (lcP N (tdA N A z (k + 1))) N))), some (.int (sdS (sdS (teZ z k)))), some (.int (nI k)), some (.int (sdS (teZ z k)))]) dX11_terms_139 ⟨by decide, rfl, rfl⟩ ?_
                  refine go_goto dX11_terms_141 ?_
                  refine go_iinc (v := nI (k + 1)) (ls' := [some (.ref x), some (.int (nI jx)), some (.int z), some (.int (what)), some (.int ((tdS N A z what k) + (cnS (lcP N (tdA N A z (k + 1))) N))), some (.int (sdS (sdS (teZ z k)))), some (.int (nI (k + 1))), some (.int (sdS (teZ z k)))]) dX11_terms_166 rfl (nI_1 (k)) ⟨by decide, rfl, rfl⟩ ?_
                  refine go_goto dX11_terms_169 ?_
                  refine go_weak (ls' := [some (.ref x), some (.int (nI jx)), some (.int z), some (.int (what)), some (.int ((tdS N A z what k) + (cnS (lcP N (tdA N A z (k + 1))) N))), some (.int (sdS (sdS (teZ z k)))), some (.int (nI (k + 1))), none]) ⟨rfl, rfl, rfl, rfl, rfl, rfl, rfl, trivial⟩ ?_
                  refine go_ls (ls' := [some (.ref x), some (.int (nI jx)), some (.int z), some (.int (what)), some (.int (tdS N A z what (k + 1))), some (.int (teZ z (k + 1))), some (.int (nI (k + 1))), none]) (by rw [show (tdS N A z what k) + (cnS (lcP N (tdA N A z (k + 1))) N) = tdS N A z what (k + 1) from (if_pos c126).symm]; rfl) ?_
                  exact ih_lp0 (k + 1) _ _ _ _ (by omega) (by omega) (Or.inr ⟨rfl, rfl, rfl, rfl⟩)
        exact lp0 201 0 F3 W3 A3 B3 (Nat.zero_le _) (by omega) (Or.inl rfl)
      · have c32n := mt (nI_leI (a := 2) (b := N) (by omega) (by omega)).mpr c32
        have c32n := Nat.lt_of_not_le c32n
        have c32 := Int32.not_le.mp c32
        refine go_bipush (v := (-3)) dX11_terms_35 rfl ?_
        refine go_Sr [.int (-3)] [] dX11_terms_37 sl_X11_162 ⟨by decide, by decide⟩ (e_X11_toldAbove) rfl rfl (Nat.le_of_ble_eq_true rfl) (Nat.le_of_ble_eq_true rfl) (Nat.le_of_ble_eq_true rfl) ?_
        refine go_tp (z := 1000000003) (by decide) ?_
        exact go_iret dX11_terms_40 rfl (Nat.le_of_ble_eq_true rfl) (Nat.le_of_ble_eq_true rfl) (hQ9 ▸ ⟨rd_i (by unfold cteS; rw [if_pos ⟨c7, c16⟩, if_pos c32]), ⟨_, _, _, _, rfl⟩, rfl⟩)
    · have c16 := bz_f c16
      refine go_iconst (v := (-1)) dX11_terms_19 rfl ?_
      refine go_Sr [.int (-1)] [] dX11_terms_20 sl_X11_162 ⟨by decide, by decide⟩ (e_X11_toldAbove) rfl rfl (Nat.le_of_ble_eq_true rfl) (Nat.le_of_ble_eq_true rfl) (Nat.le_of_ble_eq_true rfl) ?_
      refine go_tp (z := 1000000001) (by decide) ?_
      exact go_iret dX11_terms_23 rfl (Nat.le_of_ble_eq_true rfl) (Nat.le_of_ble_eq_true rfl) (hQ9 ▸ ⟨rd_i (by unfold cteS; rw [if_neg (fun z => c16 z.2)]), ⟨_, _, _, _, rfl⟩, rfl⟩)
end D11
