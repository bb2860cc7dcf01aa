/-! all mates free -/
def frN (k : Nat) (Mt : Nat → Int32) : Nat → Int32 := fun i => if i < k then -9 else Mt i
theorem frN_s {k : Nat} {Mt : Nat → Int32} : upd (frN k Mt) k (-9) = frN (k + 1) Mt := by
  funext i
  unfold upd frN
  by_cases e : i = k
  · rw [if_pos e, if_pos (by omega)]
  · rw [if_neg e]
    by_cases e2 : i < k
    · rw [if_pos e2, if_pos (by omega)]
    · rw [if_neg e2, if_neg (by omega)]
theorem frN_0 {Mt : Nat → Int32} : frN 0 Mt = Mt := rfl
theorem mtF_fr {N : Nat} {Mt : Nat → Int32} (h : N ≤ 8) : mtF N (frN 8 Mt) := fun p hp => Or.inl (by
  unfold frN
  rw [if_pos (by omega)]
  decide)
def wdOK (G : GX) (m1 : Mem) (s w n : Nat) (W : Nat → Option Nat) (A : Nat → Nat → Int32) : Prop := ∀ p, p < 8 → ∃ a, W p = some a ∧ oneM G m1 n a (A 1 p) (A 2 p) ∧ (a < s ∨ s + 8 ≤ a) ∧ (a < w ∨ w + 5 ≤ a)
theorem wlT_s {N l e : Nat} {A : Nat → Nat → Int32} (h : ¬ e = 0) : wlT N A (l + 1) e = waS N A (fun p => trS A p l) (wlT N A l) l e N := if_neg h
theorem up_l {f : Nat → Int64} {k i : Nat} {v : Int64} : vp_updL f k v i = if i = k then v else f i := rfl
section C9
variable {G : GX} {m1 f : Mem} {s w n N M : Nat} {F V : Nat → Int32} {W : Nat → Option Nat} {A : Nat → Nat → Int32} {B C Mt T : Nat → Int32} {Wl : Nat → Int64}
set_option maxHeartbeats 4000000 in
set_option maxRecDepth 100000 in
theorem e_X9_tryTwos (hq : G.2.1 ≤ s) (hn : s + 8 ≤ n) (hqw : G.2.1 ≤ w) (hnw : w + 5 ≤ n) (hdw : w + 5 ≤ s ∨ s + 8 ≤ w) (hN : F 0 = nI N) (hN8 : N ≤ 8) (hbe : ∀ a b, a < N → b < N → B (a * 8 + b) = brS A a b) {rs : Bool} : Ev G mX9_tryTwos 20 0 0 [.ref w, .ref s, .int (if rs then 1 else 0)] (sc G (wy G m1 w V C Mt Wl T) s F W A B) n (fun r f1 n1 => r = none ∧ f1 = (sc G (wy G m1 w (wV (pairS N A rs (N + 1) 0 0 (frN 8 Mt) (-1, 0, C)) (if rs then 1 else 0) (V 2)) (pairS N A rs (N + 1) 0 0 (frN 8 Mt) (-1, 0, C)).2.2 (frN 8 Mt) Wl T) s F W A B) ∧ n1 = n) := by
  generalize hQ9 : (fun r f1 n1 => r = none ∧ f1 = (sc G (wy G m1 w (wV (pairS N A rs (N + 1) 0 0 (frN 8 Mt) (-1, 0, C)) (if rs then 1 else 0) (V 2)) (pairS N A rs (N + 1) 0 0 (frN 8 Mt) (-1, 0, C)).2.2 (frN 8 Mt) Wl T) s F W A B) ∧ n1 = n : RQ) = Q9
  refine ev_of (by decide) (Nat.le_of_ble_eq_true rfl) (ls := [some (.ref w), some (.ref s), some (.int (if rs then 1 else 0)), none]) rfl (fun hb => ?_)
  refine go_aload_n dX9_tryTwos_0 rfl ?_
  refine go_iload_n dX9_tryTwos_1 rfl ?_
  refine go_put dX9_tryTwos_2 fp_X9_22_9 (Or.inr (fun _ _ _ h => by cases h; rfl)) ((sc_out (by omega)).trans wy_obj) hqw (by omega) (by cases rs <;> rfl) (by cases rs <;> rfl) (Nat.le_of_ble_eq_true rfl) ?_
  refine go_mem (f' := (sc G (wy G m1 w (upd V 3 (if rs then 1 else 0)) C Mt Wl T) s F W A B)) (sc_upo (by omega) (wy_setV rfl)) ?_
  refine go_aload_n dX9_tryTwos_5 rfl ?_
  refine go_iconst (v := (-1)) dX9_tryTwos_6 rfl ?_
  refine go_put dX9_tryTwos_7 fp_X9_11_9 (Or.inr (fun _ _ _ h => by cases h; rfl)) ((sc_out (by omega)).trans wy_obj) hqw (by omega) (rfl) rfl (Nat.le_of_ble_eq_true rfl) ?_
  refine go_mem (f' := (sc G (wy G m1 w (upd (upd V 3 (if rs then 1 else 0)) 0 ((-1))) C Mt Wl T) s F W A B)) (sc_upo (by omega) (wy_setV rfl)) ?_
  refine go_aload_n dX9_tryTwos_10 rfl ?_
  refine go_iconst (v := 0) dX9_tryTwos_11 rfl ?_
  refine go_put dX9_tryTwos_12 fp_X9_15_9 (Or.inr (fun _ _ _ h => by cases h; rfl)) ((sc_out (by omega)).trans wy_obj) hqw (by omega) (rfl) rfl (Nat.le_of_ble_eq_true rfl) ?_
  refine go_mem (f' := (sc G (wy G m1 w (upd (upd (upd V 3 (if rs then 1 else 0)) 0 ((-1))) 1 (0)) C Mt Wl T) s F W A B)) (sc_upo (by omega) (wy_setV rfl)) ?_
  refine go_iconst (v := 0) dX9_tryTwos_15 rfl ?_
  refine go_istore_n (ls' := [some (.ref w), some (.ref s), some (.int (if rs then 1 else 0)), some (.int 0)]) dX9_tryTwos_16 ⟨by decide, rfl, rfl⟩ ?_
  have lp0 : ∀ (μ_lp0 : Nat) (i : Nat) (hi : i ≤ 8) (hmi : 9 ≤ i + μ_lp0), Go G mX9_tryTwos 20 0 0 Q9 0 0 17 [some (.ref w), some (.ref s), none, some (.int (nI i))] [] (sc G (wy G m1 w (wV ((-1, 0, C) : RS) (if rs then 1 else 0) (V 2)) ((-1, 0, C) : RS).2.2 (frN i Mt) Wl T) s F W A B) n := by
    intro μ_lp0
    induction μ_lp0 with
    | zero =>
      intro i hi hmi
      exact absurd hmi (by omega)
    | succ μ_lp0 ih_lp0 =>
      intro i hi hmi
      refine go_iload_n dX9_tryTwos_17 rfl ?_
      refine go_bipush (v := 8) dX9_tryTwos_18 rfl ?_
      refine go_icmp_ge dX9_tryTwos_20 (fun c20 => ?_) (fun c20 => ?_)
      · have c20n := (nI_leI (a := 8) (b := i) (by omega) (by omega)).mp c20
        have c20n := Nat.not_lt.mpr c20n
        have c20 := Int32.not_lt.mpr c20
        refine go_aload_n dX9_tryTwos_37 rfl ?_
        refine go_aload_n dX9_tryTwos_38 rfl ?_
        refine go_iconst (v := 0) dX9_tryTwos_39 rfl ?_
        refine go_iconst (v := 0) dX9_tryTwos_40 rfl ?_
        obtain rfl : i = 8 := by omega
        refine go_V [.ref s, .int 0, .int 0] [] dX9_tryTwos_41 vl_X9_36 ⟨by omega, by decide⟩ (e_X9_pairFrom (Wl := Wl) (T := T) (F := F) (W := W) (A := A) (B := B) hq hn hqw hnw hdw hN hN8 hbe (rs := rs) (z := V 2) (N + 1) 0 0 (frN 8 Mt) ((-1, 0, C) : RS) (by omega) (by omega) (mtF_fr hN8)) ((sc_out (by omega)).trans wy_obj) hqw (by omega) rfl rfl (Nat.le_of_ble_eq_true rfl) (Nat.le_of_ble_eq_true rfl) (Nat.le_of_ble_eq_true rfl) (fun r41 f41 n41 h41 => ?_)
        obtain ⟨rfl, rfl, hn41⟩ := h41
        subst n41
        exact go_vret dX9_tryTwos_44 rfl (Nat.le_of_ble_eq_true rfl) (Nat.le_of_ble_eq_true rfl) (hQ9 ▸ ⟨rfl, rfl, rfl⟩)
      · have c20n := mt (nI_leI (a := 8) (b := i) (by omega) (by omega)).mpr c20
        have c20n := Nat.lt_of_not_le c20n
        have c20 := Int32.not_le.mp c20
        refine go_aload_n dX9_tryTwos_23 rfl ?_
        refine go_get dX9_tryTwos_24 fl_X9_26_9 ((sc_out (by omega)).trans wy_obj) hqw (by omega) rfl ?_
        refine go_iload_n dX9_tryTwos_27 rfl ?_
        refine go_bipush (v := (-9)) dX9_tryTwos_28 rfl ?_
        refine go_iast dX9_tryTwos_30 ((sc_out (by omega)).trans wy_2) (by omega) (by omega) (vp_in_nI (n := i) (by show i < 8; omega) (by decide)) ?_
        rw [nI_clamp (by omega)]
        refine go_mem (f' := (sc G (wy G m1 w (wV ((-1, 0, C) : RS) (if rs then 1 else 0) (V 2)) ((-1, 0, C) : RS).2.2 (upd (frN i Mt) i ((-9))) Wl T) s F W A B)) (sc_upo (by omega) wy_set2) ?_
        refine go_iinc (v := nI (i + 1)) (ls' := [some (.ref w), some (.ref s), none, some (.int (nI (i + 1)))]) dX9_tryTwos_31 rfl (nI_1 (i)) ⟨by decide, rfl, rfl⟩ ?_
        refine go_goto dX9_tryTwos_34 ?_
        refine go_mem (by rw [frN_s]) ?_
        exact ih_lp0 (i + 1) (by omega) (by omega)
  refine go_weak (ls' := [some (.ref w), some (.ref s), none, some (.int 0)]) ⟨rfl, rfl, rfl, trivial⟩ ?_
  refine go_mem (f' := (sc G (wy G m1 w (wV ((-1, 0, C) : RS) (if rs then 1 else 0) (V 2)) ((-1, 0, C) : RS).2.2 (frN 0 Mt) Wl T) s F W A B)) (lk_eq rfl rfl rfl rfl) ?_
  exact lp0 9 0 (Nat.zero_le _) (by omega)
set_option maxHeartbeats 4000000 in
set_option maxRecDepth 100000 in
theorem e_X9_placeAll (hq : G.2.1 ≤ s) (hn : s + 8 ≤ n) (hqw : G.2.1 ≤ w) (hnw : w + 5 ≤ n) (hdw : w + 5 ≤ s ∨ s + 8 ≤ w) (hN : F 0 = nI N) (hN8 : N ≤ 8) (hM : F 1 = nI M) (hM5 : M ≤ 5) (hbe : ∀ a b, a < N → b < N → B (a * 8 + b) = brS A a b) (hab : ∀ l, l < M → A 6 l = 0 ∨ A 6 l = 1) (hwi : wdOK G m1 s w n W A) : Ev G mX9_placeAll 6 0 0 [.ref w, .ref s] (sc G (wy G m1 w V C Mt Wl T) s F W A B) n (fun r f1 n1 => r = some (.long (plcW N M A)) ∧ (∃ X T2, f1 = (sc G (wy G m1 w V C Mt X T2) s F W A B)) ∧ n1 = n) := by
  generalize hQ9 : (fun r f1 n1 => r = some (.long (plcW N M A)) ∧ (∃ X T2, f1 = (sc G (wy G m1 w V C Mt X T2) s F W A B)) ∧ n1 = n : RQ) = Q9
  refine ev_of (by decide) (Nat.le_of_ble_eq_true rfl) (ls := [some (.ref w), some (.ref s), none, none, none]) rfl (fun hb => ?_)
  have hp2 := pw8 hN8
  have hp1 := pw1 N
  refine go_iconst (v := 1) dX9_placeAll_0 rfl ?_
  refine go_aload_n dX9_placeAll_1 rfl ?_
  refine go_get dX9_placeAll_2 fl_X9_40_5 sc_obj hq (by omega) rfl ?_
  refine go_tp (z := nI N) (hN) ?_
  refine go_ishl dX9_placeAll_5 ?_
  refine go_tp (z := nI (2 ^ N)) (sh1 N (by omega)) ?_
  refine go_iconst (v := 1) dX9_placeAll_6 rfl ?_
  refine go_isub dX9_placeAll_7 ?_
  refine go_tp (z := nI (2 ^ N - 1)) (full_i N (by omega)) ?_
  refine go_istore_n (ls' := [some (.ref w), some (.ref s), some (.int (nI (2 ^ N - 1))), none, none]) dX9_placeAll_8 ⟨by decide, rfl, rfl⟩ ?_
  refine go_iconst (v := 0) dX9_placeAll_9 rfl ?_
  refine go_istore_n (ls' := [some (.ref w), some (.ref s), some (.int (nI (2 ^ N - 1))), some (.int 0), none]) dX9_placeAll_10 ⟨by decide, rfl, rfl⟩ ?_
  have lp0 : ∀ (μ_lp0 : Nat) (i : Nat) (X : Nat → Int64) (hi : i ≤ 2 ^ N) (hmi : 257 ≤ i + μ_lp0) (hX : ∀ j, j < i → X j = wnS j 8), Go G mX9_placeAll 6 0 0 Q9 0 0 11 [some (.ref w), some (.ref s), some (.int (nI (2 ^ N - 1))), some (.int (nI i)), none] [] (sc G (wy G m1 w V C Mt X T) s F W A B) n := by
    intro μ_lp0
    induction μ_lp0 with
    | zero =>
      intro i X hi hmi hX
      exact absurd hmi (by omega)
    | succ μ_lp0 ih_lp0 =>
      intro i X hi hmi hX
      refine go_iload_n dX9_placeAll_11 rfl ?_
      refine go_iload_n dX9_placeAll_12 rfl ?_
      refine go_icmp_gt dX9_placeAll_13 (fun c13 => ?_) (fun c13 => ?_)
      · have c13n := (nI_ltI (a := 2 ^ N - 1) (b := i) (by omega) (by omega)).mp c13
        refine go_iconst (v := 0) dX9_placeAll_32 rfl ?_
        refine go_istore_n (ls' := [some (.ref w), some (.ref s), some (.int (nI (2 ^ N - 1))), some (.int 0), none]) dX9_placeAll_33 ⟨by decide, rfl, rfl⟩ ?_
        have lp1 : ∀ (μ_lp1 : Nat) (l : Nat) (X : Nat → Int64) (T2 : Nat → Int32) (hl : l ≤ M) (hml : M + 1 ≤ l + μ_lp1) (hX : ∀ i, i < 2 ^ N → X i = wlT N A l i), Go G mX9_placeAll 6 0 0 Q9 0 0 34 [some (.ref w), some (.ref s), some (.int (nI (2 ^ N - 1))), some (.int (nI l)), none] [] (sc G (wy G m1 w V C Mt X T2) s F W A B) n := by
          intro μ_lp1
          induction μ_lp1 with
          | zero =>
            intro l X T2 hl hml hX
            exact absurd hml (by omega)
          | succ μ_lp1 ih_lp1 =>
            intro l X T2 hl hml hX
            refine go_iload_n dX9_placeAll_34 rfl ?_
            refine go_aload_n dX9_placeAll_35 rfl ?_
            refine go_get dX9_placeAll_36 fl_X9_78_5 sc_obj hq (by omega) rfl ?_
            refine go_tp (z := nI M) (hM) ?_
            refine go_icmp_ge dX9_placeAll_39 (fun c39 => ?_) (fun c39 => ?_)
            · have c39n := (nI_leI (a := M) (b := l) (by omega) (by omega)).mp c39
              have c39n := Nat.not_lt.mpr c39n
              have c39 := Int32.not_lt.mpr c39
              refine go_aload_n dX9_placeAll_109 rfl ?_
              refine go_get dX9_placeAll_110 fl_X9_29_9 ((sc_out (by omega)).trans wy_obj) hqw (by omega) rfl ?_
              refine go_iload_n dX9_placeAll_113 rfl ?_
              refine go_lald dX9_placeAll_114 ((sc_out (by omega)).trans wy_3) (by omega) (by omega) (vp_in_nI (n := 2 ^ N - 1) (by show 2 ^ N - 1 < 256; omega) (by decide)) ?_
              refine go_tl (z := X (2 ^ N - 1)) (by rw [nI_clamp (by omega)]) ?_
              exact go_lret dX9_placeAll_115 rfl (Nat.le_of_ble_eq_true rfl) (Nat.le_of_ble_eq_true rfl) (hQ9 ▸ ⟨rd_l (by rw [hX _ (by omega), show l = M by omega]; rfl), ⟨X, T2, rfl⟩, rfl⟩)
            · have c39n := mt (nI_leI (a := M) (b := l) (by omega) (by omega)).mpr c39
              have c39n := Nat.lt_of_not_le c39n
              have c39 := Int32.not_le.mp c39
              refine go_iconst (v := 0) dX9_placeAll_42 rfl ?_
              refine go_istore (ls' := [some (.ref w), some (.ref s), some (.int (nI (2 ^ N - 1))), some (.int (nI l)), some (.int 0)]) dX9_placeAll_43 ⟨by decide, rfl, rfl⟩ ?_
              have lp2 : ∀ (μ_lp2 : Nat) (p : Nat) (T2 : Nat → Int32) (hp : p ≤ N) (hmp : N + 1 ≤ p + μ_lp2) (hT : ∀ i, i < p → T2 i = trS A i l), Go G mX9_placeAll 6 0 0 Q9 0 0 45 [some (.ref w), some (.ref s), some (.int (nI (2 ^ N - 1))), some (.int (nI l)), some (.int (nI p))] [] (sc G (wy G m1 w V C Mt X T2) s F W A B) n := by
                intro μ_lp2
                induction μ_lp2 with
                | zero =>
                  intro p T2 hp hmp hT
                  exact absurd hmp (by omega)
                | succ μ_lp2 ih_lp2 =>
                  intro p T2 hp hmp hT
                  refine go_iload dX9_placeAll_45 rfl ?_
                  refine go_aload_n dX9_placeAll_47 rfl ?_
                  refine go_get dX9_placeAll_48 fl_X9_40_5 sc_obj hq (by omega) rfl ?_
                  refine go_tp (z := nI N) (hN) ?_
                  refine go_icmp_ge dX9_placeAll_51 (fun c51 => ?_) (fun c51 => ?_)
                  · have c51n := (nI_leI (a := N) (b := p) (by omega) (by omega)).mp c51
                    have c51n := Nat.not_lt.mpr c51n
                    have c51 := Int32.not_lt.mpr c51
                    have hT2 : ∀ i, i < N → T2 i = trS A i l := fun i hi => hT i (by omega)
                    refine go_iload_n dX9_placeAll_74 rfl ?_
                    refine go_istore (ls' := [some (.ref w), some (.ref s), some (.int (nI (2 ^ N - 1))), some (.int (nI l)), some (.int (nI (2 ^ N - 1)))]) dX9_placeAll_75 ⟨by decide, rfl, rfl⟩ ?_
                    have lp3 : ∀ (μ_lp3 : Nat) (e : Nat) (X2 : Nat → Int64) (hs : e ≤ 2 ^ N - 1) (hms : e + 1 ≤ μ_lp3) (hU : ∀ i, i < 2 ^ N → e < i → X2 i = wlT N A (l + 1) i) (hL : ∀ i, i ≤ e → X2 i = wlT N A l i), Go G mX9_placeAll 6 0 0 Q9 0 0 77 [some (.ref w), some (.ref s), some (.int (nI (2 ^ N - 1))), some (.int (nI l)), some (.int (nI e))] [] (sc G (wy G m1 w V C Mt X2 T2) s F W A B) n := by
                      intro μ_lp3
                      induction μ_lp3 with
                      | zero =>
                        intro e X2 hs hms hU hL
                        exact absurd hms (by omega)
                      | succ μ_lp3 ih_lp3 =>
                        intro e X2 hs hms hU hL
                        rcases e with _ | e
                        · skip
                          refine go_iload dX9_placeAll_77 rfl ?_
                          refine go_if_le dX9_placeAll_79 (fun c79 => ?_) (fun c79 => ?_)
                          · have c79n := (n0_le (a := 0) (by omega)).mp c79
                            refine go_iinc (v := nI (l + 1)) (ls' := [some (.ref w), some (.ref s), some (.int (nI (2 ^ N - 1))), some (.int (nI (l + 1))), some (.int 0)]) dX9_placeAll_103 rfl (nI_1 (l)) ⟨by decide, rfl, rfl⟩ ?_
                            refine go_goto dX9_placeAll_106 ?_
                            refine go_weak (ls' := [some (.ref w), some (.ref s), some (.int (nI (2 ^ N - 1))), some (.int (nI (l + 1))), none]) ⟨rfl, rfl, rfl, rfl, trivial⟩ ?_
                            refine ih_lp1 (l + 1) X2 T2 (by omega) (by omega) (fun i hi => ?_)
                            by_cases e : i = 0
                            · rw [e, hL 0 (Nat.zero_le _)]; exact (show wlT N A (l + 1) 0 = wlT N A l 0 from rfl).symm
                            · exact hU i hi (by omega)
                          · have c79n := mt (n0_le (a := 0) (by omega)).mpr c79
                            first | exact absurd c79n (by decide) | exact absurd (by decide) c79n | exact absurd rfl c79n | omega
                        · skip
                          refine go_iload dX9_placeAll_77 rfl ?_
                          refine go_if_le dX9_placeAll_79 (fun c79 => ?_) (fun c79 => ?_)
                          · have c79n := (n0_le (a := e + 1) (by omega)).mp c79
                            refine go_iinc (v := nI (l + 1)) (ls' := [some (.ref w), some (.ref s), some (.int (nI (2 ^ N - 1))), some (.int (nI (l + 1))), some (.int (nI (e + 1)))]) dX9_placeAll_103 rfl (nI_1 (l)) ⟨by decide, rfl, rfl⟩ ?_
                            refine go_goto dX9_placeAll_106 ?_
                            refine go_weak (ls' := [some (.ref w), some (.ref s), some (.int (nI (2 ^ N - 1))), some (.int (nI (l + 1))), none]) ⟨rfl, rfl, rfl, rfl, trivial⟩ ?_
                            refine ih_lp1 (l + 1) X2 T2 (by omega) (by omega) (fun i hi => ?_)
                            by_cases e : i = 0
                            · rw [e, hL 0 (Nat.zero_le _)]; exact (show wlT N A (l + 1) 0 = wlT N A l 0 from rfl).symm
                            · exact hU i hi (by omega)
                          · have c79n := mt (n0_le (a := e + 1) (by omega)).mpr c79
                            refine go_aload_n dX9_placeAll_82 rfl ?_
                            refine go_get dX9_placeAll_83 fl_X9_29_9 ((sc_out (by omega)).trans wy_obj) hqw (by omega) rfl ?_
                            refine go_iload dX9_placeAll_86 rfl ?_
                            refine go_aload_n dX9_placeAll_88 rfl ?_
                            refine go_aload_n dX9_placeAll_89 rfl ?_
                            refine go_iload_n dX9_placeAll_90 rfl ?_
                            refine go_iload dX9_placeAll_91 rfl ?_
                            refine go_Vr [.ref s, .int (nI l), .int (nI (e + 1))] [.int (nI (e + 1)), .ref (w + 3)] dX9_placeAll_93 vl_X9_84 ⟨by decide, by decide⟩ (e_X9_worthWithLocker (V := V) (C := C) (Mt := Mt) (Wl := X2) (T := T2) (F := F) (W := W) (A := A) (B := B) hq hn hqw hnw hdw hN hN8 hbe (by omega) (by omega)) ((sc_out (by omega)).trans wy_obj) hqw (by omega) rfl rfl (Nat.le_of_ble_eq_true rfl) (Nat.le_of_ble_eq_true rfl) (Nat.le_of_ble_eq_true rfl) ?_
                            refine go_last dX9_placeAll_96 ((sc_out (by omega)).trans wy_3) (by omega) (by omega) (vp_in_nI (n := e + 1) (by show e + 1 < 256; omega) (by decide)) ?_
                            rw [nI_clamp (by omega)]
                            refine go_mem (f' := (sc G (wy G m1 w V C Mt (vp_updL X2 (e + 1) (waS N A T2 X2 l (e + 1) N)) T2) s F W A B)) (sc_upo (by omega) wy_set3) ?_
                            refine go_iinc (v := (nI (e + 1)) - 1) (ls' := [some (.ref w), some (.ref s), some (.int (nI (2 ^ N - 1))), some (.int (nI l)), some (.int ((nI (e + 1)) - 1))]) dX9_placeAll_97 rfl (i32_m1 _) ⟨by decide, rfl, rfl⟩ ?_
                            refine go_goto dX9_placeAll_100 ?_
                            refine go_ls (ls' := [some (.ref w), some (.ref s), some (.int (nI (2 ^ N - 1))), some (.int (nI l)), some (.int (nI e))]) (by rw [nI_pred]) ?_
                            refine ih_lp3 e _ (by omega) (by omega) (fun i hi hs => ?_) (fun i hi => ?_)
                            · rw [up_l]
                              by_cases ei : i = e + 1
                              · rw [if_pos ei, ei, waS_congr (T := fun p => trS A p l) (Wl := wlT N A l) hT2 (fun j hj => hL j hj) N (Nat.le_refl _)]
                                exact (wlT_s (by omega)).symm
                              · rw [if_neg ei]; exact hU i hi (by omega)
                            · rw [up_l, if_neg (by omega)]; exact hL i (by omega)
                    exact lp3 257 (2 ^ N - 1) X (Nat.le_refl _) (by omega) (fun i hi hs => absurd hs (by omega)) (fun i hi => hX i (by omega))
                  · have c51n := mt (nI_leI (a := N) (b := p) (by omega) (by omega)).mpr c51
                    have c51n := Nat.lt_of_not_le c51n
                    have c51 := Int32.not_le.mp c51
                    refine go_aload_n dX9_placeAll_54 rfl ?_
                    refine go_get dX9_placeAll_55 fl_X9_33_9 ((sc_out (by omega)).trans wy_obj) hqw (by omega) rfl ?_
                    refine go_iload dX9_placeAll_58 rfl ?_
                    refine go_aload_n dX9_placeAll_60 rfl ?_
                    refine go_iload dX9_placeAll_61 rfl ?_
                    refine go_iload_n dX9_placeAll_63 rfl ?_
                    refine go_Vr [.int (nI p), .int (nI l)] [.int (nI p), .ref (w + 4)] dX9_placeAll_64 vl_X9_81 ⟨by decide, by decide⟩ (e_X5_troubleOf (m0 := (wy G m1 w V C Mt X T2)) (F := F) (W := W) (A := A) (B := B) hq hn (who_wy hwi) hab (by omega) (by omega) hM5) sc_obj hq (by omega) rfl rfl (Nat.le_of_ble_eq_true rfl) (Nat.le_of_ble_eq_true rfl) (Nat.le_of_ble_eq_true rfl) ?_
                    refine go_iast dX9_placeAll_67 ((sc_out (by omega)).trans wy_4) (by omega) (by omega) (vp_in_nI (n := p) (by show p < 8; omega) (by decide)) ?_
                    rw [nI_clamp (by omega)]
                    refine go_mem (f' := (sc G (wy G m1 w V C Mt X (upd T2 p (trS A p l))) s F W A B)) (sc_upo (by omega) wy_set4) ?_
                    refine go_iinc (v := nI (p + 1)) (ls' := [some (.ref w), some (.ref s), some (.int (nI (2 ^ N - 1))), some (.int (nI l)), some (.int (nI (p + 1)))]) dX9_placeAll_68 rfl (nI_1 (p)) ⟨by decide, rfl, rfl⟩ ?_
                    refine go_goto dX9_placeAll_71 ?_
                    refine ih_lp2 (p + 1) _ (by omega) (by omega) (fun j hj => ?_)
                    show upd T2 p _ j = _
                    unfold upd
                    by_cases e : j = p
                    · rw [if_pos e, e]
                    · rw [if_neg e]; exact hT j (by omega)
              exact lp2 (N + 1) 0 T2 (Nat.zero_le _) (by omega) (fun i hi => absurd hi (by omega))
        exact lp1 (M + 1) 0 X T (Nat.zero_le _) (by omega) (fun i hi => hX i (by omega))
      · have c13n := mt (nI_ltI (a := 2 ^ N - 1) (b := i) (by omega) (by omega)).mpr c13
        refine go_aload_n dX9_placeAll_16 rfl ?_
        refine go_get dX9_placeAll_17 fl_X9_29_9 ((sc_out (by omega)).trans wy_obj) hqw (by omega) rfl ?_
        refine go_iload_n dX9_placeAll_20 rfl ?_
        refine go_iload_n dX9_placeAll_21 rfl ?_
        refine go_Sr [.int (nI i)] [.int (nI i), .ref (w + 3)] dX9_placeAll_22 sl_X9_74 ⟨by decide, by decide⟩ (e_X9_worthInNone (by omega)) rfl rfl (Nat.le_of_ble_eq_true rfl) (Nat.le_of_ble_eq_true rfl) (Nat.le_of_ble_eq_true rfl) ?_
        refine go_last dX9_placeAll_25 ((sc_out (by omega)).trans wy_3) (by omega) (by omega) (vp_in_nI (n := i) (by show i < 256; omega) (by decide)) ?_
        rw [nI_clamp (by omega)]
        refine go_mem (f' := (sc G (wy G m1 w V C Mt (vp_updL X i (wnS i 8)) T) s F W A B)) (sc_upo (by omega) wy_set3) ?_
        refine go_iinc (v := nI (i + 1)) (ls' := [some (.ref w), some (.ref s), some (.int (nI (2 ^ N - 1))), some (.int (nI (i + 1))), none]) dX9_placeAll_26 rfl (nI_1 (i)) ⟨by decide, rfl, rfl⟩ ?_
        refine go_goto dX9_placeAll_29 ?_
        refine ih_lp0 (i + 1) _ (by omega) (by omega) (fun j hj => ?_)
        rw [up_l]
        by_cases e : j = i
        · rw [if_pos e, e]
        · rw [if_neg e]; exact hX j (by omega)
  exact lp0 257 0 Wl (Nat.zero_le _) (by omega) (fun i hi => absurd hi (by omega))
end C9
