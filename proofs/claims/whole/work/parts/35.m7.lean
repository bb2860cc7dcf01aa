section M7
variable {G : GX} {m0 f : Mem} {q n N M : Nat} {F : Nat → Int32} {A : Nat → Nat → Int32} {L : Nat → Nat → Int64} {K : Option Nat}
set_option maxHeartbeats 4000000 in
set_option maxRecDepth 100000 in
theorem e_X12_hours (hq : G.2.1 ≤ q) (hn : q + 25 ≤ n) (hN : F 0 = nI N) (hN8 : N ≤ 8) {what : Int32} : Ev G mX12_hours 3 0 0 [.ref q, .int what] (mo G m0 q F A L K) n (fun r f1 n1 => r = some (.int (houS N A what)) ∧ f1 = (mo G m0 q (upd F 16 (0)) A L K) ∧ n1 = n) := by
  generalize hQ9 : (fun r f1 n1 => r = some (.int (houS N A what)) ∧ f1 = (mo G m0 q (upd F 16 (0)) A L K) ∧ n1 = n : RQ) = Q9
  refine ev_of (by decide) (Nat.le_of_ble_eq_true rfl) (ls := [some (.ref q), some (.int what), none, none, none, none, none]) rfl (fun hb => ?_)
  refine go_aload_n dX12_hours_0 rfl ?_
  refine go_iconst (v := 0) dX12_hours_1 rfl ?_
  refine go_put dX12_hours_2 fp_X12_83_12 (Or.inr (fun _ _ _ h => by cases h; rfl)) mo_obj hq (by omega) (rfl) rfl (Nat.le_of_ble_eq_true rfl) ?_
  refine go_mem (mo_setO (F' := (upd F 16 (0))) (K' := K) rfl) ?_
  refine go_iload_n dX12_hours_5 rfl ?_
  refine go_i2l dX12_hours_6 ?_
  refine go_lconst (v := 0) dX12_hours_7 rfl ?_
  refine go_lconst (v := 1) dX12_hours_8 rfl ?_
  refine go_Sr [.long (what).toInt64, .long 0, .long 1] [] dX12_hours_9 sl_X12_90 ⟨by decide, by decide⟩ (e_X12_lies) rfl rfl (Nat.le_of_ble_eq_true rfl) (Nat.le_of_ble_eq_true rfl) (Nat.le_of_ble_eq_true rfl) ?_
  refine go_tp (z := if okr what 0 1 then 1 else 0) (ite_c (li_okr rfl rfl)) ?_
  refine go_if_ne dX12_hours_12 (fun c12 => ?_) (fun c12 => ?_)
  · have c12 := bz_t c12
    refine go_iconst (v := 0) dX12_hours_17 rfl ?_
    refine go_istore_n (ls' := [some (.ref q), some (.int what), some (.int 0), none, none, none, none]) dX12_hours_18 ⟨by decide, rfl, rfl⟩ ?_
    refine go_iconst (v := (-1)) dX12_hours_19 rfl ?_
    refine go_istore_n (ls' := [some (.ref q), some (.int what), some (.int 0), some (.int (-1)), none, none, none]) dX12_hours_20 ⟨by decide, rfl, rfl⟩ ?_
    refine go_iconst (v := 0) dX12_hours_21 rfl ?_
    refine go_istore (ls' := [some (.ref q), some (.int what), some (.int 0), some (.int (-1)), some (.int 0), none, none]) dX12_hours_22 ⟨by decide, rfl, rfl⟩ ?_
    have lp0 : ∀ (μ_lp0 : Nat) (i : Nat) (x y : Int32) (hi : i ≤ 6) (hmi : 7 ≤ i + μ_lp0) (hx : x = hoB N A i) (hy : y = hoM N A i), Go G mX12_hours 3 0 0 Q9 0 0 24 [some (.ref q), some (.int what), some (.int x), some (.int y), some (.int (nI i)), none, none] [] (mo G m0 q (upd F 16 (0)) A L K) n := by
      intro μ_lp0
      induction μ_lp0 with
      | zero =>
        intro i x y hi hmi hx hy
        exact absurd hmi (by omega)
      | succ μ_lp0 ih_lp0 =>
        intro i x y hi hmi hx hy
        refine go_iload dX12_hours_24 rfl ?_
        refine go_bipush (v := 6) dX12_hours_26 rfl ?_
        refine go_icmp_ge dX12_hours_28 (fun c28 => ?_) (fun c28 => ?_)
        · have c28n := (nI_leI (a := 6) (b := i) (by omega) (by omega)).mp c28
          have c28n := Nat.not_lt.mpr c28n
          have c28 := Int32.not_lt.mpr c28
          refine go_iload_n dX12_hours_108 rfl ?_
          refine go_if_ne dX12_hours_109 (fun c109 => ?_) (fun c109 => ?_)
          · refine go_iload_n dX12_hours_116 rfl ?_
            exact go_iret dX12_hours_117 rfl (Nat.le_of_ble_eq_true rfl) (Nat.le_of_ble_eq_true rfl) (hQ9 ▸ ⟨rd_i (by unfold houS; rw [if_pos c12, show (6 : Nat) = i by omega, ← hx, ← hy]; simp [c109]), rfl, rfl⟩)
          · subst c109
            refine go_iload_n dX12_hours_112 rfl ?_
            refine go_goto dX12_hours_113 ?_
            exact go_iret dX12_hours_117 rfl (Nat.le_of_ble_eq_true rfl) (Nat.le_of_ble_eq_true rfl) (hQ9 ▸ ⟨rd_i (by unfold houS; rw [if_pos c12, show (6 : Nat) = i by omega, ← hx, ← hy]; simp []), rfl, rfl⟩)
        · have c28n := mt (nI_leI (a := 6) (b := i) (by omega) (by omega)).mpr c28
          have c28n := Nat.lt_of_not_le c28n
          have c28 := Int32.not_le.mp c28
          refine go_iconst (v := 0) dX12_hours_31 rfl ?_
          refine go_istore (ls' := [some (.ref q), some (.int what), some (.int x), some (.int y), some (.int (nI i)), some (.int 0), none]) dX12_hours_32 ⟨by decide, rfl, rfl⟩ ?_
          refine go_iconst (v := 0) dX12_hours_34 rfl ?_
          refine go_istore (ls' := [some (.ref q), some (.int what), some (.int x), some (.int y), some (.int (nI i)), some (.int 0), some (.int 0)]) dX12_hours_35 ⟨by decide, rfl, rfl⟩ ?_
          have lp1 : ∀ (μ_lp1 : Nat) (k : Nat) (s : Int32) (hk : k ≤ N) (hmk : N + 1 ≤ k + μ_lp1) (hs : s = cnS (fun p => decide (A 3 p = nI i)) k), Go G mX12_hours 3 0 0 Q9 0 0 37 [some (.ref q), some (.int what), some (.int x), some (.int y), some (.int (nI i)), some (.int s), some (.int (nI k))] [] (mo G m0 q (upd F 16 (0)) A L K) n := by
            intro μ_lp1
            induction μ_lp1 with
            | zero =>
              intro k s hk hmk hs
              exact absurd hmk (by omega)
            | succ μ_lp1 ih_lp1 =>
              intro k s hk hmk hs
              refine go_iload dX12_hours_37 rfl ?_
              refine go_aload_n dX12_hours_39 rfl ?_
              refine go_get dX12_hours_40 fl_X12_87_12 mo_obj hq (by omega) rfl ?_
              refine go_tp (z := nI N) (hN) ?_
              refine go_icmp_ge dX12_hours_43 (fun c43 => ?_) (fun c43 => ?_)
              · have c43n := (nI_leI (a := N) (b := k) (by omega) (by omega)).mp c43
                have c43n := Nat.not_lt.mpr c43n
                have c43 := Int32.not_lt.mpr c43
                refine go_iload dX12_hours_74 rfl ?_
                refine go_iconst (v := 1) dX12_hours_76 rfl ?_
                refine go_iadd dX12_hours_77 ?_
                refine go_iconst (v := 2) dX12_hours_78 rfl ?_
                refine go_idiv dX12_hours_79 (by decide) ?_
                refine go_istore (ls' := [some (.ref q), some (.int what), some (.int x), some (.int y), some (.int (nI i)), some (.int s), some (.int ((s + 1) / (2)))]) dX12_hours_80 ⟨by decide, rfl, rfl⟩ ?_
                refine go_iload dX12_hours_82 rfl ?_
                refine go_iload_n dX12_hours_84 rfl ?_
                refine go_icmp_le dX12_hours_85 (fun c85 => ?_) (fun c85 => ?_)
                · have c85 := Int32.not_lt.mpr c85
                  refine go_iload_n dX12_hours_93 rfl ?_
                  refine go_istore_n (ls' := [some (.ref q), some (.int what), some (.int x), some (.int y), some (.int (nI i)), some (.int s), some (.int ((s + 1) / (2)))]) dX12_hours_94 ⟨by decide, rfl, rfl⟩ ?_
                  refine go_iload_n dX12_hours_95 rfl ?_
                  refine go_iload dX12_hours_96 rfl ?_
                  refine go_Sr [.int y, .int ((s + 1) / (2))] [] dX12_hours_98 sl_X12_105 ⟨by decide, by decide⟩ (e_X12_greater) rfl rfl (Nat.le_of_ble_eq_true rfl) (Nat.le_of_ble_eq_true rfl) (Nat.le_of_ble_eq_true rfl) ?_
                  refine go_istore_n (ls' := [some (.ref q), some (.int what), some (.int x), some (.int (grS (y) ((s + 1) / (2)))), some (.int (nI i)), some (.int s), some (.int ((s + 1) / (2)))]) dX12_hours_101 ⟨by decide, rfl, rfl⟩ ?_
                  refine go_iinc (v := nI (i + 1)) (ls' := [some (.ref q), some (.int what), some (.int x), some (.int (grS (y) ((s + 1) / (2)))), some (.int (nI (i + 1))), some (.int s), some (.int ((s + 1) / (2)))]) dX12_hours_102 rfl (nI_1 (i)) ⟨by decide, rfl, rfl⟩ ?_
                  refine go_goto dX12_hours_105 ?_
                  refine go_weak (ls' := [some (.ref q), some (.int what), some (.int x), some (.int (grS (y) ((s + 1) / (2)))), some (.int (nI (i + 1))), none, none]) ⟨rfl, rfl, rfl, rfl, rfl, trivial⟩ ?_
                  have hw : wantS N A i = (s + 1) / 2 := by unfold wantS; rw [hs, show k = N by omega]
                  exact ih_lp0 (i + 1) _ _ (by omega) (by omega) (by unfold hoB; rw [hw, ← hx, ← hy]; simp [c85]) (by unfold hoM; rw [hw, ← hy])
                · have c85 := Int32.not_le.mp c85
                  refine go_iload dX12_hours_88 rfl ?_
                  refine go_goto dX12_hours_90 ?_
                  refine go_istore_n (ls' := [some (.ref q), some (.int what), some (.int (nI i)), some (.int y), some (.int (nI i)), some (.int s), some (.int ((s + 1) / (2)))]) dX12_hours_94 ⟨by decide, rfl, rfl⟩ ?_
                  refine go_iload_n dX12_hours_95 rfl ?_
                  refine go_iload dX12_hours_96 rfl ?_
                  refine go_Sr [.int y, .int ((s + 1) / (2))] [] dX12_hours_98 sl_X12_105 ⟨by decide, by decide⟩ (e_X12_greater) rfl rfl (Nat.le_of_ble_eq_true rfl) (Nat.le_of_ble_eq_true rfl) (Nat.le_of_ble_eq_true rfl) ?_
                  refine go_istore_n (ls' := [some (.ref q), some (.int what), some (.int (nI i)), some (.int (grS (y) ((s + 1) / (2)))), some (.int (nI i)), some (.int s), some (.int ((s + 1) / (2)))]) dX12_hours_101 ⟨by decide, rfl, rfl⟩ ?_
                  refine go_iinc (v := nI (i + 1)) (ls' := [some (.ref q), some (.int what), some (.int (nI i)), some (.int (grS (y) ((s + 1) / (2)))), some (.int (nI (i + 1))), some (.int s), some (.int ((s + 1) / (2)))]) dX12_hours_102 rfl (nI_1 (i)) ⟨by decide, rfl, rfl⟩ ?_
                  refine go_goto dX12_hours_105 ?_
                  refine go_weak (ls' := [some (.ref q), some (.int what), some (.int (nI i)), some (.int (grS (y) ((s + 1) / (2)))), some (.int (nI (i + 1))), none, none]) ⟨rfl, rfl, rfl, rfl, rfl, trivial⟩ ?_
                  have hw : wantS N A i = (s + 1) / 2 := by unfold wantS; rw [hs, show k = N by omega]
                  exact ih_lp0 (i + 1) _ _ (by omega) (by omega) (by unfold hoB; rw [hw, ← hx, ← hy]; simp [c85]) (by unfold hoM; rw [hw, ← hy])
              · have c43n := mt (nI_leI (a := N) (b := k) (by omega) (by omega)).mpr c43
                have c43n := Nat.lt_of_not_le c43n
                have c43 := Int32.not_le.mp c43
                refine go_iload dX12_hours_46 rfl ?_
                refine go_aload_n dX12_hours_48 rfl ?_
                refine go_get dX12_hours_49 fl_X12_16_12 mo_obj hq (by omega) rfl ?_
                refine go_iload dX12_hours_52 rfl ?_
                refine go_iald dX12_hours_54 (mo_arr 3 (by decide)) (by omega) (by omega) (vp_in_nI (n := k) (by show k < 8; omega) (by decide)) ?_
                refine go_tp (z := A 3 k) (by rw [nI_clamp (by omega)]) ?_
                refine go_iload dX12_hours_55 rfl ?_
                refine go_icmp_ne dX12_hours_57 (fun c57 => ?_) (fun c57 => ?_)
                · refine go_iconst (v := 0) dX12_hours_64 rfl ?_
                  refine go_iadd dX12_hours_65 ?_
                  refine go_istore (ls' := [some (.ref q), some (.int what), some (.int x), some (.int y), some (.int (nI i)), some (.int (s + 0)), some (.int (nI k))]) dX12_hours_66 ⟨by decide, rfl, rfl⟩ ?_
                  refine go_iinc (v := nI (k + 1)) (ls' := [some (.ref q), some (.int what), some (.int x), some (.int y), some (.int (nI i)), some (.int (s + 0)), some (.int (nI (k + 1)))]) dX12_hours_68 rfl (nI_1 (k)) ⟨by decide, rfl, rfl⟩ ?_
                  refine go_goto dX12_hours_71 ?_
                  exact ih_lp1 (k + 1) _ (by omega) (by omega) (by simp [hs, cnS, c12, c28, c28n, c43, c43n, c57])
                · refine go_iconst (v := 1) dX12_hours_60 rfl ?_
                  refine go_goto dX12_hours_61 ?_
                  refine go_iadd dX12_hours_65 ?_
                  refine go_istore (ls' := [some (.ref q), some (.int what), some (.int x), some (.int y), some (.int (nI i)), some (.int (s + 1)), some (.int (nI k))]) dX12_hours_66 ⟨by decide, rfl, rfl⟩ ?_
                  refine go_iinc (v := nI (k + 1)) (ls' := [some (.ref q), some (.int what), some (.int x), some (.int y), some (.int (nI i)), some (.int (s + 1)), some (.int (nI (k + 1)))]) dX12_hours_68 rfl (nI_1 (k)) ⟨by decide, rfl, rfl⟩ ?_
                  refine go_goto dX12_hours_71 ?_
                  exact ih_lp1 (k + 1) _ (by omega) (by omega) (by simp [hs, cnS, c12, c28, c28n, c43, c43n, c57])
          exact lp1 (N + 1) 0 _ (Nat.zero_le _) (by omega) (rfl)
    exact lp0 7 0 _ _ (Nat.zero_le _) (by omega) rfl rfl
  · have c12 := bz_f c12
    refine go_iconst (v := (-1)) dX12_hours_15 rfl ?_
    exact go_iret dX12_hours_16 rfl (Nat.le_of_ble_eq_true rfl) (Nat.le_of_ble_eq_true rfl) (hQ9 ▸ ⟨rd_i (by unfold houS; rw [if_neg c12]), rfl, rfl⟩)
set_option maxHeartbeats 4000000 in
set_option maxRecDepth 100000 in
theorem e_X12_turn (hq : G.2.1 ≤ q) (hn : q + 25 ≤ n) (hN : F 0 = nI N) (hN8 : N ≤ 8) (hM5 : M ≤ 5) (hI : insOK N M (A 4)) {what : Int32} : Ev G mX12_turn 3 0 0 [.ref q, .int what] (mo G m0 q F A L K) n (fun r f1 n1 => r = some (.int (turS N A what)) ∧ f1 = (mo G m0 q (upd F 16 (0)) A L K) ∧ n1 = n) := by
  generalize hQ9 : (fun r f1 n1 => r = some (.int (turS N A what)) ∧ f1 = (mo G m0 q (upd F 16 (0)) A L K) ∧ n1 = n : RQ) = Q9
  refine ev_of (by decide) (Nat.le_of_ble_eq_true rfl) (ls := [some (.ref q), some (.int what), none, none, none]) rfl (fun hb => ?_)
  refine go_aload_n dX12_turn_0 rfl ?_
  refine go_iconst (v := 0) dX12_turn_1 rfl ?_
  refine go_put dX12_turn_2 fp_X12_83_12 (Or.inr (fun _ _ _ h => by cases h; rfl)) mo_obj hq (by omega) (rfl) rfl (Nat.le_of_ble_eq_true rfl) ?_
  refine go_mem (mo_setO (F' := (upd F 16 (0))) (K' := K) rfl) ?_
  refine go_iload_n dX12_turn_5 rfl ?_
  refine go_i2l dX12_turn_6 ?_
  refine go_lconst (v := 0) dX12_turn_7 rfl ?_
  refine go_lconst (v := 1) dX12_turn_8 rfl ?_
  refine go_Sr [.long (what).toInt64, .long 0, .long 1] [] dX12_turn_9 sl_X12_90 ⟨by decide, by decide⟩ (e_X12_lies) rfl rfl (Nat.le_of_ble_eq_true rfl) (Nat.le_of_ble_eq_true rfl) (Nat.le_of_ble_eq_true rfl) ?_
  refine go_tp (z := if okr what 0 1 then 1 else 0) (ite_c (li_okr rfl rfl)) ?_
  refine go_if_ne dX12_turn_12 (fun c12 => ?_) (fun c12 => ?_)
  · have c12 := bz_t c12
    refine go_bipush (v := (-4)) dX12_turn_17 rfl ?_
    refine go_istore_n (ls' := [some (.ref q), some (.int what), some (.int (-4)), none, none]) dX12_turn_19 ⟨by decide, rfl, rfl⟩ ?_
    refine go_iconst (v := 0) dX12_turn_20 rfl ?_
    refine go_istore_n (ls' := [some (.ref q), some (.int what), some (.int (-4)), some (.int 0), none]) dX12_turn_21 ⟨by decide, rfl, rfl⟩ ?_
    have lp0 : ∀ (μ_lp0 : Nat) (i : Nat) (x : Int32) (hi : i ≤ N) (hmi : N + 1 ≤ i + μ_lp0) (hx : x = tuB A what i) (hxx : x < 0 ∨ ∃ b, b < N ∧ x = nI b ∧ ¬ A 4 b = 9), Go G mX12_turn 3 0 0 Q9 0 0 22 [some (.ref q), some (.int what), some (.int x), some (.int (nI i)), none] [] (mo G m0 q (upd F 16 (0)) A L K) n := by
      intro μ_lp0
      induction μ_lp0 with
      | zero =>
        intro i x hi hmi hx hxx
        exact absurd hmi (by omega)
      | succ μ_lp0 ih_lp0 =>
        intro i x hi hmi hx hxx
        refine go_iload_n dX12_turn_22 rfl ?_
        refine go_aload_n dX12_turn_23 rfl ?_
        refine go_get dX12_turn_24 fl_X12_87_12 mo_obj hq (by omega) rfl ?_
        refine go_tp (z := nI N) (hN) ?_
        refine go_icmp_ge dX12_turn_27 (fun c27 => ?_) (fun c27 => ?_)
        · have c27n := (nI_leI (a := N) (b := i) (by omega) (by omega)).mp c27
          have c27n := Nat.not_lt.mpr c27n
          have c27 := Int32.not_lt.mpr c27
          refine go_iload_n dX12_turn_107 rfl ?_
          exact go_iret dX12_turn_108 rfl (Nat.le_of_ble_eq_true rfl) (Nat.le_of_ble_eq_true rfl) (hQ9 ▸ ⟨rd_i (by unfold turS; rw [if_pos c12, hx, show i = N by omega]), rfl, rfl⟩)
        · have c27n := mt (nI_leI (a := N) (b := i) (by omega) (by omega)).mpr c27
          have c27n := Nat.lt_of_not_le c27n
          have c27 := Int32.not_le.mp c27
          refine go_aload_n dX12_turn_30 rfl ?_
          refine go_get dX12_turn_31 fl_X12_19_12 mo_obj hq (by omega) rfl ?_
          refine go_iload_n dX12_turn_34 rfl ?_
          refine go_iald dX12_turn_35 (mo_arr 4 (by decide)) (by omega) (by omega) (vp_in_nI (n := i) (by show i < 8; omega) (by decide)) ?_
          refine go_tp (z := A 4 i) (by rw [nI_clamp (by omega)]) ?_
          refine go_bipush (v := 9) dX12_turn_36 rfl ?_
          refine go_icmp_eq dX12_turn_38 (fun c38 => ?_) (fun c38 => ?_)
          · refine go_iinc (v := nI (i + 1)) (ls' := [some (.ref q), some (.int what), some (.int x), some (.int (nI (i + 1))), none]) dX12_turn_101 rfl (nI_1 (i)) ⟨by decide, rfl, rfl⟩ ?_
            refine go_goto dX12_turn_104 ?_
            exact ih_lp0 (i + 1) _ (by omega) (by omega) (by unfold tuB; rw [← hx]; simp [trN, c38]) (hxx)
          · obtain ⟨l38, hl38, el38⟩ := (hI i (by omega)).resolve_left c38
            refine go_iload_n dX12_turn_41 rfl ?_
            refine go_if_ge dX12_turn_42 (fun c42 => ?_) (fun c42 => ?_)
            · have c42 := Int32.not_lt.mpr c42
              obtain ⟨b, hb1, rfl, hb3⟩ := hxx.resolve_left c42
              have kb := nI_clamp (n := b) (by omega)
              obtain ⟨lb, hlb, elb⟩ := (hI b hb1).resolve_left hb3
              have klb : (A 4 b).toNatClampNeg = lb := by rw [elb]; exact nI_clamp (by omega)
              have kl38 : (A 4 i).toNatClampNeg = l38 := by rw [el38]; exact nI_clamp (by omega)
              refine go_aload_n dX12_turn_49 rfl ?_
              refine go_iload_n dX12_turn_50 rfl ?_
              refine go_aload_n dX12_turn_51 rfl ?_
              refine go_get dX12_turn_52 fl_X12_19_12 mo_obj hq (by omega) rfl ?_
              refine go_iload_n dX12_turn_55 rfl ?_
              refine go_iald dX12_turn_56 (mo_arr 4 (by decide)) (by omega) (by omega) (vp_in_nI (n := i) (by show i < 8; omega) (by decide)) ?_
              refine go_tp (z := A 4 i) (by rw [nI_clamp (by omega)]) ?_
              refine go_tp (z := nI l38) (el38) ?_
              refine go_Vr [.int (nI i), .int (nI l38)] [] dX12_turn_57 vl_X12_114 ⟨by decide, by decide⟩ (e_X12_troubleOf (F := (upd F 16 (0))) (A := A) (L := L) (K := K) hq hn (by omega) (by omega)) mo_obj hq (by omega) rfl rfl (Nat.le_of_ble_eq_true rfl) (Nat.le_of_ble_eq_true rfl) (Nat.le_of_ble_eq_true rfl) ?_
              refine go_tp (z := trS A i l38) (rfl) ?_
              refine go_aload_n dX12_turn_60 rfl ?_
              refine go_iload_n dX12_turn_61 rfl ?_
              refine go_aload_n dX12_turn_62 rfl ?_
              refine go_get dX12_turn_63 fl_X12_19_12 mo_obj hq (by omega) rfl ?_
              refine go_iload_n dX12_turn_66 rfl ?_
              refine go_iald dX12_turn_67 (mo_arr 4 (by decide)) (by omega) (by omega) (vp_in_nI (n := b) (by show b < 8; omega) (by decide)) ?_
              refine go_tp (z := A 4 b) (by rw [nI_clamp (by omega)]) ?_
              refine go_tp (z := nI lb) (elb) ?_
              refine go_Vr [.int (nI b), .int (nI lb)] [.int (trS A i l38)] dX12_turn_68 vl_X12_114 ⟨by decide, by decide⟩ (e_X12_troubleOf (F := (upd F 16 (0))) (A := A) (L := L) (K := K) hq hn (by omega) (by omega)) mo_obj hq (by omega) rfl rfl (Nat.le_of_ble_eq_true rfl) (Nat.le_of_ble_eq_true rfl) (Nat.le_of_ble_eq_true rfl) ?_
              refine go_tp (z := trS A b lb) (rfl) ?_
              refine go_isub dX12_turn_71 ?_
              refine go_istore (ls' := [some (.ref q), some (.int what), some (.int (nI b)), some (.int (nI i)), some (.int ((trS A i l38) - (trS A b lb)))]) dX12_turn_72 ⟨by decide, rfl, rfl⟩ ?_
              refine go_iload_n dX12_turn_74 rfl ?_
              refine go_if_lt dX12_turn_75 (fun c75 => ?_) (fun c75 => ?_)
              · have c75n := (n0_lt (a := b) (by omega)).mp c75
                first | exact absurd c75n (by decide) | exact absurd (by decide) c75n | exact absurd rfl c75n | omega
              · have c75n := mt (n0_lt (a := b) (by omega)).mpr c75
                refine go_iload_n dX12_turn_78 rfl ?_
                refine go_if_ne dX12_turn_79 (fun c79 => ?_) (fun c79 => ?_)
                · refine go_iload dX12_turn_90 rfl ?_
                  refine go_if_le dX12_turn_92 (fun c92 => ?_) (fun c92 => ?_)
                  · have c92 := Int32.not_lt.mpr c92
                    refine go_iload_n dX12_turn_99 rfl ?_
                    refine go_istore_n (ls' := [some (.ref q), some (.int what), some (.int (nI b)), some (.int (nI i)), some (.int ((trS A i l38) - (trS A b lb)))]) dX12_turn_100 ⟨by decide, rfl, rfl⟩ ?_
                    refine go_iinc (v := nI (i + 1)) (ls' := [some (.ref q), some (.int what), some (.int (nI b)), some (.int (nI (i + 1))), some (.int ((trS A i l38) - (trS A b lb)))]) dX12_turn_101 rfl (nI_1 (i)) ⟨by decide, rfl, rfl⟩ ?_
                    refine go_goto dX12_turn_104 ?_
                    refine go_weak (ls' := [some (.ref q), some (.int what), some (.int (nI b)), some (.int (nI (i + 1))), none]) ⟨rfl, rfl, rfl, rfl, trivial⟩ ?_
                    exact ih_lp0 (i + 1) _ (by omega) (by omega) (by unfold tuB; rw [← hx]; simp [trN, kb, klb, kl38, c38, c42, c79, c92]) (Or.inr ⟨b, hb1, rfl, hb3⟩)
                  · have c92 := Int32.not_le.mp c92
                    refine go_iload_n dX12_turn_95 rfl ?_
                    refine go_goto dX12_turn_96 ?_
                    refine go_istore_n (ls' := [some (.ref q), some (.int what), some (.int (nI i)), some (.int (nI i)), some (.int ((trS A i l38) - (trS A b lb)))]) dX12_turn_100 ⟨by decide, rfl, rfl⟩ ?_
                    refine go_iinc (v := nI (i + 1)) (ls' := [some (.ref q), some (.int what), some (.int (nI i)), some (.int (nI (i + 1))), some (.int ((trS A i l38) - (trS A b lb)))]) dX12_turn_101 rfl (nI_1 (i)) ⟨by decide, rfl, rfl⟩ ?_
                    refine go_goto dX12_turn_104 ?_
                    refine go_weak (ls' := [some (.ref q), some (.int what), some (.int (nI i)), some (.int (nI (i + 1))), none]) ⟨rfl, rfl, rfl, rfl, trivial⟩ ?_
                    exact ih_lp0 (i + 1) _ (by omega) (by omega) (by unfold tuB; rw [← hx]; simp [trN, kb, klb, kl38, c38, c42, c79, c92]) (Or.inr ⟨i, by omega, rfl, c38⟩)
                · subst c79
                  refine go_iload dX12_turn_82 rfl ?_
                  refine go_if_ge dX12_turn_84 (fun c84 => ?_) (fun c84 => ?_)
                  · have c84 := Int32.not_lt.mpr c84
                    refine go_iload_n dX12_turn_99 rfl ?_
                    refine go_istore_n (ls' := [some (.ref q), some (.int 0), some (.int (nI b)), some (.int (nI i)), some (.int ((trS A i l38) - (trS A b lb)))]) dX12_turn_100 ⟨by decide, rfl, rfl⟩ ?_
                    refine go_iinc (v := nI (i + 1)) (ls' := [some (.ref q), some (.int 0), some (.int (nI b)), some (.int (nI (i + 1))), some (.int ((trS A i l38) - (trS A b lb)))]) dX12_turn_101 rfl (nI_1 (i)) ⟨by decide, rfl, rfl⟩ ?_
                    refine go_goto dX12_turn_104 ?_
                    refine go_weak (ls' := [some (.ref q), some (.int 0), some (.int (nI b)), some (.int (nI (i + 1))), none]) ⟨rfl, rfl, rfl, rfl, trivial⟩ ?_
                    exact ih_lp0 (i + 1) _ (by omega) (by omega) (by unfold tuB; rw [← hx]; simp [trN, kb, klb, kl38, c38, c42, c84]) (Or.inr ⟨b, hb1, rfl, hb3⟩)
                  · have c84 := Int32.not_le.mp c84
                    refine go_goto dX12_turn_87 ?_
                    refine go_iload_n dX12_turn_95 rfl ?_
                    refine go_goto dX12_turn_96 ?_
                    refine go_istore_n (ls' := [some (.ref q), some (.int 0), some (.int (nI i)), some (.int (nI i)), some (.int ((trS A i l38) - (trS A b lb)))]) dX12_turn_100 ⟨by decide, rfl, rfl⟩ ?_
                    refine go_iinc (v := nI (i + 1)) (ls' := [some (.ref q), some (.int 0), some (.int (nI i)), some (.int (nI (i + 1))), some (.int ((trS A i l38) - (trS A b lb)))]) dX12_turn_101 rfl (nI_1 (i)) ⟨by decide, rfl, rfl⟩ ?_
                    refine go_goto dX12_turn_104 ?_
                    refine go_weak (ls' := [some (.ref q), some (.int 0), some (.int (nI i)), some (.int (nI (i + 1))), none]) ⟨rfl, rfl, rfl, rfl, trivial⟩ ?_
                    exact ih_lp0 (i + 1) _ (by omega) (by omega) (by unfold tuB; rw [← hx]; simp [trN, kb, klb, kl38, c38, c42, c84]) (Or.inr ⟨i, by omega, rfl, c38⟩)
            · have c42 := Int32.not_le.mp c42
              refine go_iconst (v := 0) dX12_turn_45 rfl ?_
              refine go_goto dX12_turn_46 ?_
              refine go_istore (ls' := [some (.ref q), some (.int what), some (.int x), some (.int (nI i)), some (.int 0)]) dX12_turn_72 ⟨by decide, rfl, rfl⟩ ?_
              refine go_iload_n dX12_turn_74 rfl ?_
              refine go_if_lt dX12_turn_75 (fun c75 => ?_) (fun c75 => ?_)
              · refine go_iload_n dX12_turn_95 rfl ?_
                refine go_goto dX12_turn_96 ?_
                refine go_istore_n (ls' := [some (.ref q), some (.int what), some (.int (nI i)), some (.int (nI i)), some (.int 0)]) dX12_turn_100 ⟨by decide, rfl, rfl⟩ ?_
                refine go_iinc (v := nI (i + 1)) (ls' := [some (.ref q), some (.int what), some (.int (nI i)), some (.int (nI (i + 1))), some (.int 0)]) dX12_turn_101 rfl (nI_1 (i)) ⟨by decide, rfl, rfl⟩ ?_
                refine go_goto dX12_turn_104 ?_
                refine go_weak (ls' := [some (.ref q), some (.int what), some (.int (nI i)), some (.int (nI (i + 1))), none]) ⟨rfl, rfl, rfl, rfl, trivial⟩ ?_
                exact ih_lp0 (i + 1) _ (by omega) (by omega) (by unfold tuB; rw [← hx]; simp [trN, c38, c42]) (Or.inr ⟨i, by omega, rfl, c38⟩)
              · exact absurd c42 c75
    exact lp0 (N + 1) 0 _ (Nat.zero_le _) (by omega) rfl (Or.inl (by decide))
  · have c12 := bz_f c12
    refine go_iconst (v := (-1)) dX12_turn_15 rfl ?_
    exact go_iret dX12_turn_16 rfl (Nat.le_of_ble_eq_true rfl) (Nat.le_of_ble_eq_true rfl) (hQ9 ▸ ⟨rd_i (by unfold turS; rw [if_neg c12]), rfl, rfl⟩)
set_option maxHeartbeats 4000000 in
set_option maxRecDepth 100000 in
theorem e_X12_dent (hq : G.2.1 ≤ q) (hn : q + 25 ≤ n) (hN : F 0 = nI N) (hN8 : N ≤ 8) (hM5 : M ≤ 5) (hI : insOK N M (A 4)) {p v law : Int32} : Ev G mX12_dent 3 0 0 [.ref q, .int p, .int v, .int law] (mo G m0 q F A L K) n (fun r f1 n1 => r = some (.int (denS N A p v law)) ∧ f1 = (mo G m0 q (upd F 16 (0)) A L K) ∧ n1 = n) := by
  generalize hQ9 : (fun r f1 n1 => r = some (.int (denS N A p v law)) ∧ f1 = (mo G m0 q (upd F 16 (0)) A L K) ∧ n1 = n : RQ) = Q9
  refine ev_of (by decide) (Nat.le_of_ble_eq_true rfl) (ls := [some (.ref q), some (.int p), some (.int v), some (.int law), none, none, none, none, none, none]) rfl (fun hb => ?_)
  refine go_aload_n dX12_dent_0 rfl ?_
  refine go_iconst (v := 0) dX12_dent_1 rfl ?_
  refine go_put dX12_dent_2 fp_X12_83_12 (Or.inr (fun _ _ _ h => by cases h; rfl)) mo_obj hq (by omega) (rfl) rfl (Nat.le_of_ble_eq_true rfl) ?_
  refine go_mem (mo_setO (F' := (upd F 16 (0))) (K' := K) rfl) ?_
  refine go_aload_n dX12_dent_5 rfl ?_
  refine go_iload_n dX12_dent_6 rfl ?_
  refine go_Vr [.int p] [] dX12_dent_7 vl_X12_165 ⟨by decide, by decide⟩ (e_X12_isPupil (F := (upd F 16 (0))) (A := A) (L := L) (K := K) hq hn hN hN8) mo_obj hq (by omega) rfl rfl (Nat.le_of_ble_eq_true rfl) (Nat.le_of_ble_eq_true rfl) (Nat.le_of_ble_eq_true rfl) ?_
  refine go_if_eq dX12_dent_10 (fun c10 => ?_) (fun c10 => ?_)
  · have c10 := bz_f c10
    refine go_iconst (v := (-1)) dX12_dent_37 rfl ?_
    exact go_iret dX12_dent_38 rfl (Nat.le_of_ble_eq_true rfl) (Nat.le_of_ble_eq_true rfl) (hQ9 ▸ ⟨rd_i (a := (-1)) (by simp [denS, denV, byS, cutS, lowS, c10]), rfl, rfl⟩)
  · have c10 := bz_t c10
    obtain ⟨jp, hjp, rfl⟩ := okp_nI c10 (by omega)
    have kjp : (nI jp).toNatClampNeg = jp := nI_clamp (by omega)
    refine go_iload_n dX12_dent_13 rfl ?_
    refine go_i2l dX12_dent_14 ?_
    refine go_lconst (v := 0) dX12_dent_15 rfl ?_
    refine go_ldc2 (v := 999) dX12_dent_16 wm_1545 ?_
    refine go_Sr [.long (v).toInt64, .long 0, .long 999] [] dX12_dent_19 sl_X12_90 ⟨by decide, by decide⟩ (e_X12_lies) rfl rfl (Nat.le_of_ble_eq_true rfl) (Nat.le_of_ble_eq_true rfl) (Nat.le_of_ble_eq_true rfl) ?_
    refine go_tp (z := if okr v 0 999 then 1 else 0) (ite_c (li_okr rfl rfl)) ?_
    refine go_if_eq dX12_dent_22 (fun c22 => ?_) (fun c22 => ?_)
    · have c22 := bz_f c22
      refine go_iconst (v := (-1)) dX12_dent_37 rfl ?_
      exact go_iret dX12_dent_38 rfl (Nat.le_of_ble_eq_true rfl) (Nat.le_of_ble_eq_true rfl) (hQ9 ▸ ⟨rd_i (a := (-1)) (by simp [denS, denV, byS, cutS, lowS, c10, kjp, c22]), rfl, rfl⟩)
    · have c22 := bz_t c22
      refine go_iload_n dX12_dent_25 rfl ?_
      refine go_i2l dX12_dent_26 ?_
      refine go_lconst (v := 0) dX12_dent_27 rfl ?_
      refine go_ldc2 (v := 2) dX12_dent_28 wm_1534 ?_
      refine go_Sr [.long (law).toInt64, .long 0, .long 2] [] dX12_dent_31 sl_X12_90 ⟨by decide, by decide⟩ (e_X12_lies) rfl rfl (Nat.le_of_ble_eq_true rfl) (Nat.le_of_ble_eq_true rfl) (Nat.le_of_ble_eq_true rfl) ?_
      refine go_tp (z := if okr law 0 2 then 1 else 0) (ite_c (li_okr rfl rfl)) ?_
      refine go_if_ne dX12_dent_34 (fun c34 => ?_) (fun c34 => ?_)
      · have c34 := bz_t c34
        refine go_aload_n dX12_dent_39 rfl ?_
        refine go_get dX12_dent_40 fl_X12_19_12 mo_obj hq (by omega) rfl ?_
        refine go_iload_n dX12_dent_43 rfl ?_
        refine go_iald dX12_dent_44 (mo_arr 4 (by decide)) (by omega) (by omega) (vp_in_nI (n := jp) (by show jp < 8; omega) (by decide)) ?_
        refine go_tp (z := A 4 jp) (by rw [nI_clamp (by omega)]) ?_
        refine go_bipush (v := 9) dX12_dent_45 rfl ?_
        refine go_icmp_ne dX12_dent_47 (fun c47 => ?_) (fun c47 => ?_)
        · obtain ⟨l47, hl47, el47⟩ := (hI jp (by omega)).resolve_left c47
          refine go_aload_n dX12_dent_53 rfl ?_
          refine go_iload_n dX12_dent_54 rfl ?_
          refine go_Vr [.int (nI jp)] [] dX12_dent_55 vl_X12_111 ⟨by decide, by decide⟩ (e_X12_mateOf (F := (upd F 16 (0))) (A := A) (L := L) (K := K) hq hn hN hN8 (by omega)) mo_obj hq (by omega) rfl rfl (Nat.le_of_ble_eq_true rfl) (Nat.le_of_ble_eq_true rfl) (Nat.le_of_ble_eq_true rfl) ?_
          refine go_istore (ls' := [some (.ref q), some (.int (nI jp)), some (.int v), some (.int law), some (.int (mateS N (A 4) jp)), none, none, none, none, none]) dX12_dent_58 ⟨by decide, rfl, rfl⟩ ?_
          refine go_iload dX12_dent_60 rfl ?_
          refine go_if_ge dX12_dent_62 (fun c62 => ?_) (fun c62 => ?_)
          · have c62 := Int32.not_lt.mpr c62
            obtain ⟨o62, ho62, hno62, eo62⟩ := mateS_nI hN8 c62
            refine go_ls (ls' := [some (.ref q), some (.int (nI jp)), some (.int v), some (.int law), some (.int (nI o62)), none, none, none, none, none]) (by rw [eo62]) ?_
            have ko62 : (mateS N (A 4) jp).toNatClampNeg = o62 := by rw [eo62]; exact nI_clamp (by omega)
            refine go_iload_n dX12_dent_67 rfl ?_
            refine go_iload dX12_dent_68 rfl ?_
            refine go_icmp_ge dX12_dent_70 (fun c70 => ?_) (fun c70 => ?_)
            · have c70n := (nI_leI (a := o62) (b := jp) (by omega) (by omega)).mp c70
              have c70n := Nat.not_lt.mpr c70n
              have c70 := Int32.not_lt.mpr c70
              refine go_iload dX12_dent_77 rfl ?_
              refine go_istore (ls' := [some (.ref q), some (.int (nI jp)), some (.int v), some (.int law), some (.int (nI o62)), some (.int (nI o62)), none, none, none, none]) dX12_dent_79 ⟨by decide, rfl, rfl⟩ ?_
              refine go_iload_n dX12_dent_81 rfl ?_
              refine go_aload_n dX12_dent_82 rfl ?_
              refine go_iload dX12_dent_83 rfl ?_
              refine go_Vr [.int (nI o62)] [.int v] dX12_dent_85 vl_X12_212 ⟨by decide, by decide⟩ (e_X12_roomOf (F := (upd F 16 (0))) (A := A) (L := L) (K := K) hq hn (by omega)) mo_obj hq (by omega) rfl rfl (Nat.le_of_ble_eq_true rfl) (Nat.le_of_ble_eq_true rfl) (Nat.le_of_ble_eq_true rfl) ?_
              refine go_imul dX12_dent_88 ?_
              refine go_aload_n dX12_dent_89 rfl ?_
              refine go_iload_n dX12_dent_90 rfl ?_
              refine go_Vr [.int (nI jp)] [.int (v * (roomS (A 1 o62)))] dX12_dent_91 vl_X12_212 ⟨by decide, by decide⟩ (e_X12_roomOf (F := (upd F 16 (0))) (A := A) (L := L) (K := K) hq hn (by omega)) mo_obj hq (by omega) rfl rfl (Nat.le_of_ble_eq_true rfl) (Nat.le_of_ble_eq_true rfl) (Nat.le_of_ble_eq_true rfl) ?_
              refine go_aload_n dX12_dent_94 rfl ?_
              refine go_iload dX12_dent_95 rfl ?_
              refine go_Vr [.int (nI o62)] [.int (roomS (A 1 jp)), .int (v * (roomS (A 1 o62)))] dX12_dent_97 vl_X12_212 ⟨by decide, by decide⟩ (e_X12_roomOf (F := (upd F 16 (0))) (A := A) (L := L) (K := K) hq hn (by omega)) mo_obj hq (by omega) rfl rfl (Nat.le_of_ble_eq_true rfl) (Nat.le_of_ble_eq_true rfl) (Nat.le_of_ble_eq_true rfl) ?_
              refine go_iadd dX12_dent_100 ?_
              refine go_idiv dX12_dent_101 (room_nz _ _) ?_
              refine go_istore (ls' := [some (.ref q), some (.int (nI jp)), some (.int v), some (.int law), some (.int (nI o62)), some (.int (nI o62)), some (.int ((v * (roomS (A 1 o62))) / ((roomS (A 1 jp)) + (roomS (A 1 o62))))), none, none, none]) dX12_dent_102 ⟨by decide, rfl, rfl⟩ ?_
              refine go_aload_n dX12_dent_104 rfl ?_
              refine go_iload_n dX12_dent_105 rfl ?_
              refine go_iload dX12_dent_106 rfl ?_
              refine go_Vr [.int (nI jp), .int (nI o62)] [] dX12_dent_108 vl_X12_108 ⟨by decide, by decide⟩ (e_X12_bearsOf (F := (upd F 16 (0))) (A := A) (L := L) (K := K) hq hn (by omega) (by omega)) mo_obj hq (by omega) rfl rfl (Nat.le_of_ble_eq_true rfl) (Nat.le_of_ble_eq_true rfl) (Nat.le_of_ble_eq_true rfl) ?_
              refine go_tp (z := brS A jp o62) (rfl) ?_
              refine go_istore (ls' := [some (.ref q), some (.int (nI jp)), some (.int v), some (.int law), some (.int (nI o62)), some (.int (nI o62)), some (.int ((v * (roomS (A 1 o62))) / ((roomS (A 1 jp)) + (roomS (A 1 o62))))), some (.int (brS A jp o62)), none, none]) dX12_dent_111 ⟨by decide, rfl, rfl⟩ ?_
              refine go_aload_n dX12_dent_113 rfl ?_
              refine go_iload dX12_dent_114 rfl ?_
              refine go_iload_n dX12_dent_116 rfl ?_
              refine go_Vr [.int (nI o62), .int (nI jp)] [] dX12_dent_117 vl_X12_108 ⟨by decide, by decide⟩ (e_X12_bearsOf (F := (upd F 16 (0))) (A := A) (L := L) (K := K) hq hn (by omega) (by omega)) mo_obj hq (by omega) rfl rfl (Nat.le_of_ble_eq_true rfl) (Nat.le_of_ble_eq_true rfl) (Nat.le_of_ble_eq_true rfl) ?_
              refine go_tp (z := brS A o62 jp) (rfl) ?_
              refine go_istore (ls' := [some (.ref q), some (.int (nI jp)), some (.int v), some (.int law), some (.int (nI o62)), some (.int (nI o62)), some (.int ((v * (roomS (A 1 o62))) / ((roomS (A 1 jp)) + (roomS (A 1 o62))))), some (.int (brS A jp o62)), some (.int (brS A o62 jp)), none]) dX12_dent_120 ⟨by decide, rfl, rfl⟩ ?_
              refine go_iload dX12_dent_122 rfl ?_
              refine go_iload dX12_dent_124 rfl ?_
              refine go_icmp_ge dX12_dent_126 (fun c126 => ?_) (fun c126 => ?_)
              · have c126 := Int32.not_lt.mpr c126
                refine go_iload dX12_dent_133 rfl ?_
                refine go_iload dX12_dent_135 rfl ?_
                refine go_icmp_le dX12_dent_137 (fun c137 => ?_) (fun c137 => ?_)
                · have c137 := Int32.not_lt.mpr c137
                  refine go_aload_n dX12_dent_144 rfl ?_
                  refine go_iload_n dX12_dent_145 rfl ?_
                  refine go_iload dX12_dent_146 rfl ?_
                  refine go_iload_n dX12_dent_148 rfl ?_
                  refine go_Vr [.int (nI jp), .int (nI o62), .int v] [] dX12_dent_149 vl_X12_329 ⟨by decide, by decide⟩ (e_X12_halfOf (F := (upd F 16 (0))) (A := A) (L := L) (K := K) ) mo_obj hq (by omega) rfl rfl (Nat.le_of_ble_eq_true rfl) (Nat.le_of_ble_eq_true rfl) (Nat.le_of_ble_eq_true rfl) ?_
                  refine go_istore (ls' := [some (.ref q), some (.int (nI jp)), some (.int v), some (.int law), some (.int (nI o62)), some (.int (nI o62)), some (.int ((v * (roomS (A 1 o62))) / ((roomS (A 1 jp)) + (roomS (A 1 o62))))), some (.int (brS A jp o62)), some (.int (brS A o62 jp)), some (.int (hfS (nI jp) (nI o62) (v)))]) dX12_dent_152 ⟨by decide, rfl, rfl⟩ ?_
                  refine go_iload_n dX12_dent_154 rfl ?_
                  refine go_if_ne dX12_dent_155 (fun c155 => ?_) (fun c155 => ?_)
                  · refine go_iload_n dX12_dent_169 rfl ?_
                    refine go_iconst (v := 1) dX12_dent_170 rfl ?_
                    refine go_icmp_ne dX12_dent_171 (fun c171 => ?_) (fun c171 => ?_)
                    · refine go_iload dX12_dent_192 rfl ?_
                      exact go_iret dX12_dent_194 rfl (Nat.le_of_ble_eq_true rfl) (Nat.le_of_ble_eq_true rfl) (hQ9 ▸ ⟨rd_i (a := hfS (nI jp) (nI o62) (v)) (by simp [denS, denV, byS, cutS, lowS, c10, kjp, c22, c34, c47, c62, ko62, c70, c70n, c126, c137, c155, c171]), rfl, rfl⟩)
                    · subst c171
                      refine go_iload_n dX12_dent_174 rfl ?_
                      refine go_iload dX12_dent_175 rfl ?_
                      refine go_icmp_ne dX12_dent_177 (fun c177 => ?_) (fun c177 => ?_)
                      · have c177n := mt (nI_eq (a := jp) (b := o62) (by omega) (by omega)).mpr c177
                        refine go_iload_n dX12_dent_185 rfl ?_
                        refine go_iload dX12_dent_186 rfl ?_
                        refine go_isub dX12_dent_188 ?_
                        refine go_goto dX12_dent_189 ?_
                        exact go_iret dX12_dent_194 rfl (Nat.le_of_ble_eq_true rfl) (Nat.le_of_ble_eq_true rfl) (hQ9 ▸ ⟨rd_i (a := v - ((v * (roomS (A 1 o62))) / ((roomS (A 1 jp)) + (roomS (A 1 o62))))) (by simp [denS, denV, byS, cutS, lowS, c10, kjp, c22, c34, c47, c62, ko62, c70, c70n, c126, c137, c155, c177, c177n]), rfl, rfl⟩)
                      · have c177n := (nI_eq (a := jp) (b := o62) (by omega) (by omega)).mp c177
                        exact absurd c177n.symm hno62
                  · subst c155
                    refine go_aload_n dX12_dent_158 rfl ?_
                    refine go_iload_n dX12_dent_159 rfl ?_
                    refine go_iload dX12_dent_160 rfl ?_
                    refine go_iload_n dX12_dent_162 rfl ?_
                    refine go_Vr [.int (nI jp), .int (nI o62), .int v] [] dX12_dent_163 vl_X12_329 ⟨by decide, by decide⟩ (e_X12_halfOf (F := (upd F 16 (0))) (A := A) (L := L) (K := K) ) mo_obj hq (by omega) rfl rfl (Nat.le_of_ble_eq_true rfl) (Nat.le_of_ble_eq_true rfl) (Nat.le_of_ble_eq_true rfl) ?_
                    refine go_goto dX12_dent_166 ?_
                    exact go_iret dX12_dent_194 rfl (Nat.le_of_ble_eq_true rfl) (Nat.le_of_ble_eq_true rfl) (hQ9 ▸ ⟨rd_i (a := hfS (nI jp) (nI o62) (v)) (by simp [denS, denV, byS, cutS, lowS, c10, kjp, c22, c34, c47, c62, ko62, c70, c70n, c126, c137]), rfl, rfl⟩)
                · have c137 := Int32.not_le.mp c137
                  refine go_iconst (v := 0) dX12_dent_140 rfl ?_
                  refine go_goto dX12_dent_141 ?_
                  refine go_istore (ls' := [some (.ref q), some (.int (nI jp)), some (.int v), some (.int law), some (.int (nI o62)), some (.int (nI o62)), some (.int ((v * (roomS (A 1 o62))) / ((roomS (A 1 jp)) + (roomS (A 1 o62))))), some (.int (brS A jp o62)), some (.int (brS A o62 jp)), some (.int 0)]) dX12_dent_152 ⟨by decide, rfl, rfl⟩ ?_
                  refine go_iload_n dX12_dent_154 rfl ?_
                  refine go_if_ne dX12_dent_155 (fun c155 => ?_) (fun c155 => ?_)
                  · refine go_iload_n dX12_dent_169 rfl ?_
                    refine go_iconst (v := 1) dX12_dent_170 rfl ?_
                    refine go_icmp_ne dX12_dent_171 (fun c171 => ?_) (fun c171 => ?_)
                    · refine go_iload dX12_dent_192 rfl ?_
                      exact go_iret dX12_dent_194 rfl (Nat.le_of_ble_eq_true rfl) (Nat.le_of_ble_eq_true rfl) (hQ9 ▸ ⟨rd_i (a := 0) (by simp [denS, denV, byS, cutS, lowS, c10, kjp, c22, c34, c47, c62, ko62, c70, c70n, c126, c137, c155, c171]), rfl, rfl⟩)
                    · subst c171
                      refine go_iload_n dX12_dent_174 rfl ?_
                      refine go_iload dX12_dent_175 rfl ?_
                      refine go_icmp_ne dX12_dent_177 (fun c177 => ?_) (fun c177 => ?_)
                      · have c177n := mt (nI_eq (a := jp) (b := o62) (by omega) (by omega)).mpr c177
                        refine go_iload_n dX12_dent_185 rfl ?_
                        refine go_iload dX12_dent_186 rfl ?_
                        refine go_isub dX12_dent_188 ?_
                        refine go_goto dX12_dent_189 ?_
                        exact go_iret dX12_dent_194 rfl (Nat.le_of_ble_eq_true rfl) (Nat.le_of_ble_eq_true rfl) (hQ9 ▸ ⟨rd_i (a := v - ((v * (roomS (A 1 o62))) / ((roomS (A 1 jp)) + (roomS (A 1 o62))))) (by simp [denS, denV, byS, cutS, lowS, c10, kjp, c22, c34, c47, c62, ko62, c70, c70n, c126, c137, c155, c177, c177n]), rfl, rfl⟩)
                      · have c177n := (nI_eq (a := jp) (b := o62) (by omega) (by omega)).mp c177
                        exact absurd c177n.symm hno62
                  · subst c155
                    refine go_aload_n dX12_dent_158 rfl ?_
                    refine go_iload_n dX12_dent_159 rfl ?_
                    refine go_iload dX12_dent_160 rfl ?_
                    refine go_iload_n dX12_dent_162 rfl ?_
                    refine go_Vr [.int (nI jp), .int (nI o62), .int v] [] dX12_dent_163 vl_X12_329 ⟨by decide, by decide⟩ (e_X12_halfOf (F := (upd F 16 (0))) (A := A) (L := L) (K := K) ) mo_obj hq (by omega) rfl rfl (Nat.le_of_ble_eq_true rfl) (Nat.le_of_ble_eq_true rfl) (Nat.le_of_ble_eq_true rfl) ?_
                    refine go_goto dX12_dent_166 ?_
                    exact go_iret dX12_dent_194 rfl (Nat.le_of_ble_eq_true rfl) (Nat.le_of_ble_eq_true rfl) (hQ9 ▸ ⟨rd_i (a := hfS (nI jp) (nI o62) (v)) (by simp [denS, denV, byS, cutS, lowS, c10, kjp, c22, c34, c47, c62, ko62, c70, c70n, c126, c137]), rfl, rfl⟩)
              · have c126 := Int32.not_le.mp c126
                refine go_iload_n dX12_dent_129 rfl ?_
                refine go_goto dX12_dent_130 ?_
                refine go_istore (ls' := [some (.ref q), some (.int (nI jp)), some (.int v), some (.int law), some (.int (nI o62)), some (.int (nI o62)), some (.int ((v * (roomS (A 1 o62))) / ((roomS (A 1 jp)) + (roomS (A 1 o62))))), some (.int (brS A jp o62)), some (.int (brS A o62 jp)), some (.int v)]) dX12_dent_152 ⟨by decide, rfl, rfl⟩ ?_
                refine go_iload_n dX12_dent_154 rfl ?_
                refine go_if_ne dX12_dent_155 (fun c155 => ?_) (fun c155 => ?_)
                · refine go_iload_n dX12_dent_169 rfl ?_
                  refine go_iconst (v := 1) dX12_dent_170 rfl ?_
                  refine go_icmp_ne dX12_dent_171 (fun c171 => ?_) (fun c171 => ?_)
                  · refine go_iload dX12_dent_192 rfl ?_
                    exact go_iret dX12_dent_194 rfl (Nat.le_of_ble_eq_true rfl) (Nat.le_of_ble_eq_true rfl) (hQ9 ▸ ⟨rd_i (a := v) (by simp [denS, denV, byS, cutS, lowS, c10, kjp, c22, c34, c47, c62, ko62, c70, c70n, c126, c155, c171]), rfl, rfl⟩)
                  · subst c171
                    refine go_iload_n dX12_dent_174 rfl ?_
                    refine go_iload dX12_dent_175 rfl ?_
                    refine go_icmp_ne dX12_dent_177 (fun c177 => ?_) (fun c177 => ?_)
                    · have c177n := mt (nI_eq (a := jp) (b := o62) (by omega) (by omega)).mpr c177
                      refine go_iload_n dX12_dent_185 rfl ?_
                      refine go_iload dX12_dent_186 rfl ?_
                      refine go_isub dX12_dent_188 ?_
                      refine go_goto dX12_dent_189 ?_
                      exact go_iret dX12_dent_194 rfl (Nat.le_of_ble_eq_true rfl) (Nat.le_of_ble_eq_true rfl) (hQ9 ▸ ⟨rd_i (a := v - ((v * (roomS (A 1 o62))) / ((roomS (A 1 jp)) + (roomS (A 1 o62))))) (by simp [denS, denV, byS, cutS, lowS, c10, kjp, c22, c34, c47, c62, ko62, c70, c70n, c126, c155, c177, c177n]), rfl, rfl⟩)
                    · have c177n := (nI_eq (a := jp) (b := o62) (by omega) (by omega)).mp c177
                      exact absurd c177n.symm hno62
                · subst c155
                  refine go_aload_n dX12_dent_158 rfl ?_
                  refine go_iload_n dX12_dent_159 rfl ?_
                  refine go_iload dX12_dent_160 rfl ?_
                  refine go_iload_n dX12_dent_162 rfl ?_
                  refine go_Vr [.int (nI jp), .int (nI o62), .int v] [] dX12_dent_163 vl_X12_329 ⟨by decide, by decide⟩ (e_X12_halfOf (F := (upd F 16 (0))) (A := A) (L := L) (K := K) ) mo_obj hq (by omega) rfl rfl (Nat.le_of_ble_eq_true rfl) (Nat.le_of_ble_eq_true rfl) (Nat.le_of_ble_eq_true rfl) ?_
                  refine go_goto dX12_dent_166 ?_
                  exact go_iret dX12_dent_194 rfl (Nat.le_of_ble_eq_true rfl) (Nat.le_of_ble_eq_true rfl) (hQ9 ▸ ⟨rd_i (a := hfS (nI jp) (nI o62) (v)) (by simp [denS, denV, byS, cutS, lowS, c10, kjp, c22, c34, c47, c62, ko62, c70, c70n, c126]), rfl, rfl⟩)
            · have c70n := mt (nI_leI (a := o62) (b := jp) (by omega) (by omega)).mpr c70
              have c70n := Nat.lt_of_not_le c70n
              have c70 := Int32.not_le.mp c70
              refine go_iload_n dX12_dent_73 rfl ?_
              refine go_goto dX12_dent_74 ?_
              refine go_istore (ls' := [some (.ref q), some (.int (nI jp)), some (.int v), some (.int law), some (.int (nI o62)), some (.int (nI jp)), none, none, none, none]) dX12_dent_79 ⟨by decide, rfl, rfl⟩ ?_
              refine go_iload_n dX12_dent_81 rfl ?_
              refine go_aload_n dX12_dent_82 rfl ?_
              refine go_iload dX12_dent_83 rfl ?_
              refine go_Vr [.int (nI jp)] [.int v] dX12_dent_85 vl_X12_212 ⟨by decide, by decide⟩ (e_X12_roomOf (F := (upd F 16 (0))) (A := A) (L := L) (K := K) hq hn (by omega)) mo_obj hq (by omega) rfl rfl (Nat.le_of_ble_eq_true rfl) (Nat.le_of_ble_eq_true rfl) (Nat.le_of_ble_eq_true rfl) ?_
              refine go_imul dX12_dent_88 ?_
              refine go_aload_n dX12_dent_89 rfl ?_
              refine go_iload_n dX12_dent_90 rfl ?_
              refine go_Vr [.int (nI jp)] [.int (v * (roomS (A 1 jp)))] dX12_dent_91 vl_X12_212 ⟨by decide, by decide⟩ (e_X12_roomOf (F := (upd F 16 (0))) (A := A) (L := L) (K := K) hq hn (by omega)) mo_obj hq (by omega) rfl rfl (Nat.le_of_ble_eq_true rfl) (Nat.le_of_ble_eq_true rfl) (Nat.le_of_ble_eq_true rfl) ?_
              refine go_aload_n dX12_dent_94 rfl ?_
              refine go_iload dX12_dent_95 rfl ?_
              refine go_Vr [.int (nI o62)] [.int (roomS (A 1 jp)), .int (v * (roomS (A 1 jp)))] dX12_dent_97 vl_X12_212 ⟨by decide, by decide⟩ (e_X12_roomOf (F := (upd F 16 (0))) (A := A) (L := L) (K := K) hq hn (by omega)) mo_obj hq (by omega) rfl rfl (Nat.le_of_ble_eq_true rfl) (Nat.le_of_ble_eq_true rfl) (Nat.le_of_ble_eq_true rfl) ?_
              refine go_iadd dX12_dent_100 ?_
              refine go_idiv dX12_dent_101 (room_nz _ _) ?_
              refine go_istore (ls' := [some (.ref q), some (.int (nI jp)), some (.int v), some (.int law), some (.int (nI o62)), some (.int (nI jp)), some (.int ((v * (roomS (A 1 jp))) / ((roomS (A 1 jp)) + (roomS (A 1 o62))))), none, none, none]) dX12_dent_102 ⟨by decide, rfl, rfl⟩ ?_
              refine go_aload_n dX12_dent_104 rfl ?_
              refine go_iload_n dX12_dent_105 rfl ?_
              refine go_iload dX12_dent_106 rfl ?_
              refine go_Vr [.int (nI jp), .int (nI o62)] [] dX12_dent_108 vl_X12_108 ⟨by decide, by decide⟩ (e_X12_bearsOf (F := (upd F 16 (0))) (A := A) (L := L) (K := K) hq hn (by omega) (by omega)) mo_obj hq (by omega) rfl rfl (Nat.le_of_ble_eq_true rfl) (Nat.le_of_ble_eq_true rfl) (Nat.le_of_ble_eq_true rfl) ?_
              refine go_tp (z := brS A jp o62) (rfl) ?_
              refine go_istore (ls' := [some (.ref q), some (.int (nI jp)), some (.int v), some (.int law), some (.int (nI o62)), some (.int (nI jp)), some (.int ((v * (roomS (A 1 jp))) / ((roomS (A 1 jp)) + (roomS (A 1 o62))))), some (.int (brS A jp o62)), none, none]) dX12_dent_111 ⟨by decide, rfl, rfl⟩ ?_
              refine go_aload_n dX12_dent_113 rfl ?_
              refine go_iload dX12_dent_114 rfl ?_
              refine go_iload_n dX12_dent_116 rfl ?_
              refine go_Vr [.int (nI o62), .int (nI jp)] [] dX12_dent_117 vl_X12_108 ⟨by decide, by decide⟩ (e_X12_bearsOf (F := (upd F 16 (0))) (A := A) (L := L) (K := K) hq hn (by omega) (by omega)) mo_obj hq (by omega) rfl rfl (Nat.le_of_ble_eq_true rfl) (Nat.le_of_ble_eq_true rfl) (Nat.le_of_ble_eq_true rfl) ?_
              refine go_tp (z := brS A o62 jp) (rfl) ?_
              refine go_istore (ls' := [some (.ref q), some (.int (nI jp)), some (.int v), some (.int law), some (.int (nI o62)), some (.int (nI jp)), some (.int ((v * (roomS (A 1 jp))) / ((roomS (A 1 jp)) + (roomS (A 1 o62))))), some (.int (brS A jp o62)), some (.int (brS A o62 jp)), none]) dX12_dent_120 ⟨by decide, rfl, rfl⟩ ?_
              refine go_iload dX12_dent_122 rfl ?_
              refine go_iload dX12_dent_124 rfl ?_
              refine go_icmp_ge dX12_dent_126 (fun c126 => ?_) (fun c126 => ?_)
              · have c126 := Int32.not_lt.mpr c126
                refine go_iload dX12_dent_133 rfl ?_
                refine go_iload dX12_dent_135 rfl ?_
                refine go_icmp_le dX12_dent_137 (fun c137 => ?_) (fun c137 => ?_)
                · have c137 := Int32.not_lt.mpr c137
                  refine go_aload_n dX12_dent_144 rfl ?_
                  refine go_iload_n dX12_dent_145 rfl ?_
                  refine go_iload dX12_dent_146 rfl ?_
                  refine go_iload_n dX12_dent_148 rfl ?_
                  refine go_Vr [.int (nI jp), .int (nI o62), .int v] [] dX12_dent_149 vl_X12_329 ⟨by decide, by decide⟩ (e_X12_halfOf (F := (upd F 16 (0))) (A := A) (L := L) (K := K) ) mo_obj hq (by omega) rfl rfl (Nat.le_of_ble_eq_true rfl) (Nat.le_of_ble_eq_true rfl) (Nat.le_of_ble_eq_true rfl) ?_
                  refine go_istore (ls' := [some (.ref q), some (.int (nI jp)), some (.int v), some (.int law), some (.int (nI o62)), some (.int (nI jp)), some (.int ((v * (roomS (A 1 jp))) / ((roomS (A 1 jp)) + (roomS (A 1 o62))))), some (.int (brS A jp o62)), some (.int (brS A o62 jp)), some (.int (hfS (nI jp) (nI o62) (v)))]) dX12_dent_152 ⟨by decide, rfl, rfl⟩ ?_
                  refine go_iload_n dX12_dent_154 rfl ?_
                  refine go_if_ne dX12_dent_155 (fun c155 => ?_) (fun c155 => ?_)
                  · refine go_iload_n dX12_dent_169 rfl ?_
                    refine go_iconst (v := 1) dX12_dent_170 rfl ?_
                    refine go_icmp_ne dX12_dent_171 (fun c171 => ?_) (fun c171 => ?_)
                    · refine go_iload dX12_dent_192 rfl ?_
                      exact go_iret dX12_dent_194 rfl (Nat.le_of_ble_eq_true rfl) (Nat.le_of_ble_eq_true rfl) (hQ9 ▸ ⟨rd_i (a := hfS (nI jp) (nI o62) (v)) (by simp [denS, denV, byS, cutS, lowS, c10, kjp, c22, c34, c47, c62, ko62, c70, c70n, c126, c137, c155, c171]), rfl, rfl⟩)
                    · subst c171
                      refine go_iload_n dX12_dent_174 rfl ?_
                      refine go_iload dX12_dent_175 rfl ?_
                      refine go_icmp_ne dX12_dent_177 (fun c177 => ?_) (fun c177 => ?_)
                      · have c177n := mt (nI_eq (a := jp) (b := jp) (by omega) (by omega)).mpr c177
                        first | exact absurd c177n (by decide) | exact absurd (by decide) c177n | exact absurd rfl c177n | omega
                      · have c177n := (nI_eq (a := jp) (b := jp) (by omega) (by omega)).mp c177
                        refine go_iload dX12_dent_180 rfl ?_
                        refine go_goto dX12_dent_182 ?_
                        exact go_iret dX12_dent_194 rfl (Nat.le_of_ble_eq_true rfl) (Nat.le_of_ble_eq_true rfl) (hQ9 ▸ ⟨rd_i (a := (v * (roomS (A 1 jp))) / ((roomS (A 1 jp)) + (roomS (A 1 o62)))) (by simp [denS, denV, byS, cutS, lowS, c10, kjp, c22, c34, c47, c62, ko62, c70, c70n, c126, c137, c155]), rfl, rfl⟩)
                  · subst c155
                    refine go_aload_n dX12_dent_158 rfl ?_
                    refine go_iload_n dX12_dent_159 rfl ?_
                    refine go_iload dX12_dent_160 rfl ?_
                    refine go_iload_n dX12_dent_162 rfl ?_
                    refine go_Vr [.int (nI jp), .int (nI o62), .int v] [] dX12_dent_163 vl_X12_329 ⟨by decide, by decide⟩ (e_X12_halfOf (F := (upd F 16 (0))) (A := A) (L := L) (K := K) ) mo_obj hq (by omega) rfl rfl (Nat.le_of_ble_eq_true rfl) (Nat.le_of_ble_eq_true rfl) (Nat.le_of_ble_eq_true rfl) ?_
                    refine go_goto dX12_dent_166 ?_
                    exact go_iret dX12_dent_194 rfl (Nat.le_of_ble_eq_true rfl) (Nat.le_of_ble_eq_true rfl) (hQ9 ▸ ⟨rd_i (a := hfS (nI jp) (nI o62) (v)) (by simp [denS, denV, byS, cutS, lowS, c10, kjp, c22, c34, c47, c62, ko62, c70, c70n, c126, c137]), rfl, rfl⟩)
                · have c137 := Int32.not_le.mp c137
                  refine go_iconst (v := 0) dX12_dent_140 rfl ?_
                  refine go_goto dX12_dent_141 ?_
                  refine go_istore (ls' := [some (.ref q), some (.int (nI jp)), some (.int v), some (.int law), some (.int (nI o62)), some (.int (nI jp)), some (.int ((v * (roomS (A 1 jp))) / ((roomS (A 1 jp)) + (roomS (A 1 o62))))), some (.int (brS A jp o62)), some (.int (brS A o62 jp)), some (.int 0)]) dX12_dent_152 ⟨by decide, rfl, rfl⟩ ?_
                  refine go_iload_n dX12_dent_154 rfl ?_
                  refine go_if_ne dX12_dent_155 (fun c155 => ?_) (fun c155 => ?_)
                  · refine go_iload_n dX12_dent_169 rfl ?_
                    refine go_iconst (v := 1) dX12_dent_170 rfl ?_
                    refine go_icmp_ne dX12_dent_171 (fun c171 => ?_) (fun c171 => ?_)
                    · refine go_iload dX12_dent_192 rfl ?_
                      exact go_iret dX12_dent_194 rfl (Nat.le_of_ble_eq_true rfl) (Nat.le_of_ble_eq_true rfl) (hQ9 ▸ ⟨rd_i (a := 0) (by simp [denS, denV, byS, cutS, lowS, c10, kjp, c22, c34, c47, c62, ko62, c70, c70n, c126, c137, c155, c171]), rfl, rfl⟩)
                    · subst c171
                      refine go_iload_n dX12_dent_174 rfl ?_
                      refine go_iload dX12_dent_175 rfl ?_
                      refine go_icmp_ne dX12_dent_177 (fun c177 => ?_) (fun c177 => ?_)
                      · have c177n := mt (nI_eq (a := jp) (b := jp) (by omega) (by omega)).mpr c177
                        first | exact absurd c177n (by decide) | exact absurd (by decide) c177n | exact absurd rfl c177n | omega
                      · have c177n := (nI_eq (a := jp) (b := jp) (by omega) (by omega)).mp c177
                        refine go_iload dX12_dent_180 rfl ?_
                        refine go_goto dX12_dent_182 ?_
                        exact go_iret dX12_dent_194 rfl (Nat.le_of_ble_eq_true rfl) (Nat.le_of_ble_eq_true rfl) (hQ9 ▸ ⟨rd_i (a := (v * (roomS (A 1 jp))) / ((roomS (A 1 jp)) + (roomS (A 1 o62)))) (by simp [denS, denV, byS, cutS, lowS, c10, kjp, c22, c34, c47, c62, ko62, c70, c70n, c126, c137, c155]), rfl, rfl⟩)
                  · subst c155
                    refine go_aload_n dX12_dent_158 rfl ?_
                    refine go_iload_n dX12_dent_159 rfl ?_
                    refine go_iload dX12_dent_160 rfl ?_
                    refine go_iload_n dX12_dent_162 rfl ?_
                    refine go_Vr [.int (nI jp), .int (nI o62), .int v] [] dX12_dent_163 vl_X12_329 ⟨by decide, by decide⟩ (e_X12_halfOf (F := (upd F 16 (0))) (A := A) (L := L) (K := K) ) mo_obj hq (by omega) rfl rfl (Nat.le_of_ble_eq_true rfl) (Nat.le_of_ble_eq_true rfl) (Nat.le_of_ble_eq_true rfl) ?_
                    refine go_goto dX12_dent_166 ?_
                    exact go_iret dX12_dent_194 rfl (Nat.le_of_ble_eq_true rfl) (Nat.le_of_ble_eq_true rfl) (hQ9 ▸ ⟨rd_i (a := hfS (nI jp) (nI o62) (v)) (by simp [denS, denV, byS, cutS, lowS, c10, kjp, c22, c34, c47, c62, ko62, c70, c70n, c126, c137]), rfl, rfl⟩)
              · have c126 := Int32.not_le.mp c126
                refine go_iload_n dX12_dent_129 rfl ?_
                refine go_goto dX12_dent_130 ?_
                refine go_istore (ls' := [some (.ref q), some (.int (nI jp)), some (.int v), some (.int law), some (.int (nI o62)), some (.int (nI jp)), some (.int ((v * (roomS (A 1 jp))) / ((roomS (A 1 jp)) + (roomS (A 1 o62))))), some (.int (brS A jp o62)), some (.int (brS A o62 jp)), some (.int v)]) dX12_dent_152 ⟨by decide, rfl, rfl⟩ ?_
                refine go_iload_n dX12_dent_154 rfl ?_
                refine go_if_ne dX12_dent_155 (fun c155 => ?_) (fun c155 => ?_)
                · refine go_iload_n dX12_dent_169 rfl ?_
                  refine go_iconst (v := 1) dX12_dent_170 rfl ?_
                  refine go_icmp_ne dX12_dent_171 (fun c171 => ?_) (fun c171 => ?_)
                  · refine go_iload dX12_dent_192 rfl ?_
                    exact go_iret dX12_dent_194 rfl (Nat.le_of_ble_eq_true rfl) (Nat.le_of_ble_eq_true rfl) (hQ9 ▸ ⟨rd_i (a := v) (by simp [denS, denV, byS, cutS, lowS, c10, kjp, c22, c34, c47, c62, ko62, c70, c70n, c126, c155, c171]), rfl, rfl⟩)
                  · subst c171
                    refine go_iload_n dX12_dent_174 rfl ?_
                    refine go_iload dX12_dent_175 rfl ?_
                    refine go_icmp_ne dX12_dent_177 (fun c177 => ?_) (fun c177 => ?_)
                    · have c177n := mt (nI_eq (a := jp) (b := jp) (by omega) (by omega)).mpr c177
                      first | exact absurd c177n (by decide) | exact absurd (by decide) c177n | exact absurd rfl c177n | omega
                    · have c177n := (nI_eq (a := jp) (b := jp) (by omega) (by omega)).mp c177
                      refine go_iload dX12_dent_180 rfl ?_
                      refine go_goto dX12_dent_182 ?_
                      exact go_iret dX12_dent_194 rfl (Nat.le_of_ble_eq_true rfl) (Nat.le_of_ble_eq_true rfl) (hQ9 ▸ ⟨rd_i (a := (v * (roomS (A 1 jp))) / ((roomS (A 1 jp)) + (roomS (A 1 o62)))) (by simp [denS, denV, byS, cutS, lowS, c10, kjp, c22, c34, c47, c62, ko62, c70, c70n, c126, c155]), rfl, rfl⟩)
                · subst c155
                  refine go_aload_n dX12_dent_158 rfl ?_
                  refine go_iload_n dX12_dent_159 rfl ?_
                  refine go_iload dX12_dent_160 rfl ?_
                  refine go_iload_n dX12_dent_162 rfl ?_
                  refine go_Vr [.int (nI jp), .int (nI o62), .int v] [] dX12_dent_163 vl_X12_329 ⟨by decide, by decide⟩ (e_X12_halfOf (F := (upd F 16 (0))) (A := A) (L := L) (K := K) ) mo_obj hq (by omega) rfl rfl (Nat.le_of_ble_eq_true rfl) (Nat.le_of_ble_eq_true rfl) (Nat.le_of_ble_eq_true rfl) ?_
                  refine go_goto dX12_dent_166 ?_
                  exact go_iret dX12_dent_194 rfl (Nat.le_of_ble_eq_true rfl) (Nat.le_of_ble_eq_true rfl) (hQ9 ▸ ⟨rd_i (a := hfS (nI jp) (nI o62) (v)) (by simp [denS, denV, byS, cutS, lowS, c10, kjp, c22, c34, c47, c62, ko62, c70, c70n, c126]), rfl, rfl⟩)
          · have c62 := Int32.not_le.mp c62
            refine go_iload_n dX12_dent_65 rfl ?_
            exact go_iret dX12_dent_66 rfl (Nat.le_of_ble_eq_true rfl) (Nat.le_of_ble_eq_true rfl) (hQ9 ▸ ⟨rd_i (a := v) (by simp [denS, denV, byS, cutS, lowS, c10, kjp, c22, c34, c47, c62]), rfl, rfl⟩)
        · refine go_bipush (v := (-3)) dX12_dent_50 rfl ?_
          exact go_iret dX12_dent_52 rfl (Nat.le_of_ble_eq_true rfl) (Nat.le_of_ble_eq_true rfl) (hQ9 ▸ ⟨rd_i (a := (-3)) (by simp [denS, denV, byS, cutS, lowS, c10, kjp, c22, c34, c47]), rfl, rfl⟩)
      · have c34 := bz_f c34
        refine go_iconst (v := (-1)) dX12_dent_37 rfl ?_
        exact go_iret dX12_dent_38 rfl (Nat.le_of_ble_eq_true rfl) (Nat.le_of_ble_eq_true rfl) (hQ9 ▸ ⟨rd_i (a := (-1)) (by simp [denS, denV, byS, cutS, lowS, c10, kjp, c22, c34]), rfl, rfl⟩)
set_option maxHeartbeats 4000000 in
set_option maxRecDepth 100000 in
theorem e_X12_element (hq : G.2.1 ≤ q) (hn : q + 25 ≤ n) (hrl : rlOK A) {d i : Int32} : Ev G mX12_element 3 0 0 [.ref q, .int d, .int i] (mo G m0 q F A L K) n (fun r f1 n1 => r = some (.long (elV A L d i)) ∧ f1 = mo G m0 q (upd F 16 (elT A d i)) A L K ∧ n1 = n) := by
  generalize hQ9 : (fun r f1 n1 => r = some (.long (elV A L d i)) ∧ f1 = mo G m0 q (upd F 16 (elT A d i)) A L K ∧ n1 = n : RQ) = Q9
  refine ev_of (by decide) (Nat.le_of_ble_eq_true rfl) (ls := [some (.ref q), some (.int d), some (.int i), none]) rfl (fun hb => ?_)
  refine go_aload_n dX12_element_0 rfl ?_
  refine go_iload_n dX12_element_1 rfl ?_
  refine go_Vr [.int d] [] dX12_element_2 vl_X12_178 ⟨by decide, by decide⟩ (e_X12_wrongRow (F := F) (A := A) (L := L) (K := K) hq hn) mo_obj hq (by omega) rfl rfl (Nat.le_of_ble_eq_true rfl) (Nat.le_of_ble_eq_true rfl) (Nat.le_of_ble_eq_true rfl) ?_
  refine go_istore_n (ls' := [some (.ref q), some (.int d), some (.int i), some (.int (wkS (A 8) 2 (d)))]) dX12_element_5 ⟨by decide, rfl, rfl⟩ ?_
  refine go_aload_n dX12_element_6 rfl ?_
  refine go_iload_n dX12_element_7 rfl ?_
  refine go_iconst (v := (-1)) dX12_element_8 rfl ?_
  refine go_icmp_ne dX12_element_9 (fun c9 => ?_) (fun c9 => ?_)
  · refine go_iload_n dX12_element_16 rfl ?_
    refine go_if_lt dX12_element_17 (fun c17 => ?_) (fun c17 => ?_)
    · refine go_iconst (v := 2) dX12_element_38 rfl ?_
      refine go_goto dX12_element_39 ?_
      refine go_put dX12_element_43 fp_X12_83_12 (Or.inr (fun _ _ _ h => by cases h; rfl)) mo_obj hq (by omega) (rfl) rfl (Nat.le_of_ble_eq_true rfl) ?_
      refine go_mem (mo_setO (F' := (upd F 16 (2))) (K' := K) rfl) ?_
      refine go_aload_n dX12_element_46 rfl ?_
      refine go_get dX12_element_47 fl_X12_83_12 mo_obj hq (by omega) rfl ?_
      refine go_tp (z := 2) (rfl) ?_
      refine go_if_le dX12_element_50 (fun c50 => ?_) (fun c50 => ?_)
      · have c50n := (n0_le (a := 2) (by omega)).mp c50
        first | exact absurd c50n (by decide) | exact absurd (by decide) c50n | exact absurd rfl c50n | omega
      · have c50n := mt (n0_le (a := 2) (by omega)).mpr c50
        refine go_lconst (v := 0) dX12_element_53 rfl ?_
        refine go_goto dX12_element_54 ?_
        exact go_lret dX12_element_68 rfl (Nat.le_of_ble_eq_true rfl) (Nat.le_of_ble_eq_true rfl) (hQ9 ▸ ⟨rd_l (a := 0) (by simp [elV, elT, c9, c17]), by simp [elT, c9, c17], rfl⟩)
    · obtain ⟨jd, hjd, rfl, ejd⟩ := wkS_ok c17
      have kjd : (nI jd).toNatClampNeg = jd := nI_clamp (by omega)
      obtain ⟨R, hR, eR⟩ := hrl jd (by omega)
      refine go_iload_n dX12_element_20 rfl ?_
      refine go_i2l dX12_element_21 ?_
      refine go_lconst (v := 0) dX12_element_22 rfl ?_
      refine go_aload_n dX12_element_23 rfl ?_
      refine go_get dX12_element_24 fl_X12_43_12 mo_obj hq (by omega) rfl ?_
      refine go_iload_n dX12_element_27 rfl ?_
      refine go_iald dX12_element_28 (mo_arr 12 (by decide)) (by omega) (by omega) (vp_in_nI (n := jd) (by show jd < 8; omega) (by decide)) ?_
      refine go_tp (z := A 12 jd) (by rw [nI_clamp (by omega)]) ?_
      refine go_tp (z := nI R) (eR) ?_
      refine go_iconst (v := 1) dX12_element_29 rfl ?_
      refine go_isub dX12_element_30 ?_
      refine go_i2l dX12_element_31 ?_
      refine go_Sr [.long (i).toInt64, .long 0, .long (((nI R) - 1).toInt64)] [.ref q] dX12_element_32 sl_X12_90 ⟨by decide, by decide⟩ (e_X12_lies) rfl rfl (Nat.le_of_ble_eq_true rfl) (Nat.le_of_ble_eq_true rfl) (Nat.le_of_ble_eq_true rfl) ?_
      refine go_tp (z := if okp R (i) then 1 else 0) (ite_c (li_okp (by omega))) ?_
      refine go_if_ne dX12_element_35 (fun c35 => ?_) (fun c35 => ?_)
      · have c35 := bz_t c35
        obtain ⟨ji, hji, rfl⟩ := okp_nI c35 (by omega)
        have kji : (nI ji).toNatClampNeg = ji := nI_clamp (by omega)
        refine go_iconst (v := 0) dX12_element_42 rfl ?_
        refine go_put dX12_element_43 fp_X12_83_12 (Or.inr (fun _ _ _ h => by cases h; rfl)) mo_obj hq (by omega) (rfl) rfl (Nat.le_of_ble_eq_true rfl) ?_
        refine go_mem (mo_setO (F' := (upd F 16 (0))) (K' := K) rfl) ?_
        refine go_aload_n dX12_element_46 rfl ?_
        refine go_get dX12_element_47 fl_X12_83_12 mo_obj hq (by omega) rfl ?_
        refine go_tp (z := 0) (rfl) ?_
        refine go_if_le dX12_element_50 (fun c50 => ?_) (fun c50 => ?_)
        · have c50n := (n0_le (a := 0) (by omega)).mp c50
          refine go_aload_n dX12_element_57 rfl ?_
          refine go_get dX12_element_58 fl_X12_46_12 mo_obj hq (by omega) rfl ?_
          refine go_bipush (v := 100) dX12_element_61 rfl ?_
          refine go_iload_n dX12_element_63 rfl ?_
          refine go_imul dX12_element_64 ?_
          refine go_tp (z := nI (100 * jd)) (pk_mul 100 jd) ?_
          refine go_iload_n dX12_element_65 rfl ?_
          refine go_iadd dX12_element_66 ?_
          refine go_tp (z := nI ((100 * jd) + ji)) (nI_add (100 * jd) ji) ?_
          refine go_lald dX12_element_67 (mo_lrr 13 (by decide)) (by omega) (by omega) (vp_in_nI (n := (100 * jd) + ji) (by show (100 * jd) + ji < 800; omega) (by decide)) ?_
          refine go_tl (z := L 13 ((100 * jd) + ji)) (by rw [nI_clamp (by omega)]) ?_
          exact go_lret dX12_element_68 rfl (Nat.le_of_ble_eq_true rfl) (Nat.le_of_ble_eq_true rfl) (hQ9 ▸ ⟨rd_l (a := L 13 ((100 * jd) + ji)) (by simp [elV, elT, c9, c17, kjd, c35, kji, eR, nI_clamp (show R < 2 ^ 31 by omega)]), by simp [elT, c9, c17, kjd, c35, kji, eR, nI_clamp (show R < 2 ^ 31 by omega)], rfl⟩)
        · have c50n := mt (n0_le (a := 0) (by omega)).mpr c50
          first | exact absurd c50n (by decide) | exact absurd (by decide) c50n | exact absurd rfl c50n | omega
      · have c35 := bz_f c35
        refine go_iconst (v := 2) dX12_element_38 rfl ?_
        refine go_goto dX12_element_39 ?_
        refine go_put dX12_element_43 fp_X12_83_12 (Or.inr (fun _ _ _ h => by cases h; rfl)) mo_obj hq (by omega) (rfl) rfl (Nat.le_of_ble_eq_true rfl) ?_
        refine go_mem (mo_setO (F' := (upd F 16 (2))) (K' := K) rfl) ?_
        refine go_aload_n dX12_element_46 rfl ?_
        refine go_get dX12_element_47 fl_X12_83_12 mo_obj hq (by omega) rfl ?_
        refine go_tp (z := 2) (rfl) ?_
        refine go_if_le dX12_element_50 (fun c50 => ?_) (fun c50 => ?_)
        · have c50n := (n0_le (a := 2) (by omega)).mp c50
          first | exact absurd c50n (by decide) | exact absurd (by decide) c50n | exact absurd rfl c50n | omega
        · have c50n := mt (n0_le (a := 2) (by omega)).mpr c50
          refine go_lconst (v := 0) dX12_element_53 rfl ?_
          refine go_goto dX12_element_54 ?_
          exact go_lret dX12_element_68 rfl (Nat.le_of_ble_eq_true rfl) (Nat.le_of_ble_eq_true rfl) (hQ9 ▸ ⟨rd_l (a := 0) (by simp [elV, elT, c9, c17, kjd, c35, eR, nI_clamp (show R < 2 ^ 31 by omega)]), by simp [elT, c9, c17, kjd, c35, eR, nI_clamp (show R < 2 ^ 31 by omega)], rfl⟩)
  · refine go_iconst (v := 1) dX12_element_12 rfl ?_
    refine go_goto dX12_element_13 ?_
    refine go_put dX12_element_43 fp_X12_83_12 (Or.inr (fun _ _ _ h => by cases h; rfl)) mo_obj hq (by omega) (rfl) rfl (Nat.le_of_ble_eq_true rfl) ?_
    refine go_mem (mo_setO (F' := (upd F 16 (1))) (K' := K) rfl) ?_
    refine go_aload_n dX12_element_46 rfl ?_
    refine go_get dX12_element_47 fl_X12_83_12 mo_obj hq (by omega) rfl ?_
    refine go_tp (z := 1) (rfl) ?_
    refine go_if_le dX12_element_50 (fun c50 => ?_) (fun c50 => ?_)
    · have c50n := (n0_le (a := 1) (by omega)).mp c50
      first | exact absurd c50n (by decide) | exact absurd (by decide) c50n | exact absurd rfl c50n | omega
    · have c50n := mt (n0_le (a := 1) (by omega)).mpr c50
      refine go_lconst (v := 0) dX12_element_53 rfl ?_
      refine go_goto dX12_element_54 ?_
      exact go_lret dX12_element_68 rfl (Nat.le_of_ble_eq_true rfl) (Nat.le_of_ble_eq_true rfl) (hQ9 ▸ ⟨rd_l (a := 0) (by simp [elV, elT, c9]), by simp [elT, c9], rfl⟩)
set_option maxHeartbeats 4000000 in
set_option maxRecDepth 100000 in
theorem e_X12_nextChange (hq : G.2.1 ≤ q) (hn : q + 25 ≤ n) (hN : F 0 = nI N) (hN8 : N ≤ 8) (hM5 : M ≤ 5) (hI : insOK N M (A 4)) : Ev G mX12_nextChange 4 0 0 [.ref q] (mo G m0 q F A L K) n (RD (.int (nxS N A)) (mo G m0 q F A L K) n) := by
  generalize hQ9 : (RD (.int (nxS N A)) (mo G m0 q F A L K) n : RQ) = Q9
  refine ev_of (by decide) (Nat.le_of_ble_eq_true rfl) (ls := [some (.ref q), none, none, none, none, none]) rfl (fun hb => ?_)
  refine go_iconst (v := 0) dX12_nextChange_0 rfl ?_
  refine go_istore_n (ls' := [some (.ref q), some (.int 0), none, none, none, none]) dX12_nextChange_1 ⟨by decide, rfl, rfl⟩ ?_
  have lp0 : ∀ (μ_lp0 : Nat) (i : Nat) (hi : i ≤ N) (hmi : N + 1 ≤ i + μ_lp0) (hx : f2B (ncP N A) N 0 N = f2B (ncP N A) N i (N - i)), Go G mX12_nextChange 4 0 0 Q9 0 0 2 [some (.ref q), some (.int (nI i)), none, none, none, none] [] (mo G m0 q F A L K) n := by
    intro μ_lp0
    induction μ_lp0 with
    | zero =>
      intro i hi hmi hx
      exact absurd hmi (by omega)
    | succ μ_lp0 ih_lp0 =>
      intro i hi hmi hx
      refine go_iload_n dX12_nextChange_2 rfl ?_
      refine go_aload_n dX12_nextChange_3 rfl ?_
      refine go_get dX12_nextChange_4 fl_X12_87_12 mo_obj hq (by omega) rfl ?_
      refine go_tp (z := nI N) (hN) ?_
      refine go_icmp_ge dX12_nextChange_7 (fun c7 => ?_) (fun c7 => ?_)
      · have c7n := (nI_leI (a := N) (b := i) (by omega) (by omega)).mp c7
        have c7n := Nat.not_lt.mpr c7n
        have c7 := Int32.not_lt.mpr c7
        refine go_bipush (v := (-4)) dX12_nextChange_112 rfl ?_
        exact go_iret dX12_nextChange_114 rfl (Nat.le_of_ble_eq_true rfl) (Nat.le_of_ble_eq_true rfl) (hQ9 ▸ ⟨rd_i (by unfold nxS; rw [hx, show i = N by omega, f2B_0]), rfl, rfl⟩)
      · have c7n := mt (nI_leI (a := N) (b := i) (by omega) (by omega)).mpr c7
        have c7n := Nat.lt_of_not_le c7n
        have c7 := Int32.not_le.mp c7
        refine go_iload_n dX12_nextChange_10 rfl ?_
        refine go_iconst (v := 1) dX12_nextChange_11 rfl ?_
        refine go_iadd dX12_nextChange_12 ?_
        refine go_tp (z := nI (i + 1)) (nI_add i 1) ?_
        refine go_istore_n (ls' := [some (.ref q), some (.int (nI i)), some (.int (nI (i + 1))), none, none, none]) dX12_nextChange_13 ⟨by decide, rfl, rfl⟩ ?_
        have lp1 : ∀ (μ_lp1 : Nat) (k : Nat) (hk0 : i + 1 ≤ k) (hk : k ≤ N) (hmk : N + 1 ≤ k + μ_lp1) (hy : f1B (ncP N A i) i (f2B (ncP N A) N (i + 1) (N - (i + 1))) (i + 1) (N - (i + 1)) = f1B (ncP N A i) i (f2B (ncP N A) N (i + 1) (N - (i + 1))) k (N - k)), Go G mX12_nextChange 4 0 0 Q9 0 0 14 [some (.ref q), some (.int (nI i)), some (.int (nI k)), none, none, none] [] (mo G m0 q F A L K) n := by
          intro μ_lp1
          induction μ_lp1 with
          | zero =>
            intro k hk0 hk hmk hy
            exact absurd hmk (by omega)
          | succ μ_lp1 ih_lp1 =>
            intro k hk0 hk hmk hy
            refine go_iload_n dX12_nextChange_14 rfl ?_
            refine go_aload_n dX12_nextChange_15 rfl ?_
            refine go_get dX12_nextChange_16 fl_X12_87_12 mo_obj hq (by omega) rfl ?_
            refine go_tp (z := nI N) (hN) ?_
            refine go_icmp_ge dX12_nextChange_19 (fun c19 => ?_) (fun c19 => ?_)
            · have c19n := (nI_leI (a := N) (b := k) (by omega) (by omega)).mp c19
              have c19n := Nat.not_lt.mpr c19n
              have c19 := Int32.not_lt.mpr c19
              refine go_iinc (v := nI (i + 1)) (ls' := [some (.ref q), some (.int (nI (i + 1))), some (.int (nI k)), none, none, none]) dX12_nextChange_106 rfl (nI_1 (i)) ⟨by decide, rfl, rfl⟩ ?_
              refine go_goto dX12_nextChange_109 ?_
              refine go_weak (ls' := [some (.ref q), some (.int (nI (i + 1))), none, none, none, none]) ⟨rfl, rfl, trivial⟩ ?_
              exact ih_lp0 (i + 1) (by omega) (by omega) (by rw [hx, f2B_d (by omega), hy, show k = N by omega, f1B_0])
            · have c19n := mt (nI_leI (a := N) (b := k) (by omega) (by omega)).mpr c19
              have c19n := Nat.lt_of_not_le c19n
              have c19 := Int32.not_le.mp c19
              refine go_aload_n dX12_nextChange_22 rfl ?_
              refine go_get dX12_nextChange_23 fl_X12_19_12 mo_obj hq (by omega) rfl ?_
              refine go_iload_n dX12_nextChange_26 rfl ?_
              refine go_iald dX12_nextChange_27 (mo_arr 4 (by decide)) (by omega) (by omega) (vp_in_nI (n := i) (by show i < 8; omega) (by decide)) ?_
              refine go_tp (z := A 4 i) (by rw [nI_clamp (by omega)]) ?_
              refine go_aload_n dX12_nextChange_28 rfl ?_
              refine go_get dX12_nextChange_29 fl_X12_19_12 mo_obj hq (by omega) rfl ?_
              refine go_iload_n dX12_nextChange_32 rfl ?_
              refine go_iald dX12_nextChange_33 (mo_arr 4 (by decide)) (by omega) (by omega) (vp_in_nI (n := k) (by show k < 8; omega) (by decide)) ?_
              refine go_tp (z := A 4 k) (by rw [nI_clamp (by omega)]) ?_
              refine go_icmp_eq dX12_nextChange_34 (fun c34 => ?_) (fun c34 => ?_)
              · refine go_iinc (v := nI (k + 1)) (ls' := [some (.ref q), some (.int (nI i)), some (.int (nI (k + 1))), none, none, none]) dX12_nextChange_100 rfl (nI_1 (k)) ⟨by decide, rfl, rfl⟩ ?_
                refine go_goto dX12_nextChange_103 ?_
                exact ih_lp1 (k + 1) (by omega) (by omega) (by omega) (by rw [hy, f1B_d (by omega)]; simp [ncP, c7, c7n, c19, c19n, c34])
              · refine go_aload_n dX12_nextChange_37 rfl ?_
                refine go_iload_n dX12_nextChange_38 rfl ?_
                refine go_Vr [.int (nI i)] [] dX12_nextChange_39 vl_X12_117 ⟨by decide, by decide⟩ (e_X12_contentOf (F := F) (A := A) (L := L) (K := K) hq hn hN hN8 hM5 hI (by omega)) mo_obj hq (by omega) rfl rfl (Nat.le_of_ble_eq_true rfl) (Nat.le_of_ble_eq_true rfl) (Nat.le_of_ble_eq_true rfl) ?_
                refine go_istore_n (ls' := [some (.ref q), some (.int (nI i)), some (.int (nI k)), some (.int (ctS N A i)), none, none]) dX12_nextChange_42 ⟨by decide, rfl, rfl⟩ ?_
                refine go_aload_n dX12_nextChange_43 rfl ?_
                refine go_iload_n dX12_nextChange_44 rfl ?_
                refine go_Vr [.int (nI k)] [] dX12_nextChange_45 vl_X12_117 ⟨by decide, by decide⟩ (e_X12_contentOf (F := F) (A := A) (L := L) (K := K) hq hn hN hN8 hM5 hI (by omega)) mo_obj hq (by omega) rfl rfl (Nat.le_of_ble_eq_true rfl) (Nat.le_of_ble_eq_true rfl) (Nat.le_of_ble_eq_true rfl) ?_
                refine go_istore (ls' := [some (.ref q), some (.int (nI i)), some (.int (nI k)), some (.int (ctS N A i)), some (.int (ctS N A k)), none]) dX12_nextChange_48 ⟨by decide, rfl, rfl⟩ ?_
                refine go_aload_n dX12_nextChange_50 rfl ?_
                refine go_iload_n dX12_nextChange_51 rfl ?_
                refine go_iload_n dX12_nextChange_52 rfl ?_
                refine go_V [.int (nI i), .int (nI k)] [] dX12_nextChange_53 vl_X12_171 ⟨by decide, by decide⟩ (e_X12_swapPlaces (F := F) (A := A) (L := L) (K := K) hq hn (by omega) (by omega)) mo_obj hq (by omega) rfl rfl (Nat.le_of_ble_eq_true rfl) (Nat.le_of_ble_eq_true rfl) (Nat.le_of_ble_eq_true rfl) (fun r53 f53 n53 h53 => ?_)
                obtain ⟨rfl, rfl, rfl⟩ := h53
                refine go_aload_n dX12_nextChange_56 rfl ?_
                refine go_iload_n dX12_nextChange_57 rfl ?_
                refine go_Vr [.int (nI i)] [] dX12_nextChange_58 vl_X12_117 ⟨by decide, by decide⟩ (e_X12_contentOf (F := F) (A := (swS A i k)) (L := L) (K := K) hq hn hN hN8 hM5 (insOK_sw hI (by omega) (by omega)) (by omega)) mo_obj hq (by omega) rfl rfl (Nat.le_of_ble_eq_true rfl) (Nat.le_of_ble_eq_true rfl) (Nat.le_of_ble_eq_true rfl) ?_
                refine go_iload_n dX12_nextChange_61 rfl ?_
                refine go_icmp_le dX12_nextChange_62 (fun c62 => ?_) (fun c62 => ?_)
                · have c62 := Int32.not_lt.mpr c62
                  refine go_iconst (v := 0) dX12_nextChange_79 rfl ?_
                  refine go_istore (ls' := [some (.ref q), some (.int (nI i)), some (.int (nI k)), some (.int (ctS N A i)), some (.int (ctS N A k)), some (.int 0)]) dX12_nextChange_80 ⟨by decide, rfl, rfl⟩ ?_
                  refine go_aload_n dX12_nextChange_82 rfl ?_
                  refine go_iload_n dX12_nextChange_83 rfl ?_
                  refine go_iload_n dX12_nextChange_84 rfl ?_
                  refine go_V [.int (nI i), .int (nI k)] [] dX12_nextChange_85 vl_X12_171 ⟨by decide, by decide⟩ (e_X12_swapPlaces (F := F) (A := (swS A i k)) (L := L) (K := K) hq hn (by omega) (by omega)) mo_obj hq (by omega) rfl rfl (Nat.le_of_ble_eq_true rfl) (Nat.le_of_ble_eq_true rfl) (Nat.le_of_ble_eq_true rfl) (fun r85 f85 n85 h85 => ?_)
                  obtain ⟨rfl, rfl, rfl⟩ := h85
                  refine go_mem (f' := (mo G m0 q F A L K)) (by rw [swS_2]) ?_
                  refine go_iload dX12_nextChange_88 rfl ?_
                  refine go_if_eq dX12_nextChange_90 (fun c90 => ?_) (fun c90 => ?_)
                  · have c90n := (n0_eq (a := 0) (by omega)).mp c90
                    refine go_iinc (v := nI (k + 1)) (ls' := [some (.ref q), some (.int (nI i)), some (.int (nI (k + 1))), some (.int (ctS N A i)), some (.int (ctS N A k)), some (.int 0)]) dX12_nextChange_100 rfl (nI_1 (k)) ⟨by decide, rfl, rfl⟩ ?_
                    refine go_goto dX12_nextChange_103 ?_
                    refine go_weak (ls' := [some (.ref q), some (.int (nI i)), some (.int (nI (k + 1))), none, none, none]) ⟨rfl, rfl, rfl, trivial⟩ ?_
                    exact ih_lp1 (k + 1) (by omega) (by omega) (by omega) (by rw [hy, f1B_d (by omega)]; simp [ncP, c7, c7n, c19, c19n, c34, c62])
                  · have c90n := mt (n0_eq (a := 0) (by omega)).mpr c90
                    first | exact absurd c90n (by decide) | exact absurd (by decide) c90n | exact absurd rfl c90n | omega
                · have c62 := Int32.not_le.mp c62
                  refine go_aload_n dX12_nextChange_65 rfl ?_
                  refine go_iload_n dX12_nextChange_66 rfl ?_
                  refine go_Vr [.int (nI k)] [] dX12_nextChange_67 vl_X12_117 ⟨by decide, by decide⟩ (e_X12_contentOf (F := F) (A := (swS A i k)) (L := L) (K := K) hq hn hN hN8 hM5 (insOK_sw hI (by omega) (by omega)) (by omega)) mo_obj hq (by omega) rfl rfl (Nat.le_of_ble_eq_true rfl) (Nat.le_of_ble_eq_true rfl) (Nat.le_of_ble_eq_true rfl) ?_
                  refine go_iload dX12_nextChange_70 rfl ?_
                  refine go_icmp_le dX12_nextChange_72 (fun c72 => ?_) (fun c72 => ?_)
                  · have c72 := Int32.not_lt.mpr c72
                    refine go_iconst (v := 0) dX12_nextChange_79 rfl ?_
                    refine go_istore (ls' := [some (.ref q), some (.int (nI i)), some (.int (nI k)), some (.int (ctS N A i)), some (.int (ctS N A k)), some (.int 0)]) dX12_nextChange_80 ⟨by decide, rfl, rfl⟩ ?_
                    refine go_aload_n dX12_nextChange_82 rfl ?_
                    refine go_iload_n dX12_nextChange_83 rfl ?_
                    refine go_iload_n dX12_nextChange_84 rfl ?_
                    refine go_V [.int (nI i), .int (nI k)] [] dX12_nextChange_85 vl_X12_171 ⟨by decide, by decide⟩ (e_X12_swapPlaces (F := F) (A := (swS A i k)) (L := L) (K := K) hq hn (by omega) (by omega)) mo_obj hq (by omega) rfl rfl (Nat.le_of_ble_eq_true rfl) (Nat.le_of_ble_eq_true rfl) (Nat.le_of_ble_eq_true rfl) (fun r85 f85 n85 h85 => ?_)
                    obtain ⟨rfl, rfl, rfl⟩ := h85
                    refine go_mem (f' := (mo G m0 q F A L K)) (by rw [swS_2]) ?_
                    refine go_iload dX12_nextChange_88 rfl ?_
                    refine go_if_eq dX12_nextChange_90 (fun c90 => ?_) (fun c90 => ?_)
                    · have c90n := (n0_eq (a := 0) (by omega)).mp c90
                      refine go_iinc (v := nI (k + 1)) (ls' := [some (.ref q), some (.int (nI i)), some (.int (nI (k + 1))), some (.int (ctS N A i)), some (.int (ctS N A k)), some (.int 0)]) dX12_nextChange_100 rfl (nI_1 (k)) ⟨by decide, rfl, rfl⟩ ?_
                      refine go_goto dX12_nextChange_103 ?_
                      refine go_weak (ls' := [some (.ref q), some (.int (nI i)), some (.int (nI (k + 1))), none, none, none]) ⟨rfl, rfl, rfl, trivial⟩ ?_
                      exact ih_lp1 (k + 1) (by omega) (by omega) (by omega) (by rw [hy, f1B_d (by omega)]; simp [ncP, c7, c7n, c19, c19n, c34, c62, c72])
                    · have c90n := mt (n0_eq (a := 0) (by omega)).mpr c90
                      first | exact absurd c90n (by decide) | exact absurd (by decide) c90n | exact absurd rfl c90n | omega
                  · have c72 := Int32.not_le.mp c72
                    refine go_iconst (v := 1) dX12_nextChange_75 rfl ?_
                    refine go_goto dX12_nextChange_76 ?_
                    refine go_istore (ls' := [some (.ref q), some (.int (nI i)), some (.int (nI k)), some (.int (ctS N A i)), some (.int (ctS N A k)), some (.int 1)]) dX12_nextChange_80 ⟨by decide, rfl, rfl⟩ ?_
                    refine go_aload_n dX12_nextChange_82 rfl ?_
                    refine go_iload_n dX12_nextChange_83 rfl ?_
                    refine go_iload_n dX12_nextChange_84 rfl ?_
                    refine go_V [.int (nI i), .int (nI k)] [] dX12_nextChange_85 vl_X12_171 ⟨by decide, by decide⟩ (e_X12_swapPlaces (F := F) (A := (swS A i k)) (L := L) (K := K) hq hn (by omega) (by omega)) mo_obj hq (by omega) rfl rfl (Nat.le_of_ble_eq_true rfl) (Nat.le_of_ble_eq_true rfl) (Nat.le_of_ble_eq_true rfl) (fun r85 f85 n85 h85 => ?_)
                    obtain ⟨rfl, rfl, rfl⟩ := h85
                    refine go_mem (f' := (mo G m0 q F A L K)) (by rw [swS_2]) ?_
                    refine go_iload dX12_nextChange_88 rfl ?_
                    refine go_if_eq dX12_nextChange_90 (fun c90 => ?_) (fun c90 => ?_)
                    · have c90n := (n0_eq (a := 1) (by omega)).mp c90
                      first | exact absurd c90n (by decide) | exact absurd (by decide) c90n | exact absurd rfl c90n | omega
                    · have c90n := mt (n0_eq (a := 1) (by omega)).mpr c90
                      refine go_bipush (v := 10) dX12_nextChange_93 rfl ?_
                      refine go_iload_n dX12_nextChange_95 rfl ?_
                      refine go_imul dX12_nextChange_96 ?_
                      refine go_tp (z := nI (10 * i)) (pk_mul 10 i) ?_
                      refine go_iload_n dX12_nextChange_97 rfl ?_
                      refine go_iadd dX12_nextChange_98 ?_
                      refine go_tp (z := nI ((10 * i) + k)) (nI_add (10 * i) k) ?_
                      exact go_iret dX12_nextChange_99 rfl (Nat.le_of_ble_eq_true rfl) (Nat.le_of_ble_eq_true rfl) (hQ9 ▸ ⟨rd_i (by unfold nxS; rw [hx, f2B_d (by omega), hy, f1B_d (by omega)]; simp [ncP, c7, c7n, c19, c19n, c34, c62, c72]), rfl, rfl⟩)
        exact lp1 (N + 1) (i + 1) (Nat.le_refl _) (by omega) (by omega) rfl
  exact lp0 (N + 1) 0 (Nat.zero_le _) (by omega) rfl
end M7
