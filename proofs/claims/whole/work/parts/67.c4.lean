/-! a row: its sort, its numbers -/
def rdC (g : Nat → Int32) (R : Nat) (i : Int32) : Int32 := if okp R i then g i.toNatClampNeg else 0
def lbS (so v : Int32) : Int32 := if so = 0 then v.toInt8.toInt32 else if so = 1 then v.toInt16.toInt32 else v
def lnS (so : Int32) : Int32 := if so = 0 then -128 else if so = 1 then -32768 else -2147483648
def hrS (R : Nat) (i x : Int32) : Bool := decide (¬ i < 0 ∧ ¬ x < 0 ∧ ¬ nI R < i ∧ ¬ nI R - i < x)
theorem go_lookIn {G : GX} {y : MD} {d mc ms : Nat} {Q : RQ} {kc ks pc : Nat} {ls : List (Option Value)} {st : List Value} {f : Mem} {n : Nat} {dflt : Int} {ps : Array (Int × Int)} {len : Nat} {x : Int32} {off : Int} {tgt : Nat} {k : Int32} (hd : decode y.2.1 pc = .ok (.lookupswitch dflt ps, len)) (hx : x = k) (hp : (ps.toList.zip (ps.toList.drop 1)).all (fun (a, next) => a.1 < next.1) = true) (ho : Op.lookupswitch.offset ps.toList dflt k.toInt = off) (ht : (pc : Int) + off = (tgt : Int)) (kk : Go G y d mc ms Q kc ks tgt ls st f n) : Go G y d mc ms Q kc ks pc ls (.int x :: st) f n := by
  subst hx
  exact go_lookup hd hp ho ht kk
section C4
variable {G : GX} {m0 f : Mem} {s n N M b ar R : Nat} {F : Nat → Int32} {W : Nat → Option Nat} {A : Nat → Nat → Int32} {B g : Nat → Int32} {so : Int32}
set_option maxHeartbeats 4000000 in
set_option maxRecDepth 100000 in
theorem e_X4_size (hrb : f b = ob 4 [.int so, .ref ar]) (hb1 : G.2.1 ≤ b) (hb2 : b < n) (hra : f ar = ia G R g) (ha1 : G.2.1 ≤ ar) (ha2 : ar < n) (hR : R ≤ 100)  : Ev G mX4_size 1 0 0 [.ref b] f n (RD (.int (nI R)) f n) := by
  generalize hQ9 : (RD (.int (nI R)) f n : RQ) = Q9
  refine ev_of (by decide) (Nat.le_of_ble_eq_true rfl) (ls := [some (.ref b)]) rfl (fun hb => ?_)
  refine go_aload_n dX4_size_0 rfl ?_
  refine go_get dX4_size_1 fl_X4_21_4 hrb hb1 hb2 rfl ?_
  refine go_alen dX4_size_4 (v := nI R) hra ha1 ha2 rfl ?_
  exact go_iret dX4_size_5 rfl (Nat.le_of_ble_eq_true rfl) (Nat.le_of_ble_eq_true rfl) (hQ9 ▸ ⟨rfl, rfl, rfl⟩)
set_option maxHeartbeats 4000000 in
set_option maxRecDepth 100000 in
theorem e_X4_has (hrb : f b = ob 4 [.int so, .ref ar]) (hb1 : G.2.1 ≤ b) (hb2 : b < n) (hra : f ar = ia G R g) (ha1 : G.2.1 ≤ ar) (ha2 : ar < n) (hR : R ≤ 100) {i : Int32} : Ev G mX4_has 1 0 0 [.ref b, .int i] f n (RD (.int (if okp R i then 1 else 0)) f n) := by
  generalize hQ9 : (RD (.int (if okp R i then 1 else 0)) f n : RQ) = Q9
  refine ev_of (by decide) (Nat.le_of_ble_eq_true rfl) (ls := [some (.ref b), some (.int i)]) rfl (fun hb => ?_)
  refine go_iload_n dX4_has_0 rfl ?_
  refine go_if_lt dX4_has_1 (fun c1 => ?_) (fun c1 => ?_)
  · refine go_iconst (v := 0) dX4_has_17 rfl ?_
    exact go_zret dX4_has_18 rfl (Nat.le_of_ble_eq_true rfl) (Nat.le_of_ble_eq_true rfl) (rfl) ((hQ9 ▸ ⟨rd_i (a := 0) (by simp [okp, c1]), rfl, rfl⟩))
  · refine go_iload_n dX4_has_4 rfl ?_
    refine go_aload_n dX4_has_5 rfl ?_
    refine go_get dX4_has_6 fl_X4_21_4 hrb hb1 hb2 rfl ?_
    refine go_alen dX4_has_9 (v := nI R) hra ha1 ha2 rfl ?_
    refine go_icmp_ge dX4_has_10 (fun c10 => ?_) (fun c10 => ?_)
    · have c10 := Int32.not_lt.mpr c10
      refine go_iconst (v := 0) dX4_has_17 rfl ?_
      exact go_zret dX4_has_18 rfl (Nat.le_of_ble_eq_true rfl) (Nat.le_of_ble_eq_true rfl) (rfl) ((hQ9 ▸ ⟨rd_i (a := 0) (by simp [okp, c1, c10]), rfl, rfl⟩))
    · have c10 := Int32.not_le.mp c10
      refine go_iconst (v := 1) dX4_has_13 rfl ?_
      refine go_goto dX4_has_14 ?_
      exact go_zret dX4_has_18 rfl (Nat.le_of_ble_eq_true rfl) (Nat.le_of_ble_eq_true rfl) (rfl) ((hQ9 ▸ ⟨rd_i (a := 1) (by simp [okp, c1, c10]), rfl, rfl⟩))
set_option maxHeartbeats 4000000 in
set_option maxRecDepth 100000 in
theorem e_X4_hasRun (hrb : f b = ob 4 [.int so, .ref ar]) (hb1 : G.2.1 ≤ b) (hb2 : b < n) (hra : f ar = ia G R g) (ha1 : G.2.1 ≤ ar) (ha2 : ar < n) (hR : R ≤ 100) {i x : Int32} : Ev G mX4_hasRun 1 0 0 [.ref b, .int i, .int x] f n (RD (.int (if hrS R i x then 1 else 0)) f n) := by
  generalize hQ9 : (RD (.int (if hrS R i x then 1 else 0)) f n : RQ) = Q9
  refine ev_of (by decide) (Nat.le_of_ble_eq_true rfl) (ls := [some (.ref b), some (.int i), some (.int x)]) rfl (fun hb => ?_)
  refine go_iload_n dX4_hasRun_0 rfl ?_
  refine go_if_lt dX4_hasRun_1 (fun c1 => ?_) (fun c1 => ?_)
  · refine go_iconst (v := 0) dX4_hasRun_32 rfl ?_
    exact go_zret dX4_hasRun_33 rfl (Nat.le_of_ble_eq_true rfl) (Nat.le_of_ble_eq_true rfl) (rfl) ((hQ9 ▸ ⟨rd_i (a := 0) (by simp [hrS, c1]), rfl, rfl⟩))
  · refine go_iload_n dX4_hasRun_4 rfl ?_
    refine go_if_lt dX4_hasRun_5 (fun c5 => ?_) (fun c5 => ?_)
    · refine go_iconst (v := 0) dX4_hasRun_32 rfl ?_
      exact go_zret dX4_hasRun_33 rfl (Nat.le_of_ble_eq_true rfl) (Nat.le_of_ble_eq_true rfl) (rfl) ((hQ9 ▸ ⟨rd_i (a := 0) (by simp [hrS, c1, c5]), rfl, rfl⟩))
    · refine go_iload_n dX4_hasRun_8 rfl ?_
      refine go_aload_n dX4_hasRun_9 rfl ?_
      refine go_get dX4_hasRun_10 fl_X4_21_4 hrb hb1 hb2 rfl ?_
      refine go_alen dX4_hasRun_13 (v := nI R) hra ha1 ha2 rfl ?_
      refine go_icmp_gt dX4_hasRun_14 (fun c14 => ?_) (fun c14 => ?_)
      · refine go_iconst (v := 0) dX4_hasRun_32 rfl ?_
        exact go_zret dX4_hasRun_33 rfl (Nat.le_of_ble_eq_true rfl) (Nat.le_of_ble_eq_true rfl) (rfl) ((hQ9 ▸ ⟨rd_i (a := 0) (by simp [hrS, c1, c5, c14]), rfl, rfl⟩))
      · refine go_iload_n dX4_hasRun_17 rfl ?_
        refine go_aload_n dX4_hasRun_18 rfl ?_
        refine go_get dX4_hasRun_19 fl_X4_21_4 hrb hb1 hb2 rfl ?_
        refine go_alen dX4_hasRun_22 (v := nI R) hra ha1 ha2 rfl ?_
        refine go_iload_n dX4_hasRun_23 rfl ?_
        refine go_isub dX4_hasRun_24 ?_
        refine go_icmp_gt dX4_hasRun_25 (fun c25 => ?_) (fun c25 => ?_)
        · refine go_iconst (v := 0) dX4_hasRun_32 rfl ?_
          exact go_zret dX4_hasRun_33 rfl (Nat.le_of_ble_eq_true rfl) (Nat.le_of_ble_eq_true rfl) (rfl) ((hQ9 ▸ ⟨rd_i (a := 0) (by simp [hrS, c1, c5, c14, c25]), rfl, rfl⟩))
        · refine go_iconst (v := 1) dX4_hasRun_28 rfl ?_
          refine go_goto dX4_hasRun_29 ?_
          exact go_zret dX4_hasRun_33 rfl (Nat.le_of_ble_eq_true rfl) (Nat.le_of_ble_eq_true rfl) (rfl) ((hQ9 ▸ ⟨rd_i (a := 1) (by simp [hrS, c1, c5, c14, c25]), rfl, rfl⟩))
set_option maxHeartbeats 4000000 in
set_option maxRecDepth 100000 in
theorem e_X4_at (hrb : f b = ob 4 [.int so, .ref ar]) (hb1 : G.2.1 ≤ b) (hb2 : b < n) (hra : f ar = ia G R g) (ha1 : G.2.1 ≤ ar) (ha2 : ar < n) (hR : R ≤ 100) {i : Int32} : Ev G mX4_at 2 0 0 [.ref b, .int i] f n (RD (.int (rdC g R i)) f n) := by
  generalize hQ9 : (RD (.int (rdC g R i)) f n : RQ) = Q9
  refine ev_of (by decide) (Nat.le_of_ble_eq_true rfl) (ls := [some (.ref b), some (.int i)]) rfl (fun hb => ?_)
  refine go_aload_n dX4_at_0 rfl ?_
  refine go_iload_n dX4_at_1 rfl ?_
  refine go_Vr [.int i] [] dX4_at_2 vl_X4_25 ⟨by decide, by decide⟩ (e_X4_has hrb hb1 hb2 hra ha1 ha2 hR) hrb hb1 (by omega) rfl rfl (Nat.le_of_ble_eq_true rfl) (Nat.le_of_ble_eq_true rfl) (Nat.le_of_ble_eq_true rfl) ?_
  refine go_if_eq dX4_at_5 (fun c5 => ?_) (fun c5 => ?_)
  · have c5 := bz_f c5
    refine go_iconst (v := 0) dX4_at_17 rfl ?_
    exact go_iret dX4_at_18 rfl (Nat.le_of_ble_eq_true rfl) (Nat.le_of_ble_eq_true rfl) (hQ9 ▸ ⟨rd_i (by unfold rdC; rw [if_neg c5]), rfl, rfl⟩)
  · have c5 := bz_t c5
    obtain ⟨ji, hji, rfl⟩ := okp_nI c5 (by omega)
    have kji : (nI ji).toNatClampNeg = ji := nI_clamp (by omega)
    refine go_aload_n dX4_at_8 rfl ?_
    refine go_get dX4_at_9 fl_X4_21_4 hrb hb1 hb2 rfl ?_
    refine go_iload_n dX4_at_12 rfl ?_
    refine go_iald dX4_at_13 hra ha1 ha2 (vp_in_nI (n := ji) hji (by omega)) ?_
    refine go_tp (z := g ji) (by rw [nI_clamp (by omega)]) ?_
    refine go_goto dX4_at_14 ?_
    exact go_iret dX4_at_18 rfl (Nat.le_of_ble_eq_true rfl) (Nat.le_of_ble_eq_true rfl) (hQ9 ▸ ⟨rd_i (by unfold rdC; rw [if_pos c5, nI_clamp (by omega)]), rfl, rfl⟩)
set_option maxHeartbeats 4000000 in
set_option maxRecDepth 100000 in
theorem e_X4_digitAt (hrb : f b = ob 4 [.int so, .ref ar]) (hb1 : G.2.1 ≤ b) (hb2 : b < n) (hra : f ar = ia G R g) (ha1 : G.2.1 ≤ ar) (ha2 : ar < n) (hR : R ≤ 100) {i : Int32} : Ev G mX4_digitAt 3 0 0 [.ref b, .int i] f n (RD (.int (rdC g R i - 48)) f n) := by
  generalize hQ9 : (RD (.int (rdC g R i - 48)) f n : RQ) = Q9
  refine ev_of (by decide) (Nat.le_of_ble_eq_true rfl) (ls := [some (.ref b), some (.int i)]) rfl (fun hb => ?_)
  refine go_aload_n dX4_digitAt_0 rfl ?_
  refine go_iload_n dX4_digitAt_1 rfl ?_
  refine go_Vr [.int i] [] dX4_digitAt_2 vl_X4_29 ⟨by decide, by decide⟩ (e_X4_at hrb hb1 hb2 hra ha1 ha2 hR) hrb hb1 (by omega) rfl rfl (Nat.le_of_ble_eq_true rfl) (Nat.le_of_ble_eq_true rfl) (Nat.le_of_ble_eq_true rfl) ?_
  refine go_bipush (v := 48) dX4_digitAt_5 rfl ?_
  refine go_isub dX4_digitAt_7 ?_
  exact go_iret dX4_digitAt_8 rfl (Nat.le_of_ble_eq_true rfl) (Nat.le_of_ble_eq_true rfl) (hQ9 ▸ ⟨rfl, rfl, rfl⟩)
theorem look_def {so : Int32} {a b d : Int} (h : True) (e0 : ¬ so = 0) (e1 : ¬ so = 1) (hd : True) : Op.lookupswitch.offset [(0, a), (1, b)] d so.toInt = d := by
  show Op.lookupswitch.offset [((0 : Int32).toInt, a), ((1 : Int32).toInt, b)] d so.toInt = d
  rw [lv_osw (k := 0) e0 rfl, lv_osw (k := 1) e1 rfl]
  exact Op.lookupswitch.offset_nil _ _
set_option maxHeartbeats 4000000 in
set_option maxRecDepth 100000 in
theorem e_X4_lowestBits (hrb : f b = ob 4 [.int so, .ref ar]) (hb1 : G.2.1 ≤ b) (hb2 : b < n) (hra : f ar = ia G R g) (ha1 : G.2.1 ≤ ar) (ha2 : ar < n) (hR : R ≤ 100) {v : Int32} : Ev G mX4_lowestBits 1 0 0 [.ref b, .int v] f n (RD (.int (lbS so v)) f n) := by
  generalize hQ9 : (RD (.int (lbS so v)) f n : RQ) = Q9
  refine ev_of (by decide) (Nat.le_of_ble_eq_true rfl) (ls := [some (.ref b), some (.int v)]) rfl (fun hb => ?_)
  refine go_aload_n dX4_lowestBits_0 rfl ?_
  refine go_get dX4_lowestBits_1 fl_X4_9_4 hrb hb1 hb2 rfl ?_
  by_cases e0 : so = 0
  · refine go_lookIn dX4_lowestBits_4 (k := 0) (off := 28) (tgt := 32) e0 (by decide) (by decide) (by decide) ?_
    refine go_iload_n dX4_lowestBits_32 rfl ?_
    refine go_i2b dX4_lowestBits_33 ?_
    exact go_iret dX4_lowestBits_34 rfl (Nat.le_of_ble_eq_true rfl) (Nat.le_of_ble_eq_true rfl) (hQ9 ▸ ⟨rd_i (by simp [lbS, lnS, e0]), rfl, rfl⟩)
  · by_cases e1 : so = 1
    · refine go_lookIn dX4_lowestBits_4 (k := 1) (off := 31) (tgt := 35) e1 (by decide) (by decide) (by decide) ?_
      refine go_iload_n dX4_lowestBits_35 rfl ?_
      refine go_i2s dX4_lowestBits_36 ?_
      exact go_iret dX4_lowestBits_37 rfl (Nat.le_of_ble_eq_true rfl) (Nat.le_of_ble_eq_true rfl) (hQ9 ▸ ⟨rd_i (by simp [lbS, lnS, e0, e1]), rfl, rfl⟩)
    · refine go_lookup dX4_lowestBits_4 (off := 34) (tgt := 38) (by decide) (look_def trivial e0 e1 trivial) (by decide) ?_
      refine go_iload_n dX4_lowestBits_38 rfl ?_
      exact go_iret dX4_lowestBits_39 rfl (Nat.le_of_ble_eq_true rfl) (Nat.le_of_ble_eq_true rfl) (hQ9 ▸ ⟨rd_i (by simp [lbS, lnS, e0, e1]), rfl, rfl⟩)
set_option maxHeartbeats 4000000 in
set_option maxRecDepth 100000 in
theorem e_X4_leastNumber (hrb : f b = ob 4 [.int so, .ref ar]) (hb1 : G.2.1 ≤ b) (hb2 : b < n) (hra : f ar = ia G R g) (ha1 : G.2.1 ≤ ar) (ha2 : ar < n) (hR : R ≤ 100)  : Ev G mX4_leastNumber 1 0 0 [.ref b] f n (RD (.int (lnS so)) f n) := by
  generalize hQ9 : (RD (.int (lnS so)) f n : RQ) = Q9
  refine ev_of (by decide) (Nat.le_of_ble_eq_true rfl) (ls := [some (.ref b)]) rfl (fun hb => ?_)
  refine go_aload_n dX4_leastNumber_0 rfl ?_
  refine go_get dX4_leastNumber_1 fl_X4_9_4 hrb hb1 hb2 rfl ?_
  by_cases e0 : so = 0
  · refine go_lookIn dX4_leastNumber_4 (k := 0) (off := 28) (tgt := 32) e0 (by decide) (by decide) (by decide) ?_
    refine go_bipush (v := (-128)) dX4_leastNumber_32 rfl ?_
    exact go_iret dX4_leastNumber_34 rfl (Nat.le_of_ble_eq_true rfl) (Nat.le_of_ble_eq_true rfl) (hQ9 ▸ ⟨rd_i (by simp [lbS, lnS, e0]), rfl, rfl⟩)
  · by_cases e1 : so = 1
    · refine go_lookIn dX4_leastNumber_4 (k := 1) (off := 31) (tgt := 35) e1 (by decide) (by decide) (by decide) ?_
      refine go_sipush (v := (-32768)) dX4_leastNumber_35 rfl ?_
      exact go_iret dX4_leastNumber_38 rfl (Nat.le_of_ble_eq_true rfl) (Nat.le_of_ble_eq_true rfl) (hQ9 ▸ ⟨rd_i (by simp [lbS, lnS, e0, e1]), rfl, rfl⟩)
    · refine go_lookup dX4_leastNumber_4 (off := 35) (tgt := 39) (by decide) (look_def trivial e0 e1 trivial) (by decide) ?_
      refine go_ldc (v := -2147483648) dX4_leastNumber_39 wm_811 ?_
      exact go_iret dX4_leastNumber_41 rfl (Nat.le_of_ble_eq_true rfl) (Nat.le_of_ble_eq_true rfl) (hQ9 ▸ ⟨rd_i (by simp [lbS, lnS, e0, e1]), rfl, rfl⟩)
end C4
