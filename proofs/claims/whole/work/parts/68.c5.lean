theorem rdC_in {g : Nat → Int32} {R k : Nat} (h : k < R) (hR : R ≤ 100) : rdC g R (nI k) = g k := by
  unfold rdC
  rw [if_pos (okp_of h (by omega)), nI_clamp (by omega)]
def ctP (A : Nat → Nat → Int32) (g : Nat → Int32) (x : Int32) (a b : Nat) : Bool := decide (x = ((1 : Int32) <<< (nI a &&& 31)) ||| ((1 : Int32) <<< (nI b &&& 31)) ∧ g a = A 4 b ∧ g b = A 4 a)
def ffP (N M : Nat) (g : Nat → Int32) (i : Nat) : Bool := decide (¬ i < N ∨ ¬ plcS M (g i) = true ∨ (¬ g i = 9 ∧ ¬ cnS (fun j => decide (g j = g i)) i < 2))
section C5
variable {G : GX} {m0 f : Mem} {s n N M b ar R : Nat} {F : Nat → Int32} {W : Nat → Option Nat} {A : Nat → Nat → Int32} {B g : Nat → Int32} {so : Int32}
set_option maxHeartbeats 4000000 in
set_option maxRecDepth 100000 in
theorem e_X5_countAhead (hrb : f b = ob 4 [.int so, .ref ar]) (hb1 : G.2.1 ≤ b) (hb2 : b < n) (hra : f ar = ia G R g) (ha1 : G.2.1 ≤ ar) (ha2 : ar < n) (hR : R ≤ 100) {i : Nat} (hi : i < R) : Ev G mX5_countAhead 3 0 0 [.ref b, .int (nI i)] f n (RD (.int (cnS (fun z => decide (g z = g i)) i)) f n) := by
  generalize hQ9 : (RD (.int (cnS (fun z => decide (g z = g i)) i)) f n : RQ) = Q9
  refine ev_of (by decide) (Nat.le_of_ble_eq_true rfl) (ls := [some (.ref b), some (.int (nI i)), none, none]) rfl (fun hb => ?_)
  refine go_iconst (v := 0) dX5_countAhead_0 rfl ?_
  refine go_istore_n (ls' := [some (.ref b), some (.int (nI i)), some (.int 0), none]) dX5_countAhead_1 ⟨by decide, rfl, rfl⟩ ?_
  refine go_iconst (v := 0) dX5_countAhead_2 rfl ?_
  refine go_istore_n (ls' := [some (.ref b), some (.int (nI i)), some (.int 0), some (.int 0)]) dX5_countAhead_3 ⟨by decide, rfl, rfl⟩ ?_
  have lp0 : ∀ (μ_lp0 : Nat) (k j : Nat) (hk : k ≤ i) (hmk : i + 1 ≤ k + μ_lp0) (hjk : j ≤ k) (hx : nI j = cnS (fun z => decide (g z = g i)) k), Go G mX5_countAhead 3 0 0 Q9 0 0 4 [some (.ref b), some (.int (nI i)), some (.int (nI j)), some (.int (nI k))] [] f n := by
    intro μ_lp0
    induction μ_lp0 with
    | zero =>
      intro k j hk hmk hjk hx
      exact absurd hmk (by omega)
    | succ μ_lp0 ih_lp0 =>
      intro k j hk hmk hjk hx
      refine go_iload_n dX5_countAhead_4 rfl ?_
      refine go_iload_n dX5_countAhead_5 rfl ?_
      refine go_icmp_ge dX5_countAhead_6 (fun c6 => ?_) (fun c6 => ?_)
      · have c6n := (nI_leI (a := i) (b := k) (by omega) (by omega)).mp c6
        have c6n := Nat.not_lt.mpr c6n
        have c6 := Int32.not_lt.mpr c6
        refine go_iload_n dX5_countAhead_31 rfl ?_
        exact go_iret dX5_countAhead_32 rfl (Nat.le_of_ble_eq_true rfl) (Nat.le_of_ble_eq_true rfl) (hQ9 ▸ ⟨rd_i (by rw [hx, show k = i by omega]), rfl, rfl⟩)
      · have c6n := mt (nI_leI (a := i) (b := k) (by omega) (by omega)).mpr c6
        have c6n := Nat.lt_of_not_le c6n
        have c6 := Int32.not_le.mp c6
        refine go_aload_n dX5_countAhead_9 rfl ?_
        refine go_iload_n dX5_countAhead_10 rfl ?_
        refine go_Vr [.int (nI k)] [] dX5_countAhead_11 vl_X5_65 ⟨by decide, by decide⟩ (e_X4_at hrb hb1 hb2 hra ha1 ha2 hR) hrb hb1 (by omega) rfl rfl (Nat.le_of_ble_eq_true rfl) (Nat.le_of_ble_eq_true rfl) (Nat.le_of_ble_eq_true rfl) ?_
        refine go_tp (z := g k) (rdC_in (by omega) hR) ?_
        refine go_aload_n dX5_countAhead_14 rfl ?_
        refine go_iload_n dX5_countAhead_15 rfl ?_
        refine go_Vr [.int (nI i)] [.int (g k)] dX5_countAhead_16 vl_X5_65 ⟨by decide, by decide⟩ (e_X4_at hrb hb1 hb2 hra ha1 ha2 hR) hrb hb1 (by omega) rfl rfl (Nat.le_of_ble_eq_true rfl) (Nat.le_of_ble_eq_true rfl) (Nat.le_of_ble_eq_true rfl) ?_
        refine go_tp (z := g i) (rdC_in (by omega) hR) ?_
        refine go_icmp_ne dX5_countAhead_19 (fun c19 => ?_) (fun c19 => ?_)
        · refine go_iinc (v := nI (k + 1)) (ls' := [some (.ref b), some (.int (nI i)), some (.int (nI j)), some (.int (nI (k + 1)))]) dX5_countAhead_25 rfl (nI_1 (k)) ⟨by decide, rfl, rfl⟩ ?_
          refine go_goto dX5_countAhead_28 ?_
          exact ih_lp0 (k + 1) j (by omega) (by omega) (by omega) (by unfold cnS; rw [← hx]; simp [c19])
        · refine go_iinc (v := nI (j + 1)) (ls' := [some (.ref b), some (.int (nI i)), some (.int (nI (j + 1))), some (.int (nI k))]) dX5_countAhead_22 rfl (nI_1 (j)) ⟨by decide, rfl, rfl⟩ ?_
          refine go_iinc (v := nI (k + 1)) (ls' := [some (.ref b), some (.int (nI i)), some (.int (nI (j + 1))), some (.int (nI (k + 1)))]) dX5_countAhead_25 rfl (nI_1 (k)) ⟨by decide, rfl, rfl⟩ ?_
          refine go_goto dX5_countAhead_28 ?_
          exact ih_lp0 (k + 1) (j + 1) (by omega) (by omega) (by omega) (by unfold cnS; rw [← hx]; simp [c19, ← nI_1])
  exact lp0 (i + 1) 0 0 (Nat.zero_le _) (by omega) (Nat.zero_le _) rfl
theorem ff_no {N M i : Nat} {g : Nat → Int32} (h1 : i < N) (h2 : plcS M (g i) = true) (h3 : g i = 9 ∨ cnS (fun z => decide (g z = g i)) i < 2) : ¬ ffP N M g i = true := by
  intro z
  rcases of_decide_eq_true z with y | y | y
  · exact y h1
  · exact y h2
  · exact h3.elim y.1 y.2
theorem ff_yes {N M i : Nat} {g : Nat → Int32} (h : ¬ i < N ∨ ¬ plcS M (g i) = true ∨ (¬ g i = 9 ∧ ¬ cnS (fun z => decide (g z = g i)) i < 2)) : ffP N M g i = true := decide_eq_true h
set_option maxHeartbeats 4000000 in
set_option maxRecDepth 100000 in
theorem e_X5_firstForged (hq : G.2.1 ≤ s) (hn : s + 8 ≤ n) (hN : F 0 = nI N) (hN8 : N ≤ 8) (hM : F 1 = nI M) (hM5 : M ≤ 5) (hrb0 : m0 b = ob 4 [.int so, .ref ar]) (hbo : b < s ∨ s + 8 ≤ b) (hb1 : G.2.1 ≤ b) (hb2 : b < n) (hra0 : m0 ar = ia G R g) (hao : ar < s ∨ s + 8 ≤ ar) (ha1 : G.2.1 ≤ ar) (ha2 : ar < n) (hR : R ≤ 100) : Ev G mX5_firstForged 4 0 0 [.ref s, .ref b] (sc G m0 s F W A B) n (RD (.int (fsB (ffP N M g) 0 R)) (sc G m0 s F W A B) n) := by
  generalize hQ9 : (RD (.int (fsB (ffP N M g) 0 R)) (sc G m0 s F W A B) n : RQ) = Q9
  refine ev_of (by decide) (Nat.le_of_ble_eq_true rfl) (ls := [some (.ref s), some (.ref b), none, none]) rfl (fun hb => ?_)
  have hrb : sc G m0 s F W A B b = ob 4 [.int so, .ref ar] := (sc_out hbo).trans hrb0
  have hra : sc G m0 s F W A B ar = ia G R g := (sc_out hao).trans hra0
  refine go_iconst (v := 0) dX5_firstForged_0 rfl ?_
  refine go_istore_n (ls' := [some (.ref s), some (.ref b), some (.int 0), none]) dX5_firstForged_1 ⟨by decide, rfl, rfl⟩ ?_
  have lp0 : ∀ (μ_lp0 : Nat) (i : Nat) (hi : i ≤ R) (hmi : R + 1 ≤ i + μ_lp0) (hx : fsB (ffP N M g) 0 R = fsB (ffP N M g) i (R - i)), Go G mX5_firstForged 4 0 0 Q9 0 0 2 [some (.ref s), some (.ref b), some (.int (nI i)), none] [] (sc G m0 s F W A B) n := by
    intro μ_lp0
    induction μ_lp0 with
    | zero =>
      intro i hi hmi hx
      exact absurd hmi (by omega)
    | succ μ_lp0 ih_lp0 =>
      intro i hi hmi hx
      refine go_iload_n dX5_firstForged_2 rfl ?_
      refine go_aload_n dX5_firstForged_3 rfl ?_
      refine go_Vr [] [.int (nI i)] dX5_firstForged_4 vl_X5_151 ⟨by decide, by decide⟩ (e_X4_size hrb hb1 hb2 hra ha1 ha2 hR) hrb hb1 (by omega) rfl rfl (Nat.le_of_ble_eq_true rfl) (Nat.le_of_ble_eq_true rfl) (Nat.le_of_ble_eq_true rfl) ?_
      refine go_icmp_ge dX5_firstForged_7 (fun c7 => ?_) (fun c7 => ?_)
      · have c7n := (nI_leI (a := R) (b := i) (by omega) (by omega)).mp c7
        have c7n := Nat.not_lt.mpr c7n
        have c7 := Int32.not_lt.mpr c7
        refine go_bipush (v := (-4)) dX5_firstForged_55 rfl ?_
        exact go_iret dX5_firstForged_57 rfl (Nat.le_of_ble_eq_true rfl) (Nat.le_of_ble_eq_true rfl) (hQ9 ▸ ⟨rd_i (by rw [hx, show i = R by omega, fsB_0]), rfl, rfl⟩)
      · have c7n := mt (nI_leI (a := R) (b := i) (by omega) (by omega)).mpr c7
        have c7n := Nat.lt_of_not_le c7n
        have c7 := Int32.not_le.mp c7
        refine go_aload_n dX5_firstForged_10 rfl ?_
        refine go_iload_n dX5_firstForged_11 rfl ?_
        refine go_Vr [.int (nI i)] [] dX5_firstForged_12 vl_X5_65 ⟨by decide, by decide⟩ (e_X4_at hrb hb1 hb2 hra ha1 ha2 hR) hrb hb1 (by omega) rfl rfl (Nat.le_of_ble_eq_true rfl) (Nat.le_of_ble_eq_true rfl) (Nat.le_of_ble_eq_true rfl) ?_
        refine go_tp (z := g i) (rdC_in (by omega) hR) ?_
        refine go_istore_n (ls' := [some (.ref s), some (.ref b), some (.int (nI i)), some (.int (g i))]) dX5_firstForged_15 ⟨by decide, rfl, rfl⟩ ?_
        refine go_iload_n dX5_firstForged_16 rfl ?_
        refine go_aload_n dX5_firstForged_17 rfl ?_
        refine go_get dX5_firstForged_18 fl_X5_9_5 sc_obj hq (by omega) rfl ?_
        refine go_tp (z := nI N) (hN) ?_
        refine go_icmp_ge dX5_firstForged_21 (fun c21 => ?_) (fun c21 => ?_)
        · have c21n := (nI_leI (a := N) (b := i) (by omega) (by omega)).mp c21
          have c21n := Nat.not_lt.mpr c21n
          have c21 := Int32.not_lt.mpr c21
          refine go_iload_n dX5_firstForged_47 rfl ?_
          exact go_iret dX5_firstForged_48 rfl (Nat.le_of_ble_eq_true rfl) (Nat.le_of_ble_eq_true rfl) (hQ9 ▸ ⟨rd_i (by rw [hx, fsB_d (by omega), if_pos (ff_yes (Or.inl (by omega)))]), rfl, rfl⟩)
        · have c21n := mt (nI_leI (a := N) (b := i) (by omega) (by omega)).mpr c21
          have c21n := Nat.lt_of_not_le c21n
          have c21 := Int32.not_le.mp c21
          refine go_aload_n dX5_firstForged_24 rfl ?_
          refine go_iload_n dX5_firstForged_25 rfl ?_
          refine go_Vr [.int (g i)] [] dX5_firstForged_26 vl_X5_112 ⟨by decide, by decide⟩ (e_X5_hasPlace (F := F) (W := W) (A := A) (B := B) hq hn hM hM5) sc_obj hq (by omega) rfl rfl (Nat.le_of_ble_eq_true rfl) (Nat.le_of_ble_eq_true rfl) (Nat.le_of_ble_eq_true rfl) ?_
          refine go_if_eq dX5_firstForged_29 (fun c29 => ?_) (fun c29 => ?_)
          · have c29 := bz_f c29
            refine go_iload_n dX5_firstForged_47 rfl ?_
            exact go_iret dX5_firstForged_48 rfl (Nat.le_of_ble_eq_true rfl) (Nat.le_of_ble_eq_true rfl) (hQ9 ▸ ⟨rd_i (by rw [hx, fsB_d (by omega), if_pos (ff_yes (Or.inr (Or.inl c29)))]), rfl, rfl⟩)
          · have c29 := bz_t c29
            refine go_iload_n dX5_firstForged_32 rfl ?_
            refine go_bipush (v := 9) dX5_firstForged_33 rfl ?_
            refine go_icmp_eq dX5_firstForged_35 (fun c35 => ?_) (fun c35 => ?_)
            · refine go_iinc (v := nI (i + 1)) (ls' := [some (.ref s), some (.ref b), some (.int (nI (i + 1))), some (.int (g i))]) dX5_firstForged_49 rfl (nI_1 (i)) ⟨by decide, rfl, rfl⟩ ?_
              refine go_goto dX5_firstForged_52 ?_
              refine go_weak (ls' := [some (.ref s), some (.ref b), some (.int (nI (i + 1))), none]) ⟨rfl, rfl, rfl, trivial⟩ ?_
              exact ih_lp0 (i + 1) (by omega) (by omega) (by rw [hx, fsB_d (by omega), if_neg (ff_no (by omega) c29 (Or.inl c35))])
            · refine go_aload_n dX5_firstForged_38 rfl ?_
              refine go_iload_n dX5_firstForged_39 rfl ?_
              refine go_Sr [.ref b, .int (nI i)] [] dX5_firstForged_40 sl_X5_154 ⟨by decide, by decide⟩ (e_X5_countAhead hrb hb1 hb2 hra ha1 ha2 hR (by omega)) rfl rfl (Nat.le_of_ble_eq_true rfl) (Nat.le_of_ble_eq_true rfl) (Nat.le_of_ble_eq_true rfl) ?_
              refine go_iconst (v := 2) dX5_firstForged_43 rfl ?_
              refine go_icmp_lt dX5_firstForged_44 (fun c44 => ?_) (fun c44 => ?_)
              · refine go_iinc (v := nI (i + 1)) (ls' := [some (.ref s), some (.ref b), some (.int (nI (i + 1))), some (.int (g i))]) dX5_firstForged_49 rfl (nI_1 (i)) ⟨by decide, rfl, rfl⟩ ?_
                refine go_goto dX5_firstForged_52 ?_
                refine go_weak (ls' := [some (.ref s), some (.ref b), some (.int (nI (i + 1))), none]) ⟨rfl, rfl, rfl, trivial⟩ ?_
                exact ih_lp0 (i + 1) (by omega) (by omega) (by rw [hx, fsB_d (by omega), if_neg (ff_no (by omega) c29 (Or.inr c44))])
              · refine go_iload_n dX5_firstForged_47 rfl ?_
                exact go_iret dX5_firstForged_48 rfl (Nat.le_of_ble_eq_true rfl) (Nat.le_of_ble_eq_true rfl) (hQ9 ▸ ⟨rd_i (by rw [hx, fsB_d (by omega), if_pos (ff_yes (Or.inr (Or.inr ⟨c35, c44⟩)))]), rfl, rfl⟩)
  exact lp0 (R + 1) 0 (Nat.zero_le _) (by omega) rfl
set_option maxHeartbeats 4000000 in
set_option maxRecDepth 100000 in
theorem e_X5_otherwiseThan (hq : G.2.1 ≤ s) (hn : s + 8 ≤ n) (hN : F 0 = nI N) (hN8 : N ≤ 8) (hra0 : m0 ar = ia G R g) (hao : ar < s ∨ s + 8 ≤ ar) (ha1 : G.2.1 ≤ ar) (ha2 : ar < n) (hR : R ≤ 100) (hNR : N ≤ R) : Ev G mX5_otherwiseThan 1 0 0 [.ref s, .ref ar] (sc G m0 s F W A B) n (RD (.int (btB (fun p => decide (¬ A 4 p = g p)) N)) (sc G m0 s F W A B) n) := by
  generalize hQ9 : (RD (.int (btB (fun p => decide (¬ A 4 p = g p)) N)) (sc G m0 s F W A B) n : RQ) = Q9
  refine ev_of (by decide) (Nat.le_of_ble_eq_true rfl) (ls := [some (.ref s), some (.ref ar), none, none]) rfl (fun hb => ?_)
  have hra : sc G m0 s F W A B ar = ia G R g := (sc_out hao).trans hra0
  refine go_iconst (v := 0) dX5_otherwiseThan_0 rfl ?_
  refine go_istore_n (ls' := [some (.ref s), some (.ref ar), some (.int 0), none]) dX5_otherwiseThan_1 ⟨by decide, rfl, rfl⟩ ?_
  refine go_iconst (v := 0) dX5_otherwiseThan_2 rfl ?_
  refine go_istore_n (ls' := [some (.ref s), some (.ref ar), some (.int 0), some (.int 0)]) dX5_otherwiseThan_3 ⟨by decide, rfl, rfl⟩ ?_
  have lp0 : ∀ (μ_lp0 : Nat) (i : Nat) (x : Int32) (hi : i ≤ N) (hmi : N + 1 ≤ i + μ_lp0) (hx : x = btB (fun p => decide (¬ A 4 p = g p)) i), Go G mX5_otherwiseThan 1 0 0 Q9 0 0 4 [some (.ref s), some (.ref ar), some (.int x), some (.int (nI i))] [] (sc G m0 s F W A B) n := by
    intro μ_lp0
    induction μ_lp0 with
    | zero =>
      intro i x hi hmi hx
      exact absurd hmi (by omega)
    | succ μ_lp0 ih_lp0 =>
      intro i x hi hmi hx
      refine go_iload_n dX5_otherwiseThan_4 rfl ?_
      refine go_aload_n dX5_otherwiseThan_5 rfl ?_
      refine go_get dX5_otherwiseThan_6 fl_X5_9_5 sc_obj hq (by omega) rfl ?_
      refine go_tp (z := nI N) (hN) ?_
      refine go_icmp_ge dX5_otherwiseThan_9 (fun c9 => ?_) (fun c9 => ?_)
      · have c9n := (nI_leI (a := N) (b := i) (by omega) (by omega)).mp c9
        have c9n := Nat.not_lt.mpr c9n
        have c9 := Int32.not_lt.mpr c9
        refine go_iload_n dX5_otherwiseThan_42 rfl ?_
        exact go_iret dX5_otherwiseThan_43 rfl (Nat.le_of_ble_eq_true rfl) (Nat.le_of_ble_eq_true rfl) (hQ9 ▸ ⟨rd_i (by rw [hx, show i = N by omega]), rfl, rfl⟩)
      · have c9n := mt (nI_leI (a := N) (b := i) (by omega) (by omega)).mpr c9
        have c9n := Nat.lt_of_not_le c9n
        have c9 := Int32.not_le.mp c9
        refine go_iload_n dX5_otherwiseThan_12 rfl ?_
        refine go_aload_n dX5_otherwiseThan_13 rfl ?_
        refine go_alen dX5_otherwiseThan_14 (v := nI R) hra ha1 ha2 rfl ?_
        refine go_icmp_ge dX5_otherwiseThan_15 (fun c15 => ?_) (fun c15 => ?_)
        · have c15n := (nI_leI (a := R) (b := i) (by omega) (by omega)).mp c15
          have c15n := Nat.not_lt.mpr c15n
          have c15 := Int32.not_lt.mpr c15
          omega
        · have c15n := mt (nI_leI (a := R) (b := i) (by omega) (by omega)).mpr c15
          have c15n := Nat.lt_of_not_le c15n
          have c15 := Int32.not_le.mp c15
          refine go_aload_n dX5_otherwiseThan_18 rfl ?_
          refine go_get dX5_otherwiseThan_19 fl_X5_31_5 sc_obj hq (by omega) rfl ?_
          refine go_iload_n dX5_otherwiseThan_22 rfl ?_
          refine go_iald dX5_otherwiseThan_23 sc_3 (by omega) (by omega) (vp_in_nI (n := i) (by show i < 8; omega) (by decide)) ?_
          refine go_tp (z := A 4 i) (by rw [nI_clamp (by omega)]) ?_
          refine go_aload_n dX5_otherwiseThan_24 rfl ?_
          refine go_iload_n dX5_otherwiseThan_25 rfl ?_
          refine go_iald dX5_otherwiseThan_26 hra ha1 ha2 (vp_in_nI (n := i) (by show i < R; omega) (by omega)) ?_
          refine go_tp (z := g i) (by rw [nI_clamp (by omega)]) ?_
          refine go_icmp_eq dX5_otherwiseThan_27 (fun c27 => ?_) (fun c27 => ?_)
          · refine go_iinc (v := nI (i + 1)) (ls' := [some (.ref s), some (.ref ar), some (.int x), some (.int (nI (i + 1)))]) dX5_otherwiseThan_36 rfl (nI_1 (i)) ⟨by decide, rfl, rfl⟩ ?_
            refine go_goto dX5_otherwiseThan_39 ?_
            exact ih_lp0 (i + 1) _ (by omega) (by omega) (by simp [hx, btB, c9, c9n, c27])
          · refine go_iload_n dX5_otherwiseThan_30 rfl ?_
            refine go_iconst (v := 1) dX5_otherwiseThan_31 rfl ?_
            refine go_iload_n dX5_otherwiseThan_32 rfl ?_
            refine go_ishl dX5_otherwiseThan_33 ?_
            refine go_ior dX5_otherwiseThan_34 ?_
            refine go_istore_n (ls' := [some (.ref s), some (.ref ar), some (.int (x ||| ((1) <<< ((nI i) &&& 31)))), some (.int (nI i))]) dX5_otherwiseThan_35 ⟨by decide, rfl, rfl⟩ ?_
            refine go_iinc (v := nI (i + 1)) (ls' := [some (.ref s), some (.ref ar), some (.int (x ||| ((1) <<< ((nI i) &&& 31)))), some (.int (nI (i + 1)))]) dX5_otherwiseThan_36 rfl (nI_1 (i)) ⟨by decide, rfl, rfl⟩ ?_
            refine go_goto dX5_otherwiseThan_39 ?_
            exact ih_lp0 (i + 1) _ (by omega) (by omega) (by simp [hx, btB, c9, c9n, c27])
  exact lp0 (N + 1) 0 _ (Nat.zero_le _) (by omega) (rfl)
set_option maxHeartbeats 4000000 in
set_option maxRecDepth 100000 in
theorem e_X5_changeThatLeadsTo (hq : G.2.1 ≤ s) (hn : s + 8 ≤ n) (hN : F 0 = nI N) (hN8 : N ≤ 8) (hra0 : m0 ar = ia G R g) (hao : ar < s ∨ s + 8 ≤ ar) (ha1 : G.2.1 ≤ ar) (ha2 : ar < n) (hR : R ≤ 100) (hNR : N ≤ R) {x : Int32} : Ev G mX5_changeThatLeadsTo 1 0 0 [.ref s, .ref ar, .int x] (sc G m0 s F W A B) n (RD (.int (f2B (ctP A g x) N 0 N)) (sc G m0 s F W A B) n) := by
  generalize hQ9 : (RD (.int (f2B (ctP A g x) N 0 N)) (sc G m0 s F W A B) n : RQ) = Q9
  refine ev_of (by decide) (Nat.le_of_ble_eq_true rfl) (ls := [some (.ref s), some (.ref ar), some (.int x), none, none, none]) rfl (fun hb => ?_)
  have hra : sc G m0 s F W A B ar = ia G R g := (sc_out hao).trans hra0
  refine go_iconst (v := 0) dX5_changeThatLeadsTo_0 rfl ?_
  refine go_istore_n (ls' := [some (.ref s), some (.ref ar), some (.int x), some (.int 0), none, none]) dX5_changeThatLeadsTo_1 ⟨by decide, rfl, rfl⟩ ?_
  have lp0 : ∀ (μ_lp0 : Nat) (i : Nat) (hi : i ≤ N) (hmi : N + 1 ≤ i + μ_lp0) (hx : f2B (ctP A g x) N 0 N = f2B (ctP A g x) N i (N - i)), Go G mX5_changeThatLeadsTo 1 0 0 Q9 0 0 2 [some (.ref s), some (.ref ar), some (.int x), some (.int (nI i)), none, none] [] (sc G m0 s F W A B) n := by
    intro μ_lp0
    induction μ_lp0 with
    | zero =>
      intro i hi hmi hx
      exact absurd hmi (by omega)
    | succ μ_lp0 ih_lp0 =>
      intro i hi hmi hx
      refine go_iload_n dX5_changeThatLeadsTo_2 rfl ?_
      refine go_aload_n dX5_changeThatLeadsTo_3 rfl ?_
      refine go_get dX5_changeThatLeadsTo_4 fl_X5_9_5 sc_obj hq (by omega) rfl ?_
      refine go_tp (z := nI N) (hN) ?_
      refine go_icmp_ge dX5_changeThatLeadsTo_7 (fun c7 => ?_) (fun c7 => ?_)
      · have c7n := (nI_leI (a := N) (b := i) (by omega) (by omega)).mp c7
        have c7n := Nat.not_lt.mpr c7n
        have c7 := Int32.not_lt.mpr c7
        refine go_bipush (v := (-4)) dX5_changeThatLeadsTo_101 rfl ?_
        exact go_iret dX5_changeThatLeadsTo_103 rfl (Nat.le_of_ble_eq_true rfl) (Nat.le_of_ble_eq_true rfl) (hQ9 ▸ ⟨rd_i (by rw [hx, show i = N by omega, f2B_0]), rfl, rfl⟩)
      · have c7n := mt (nI_leI (a := N) (b := i) (by omega) (by omega)).mpr c7
        have c7n := Nat.lt_of_not_le c7n
        have c7 := Int32.not_le.mp c7
        refine go_iload_n dX5_changeThatLeadsTo_10 rfl ?_
        refine go_iconst (v := 1) dX5_changeThatLeadsTo_11 rfl ?_
        refine go_iadd dX5_changeThatLeadsTo_12 ?_
        refine go_tp (z := nI (i + 1)) (nI_add i 1) ?_
        refine go_istore (ls' := [some (.ref s), some (.ref ar), some (.int x), some (.int (nI i)), some (.int (nI (i + 1))), none]) dX5_changeThatLeadsTo_13 ⟨by decide, rfl, rfl⟩ ?_
        have lp1 : ∀ (μ_lp1 : Nat) (k : Nat) (hk0 : i + 1 ≤ k) (hk : k ≤ N) (hmk : N + 1 ≤ k + μ_lp1) (hy : f1B (ctP A g x i) i (f2B (ctP A g x) N (i + 1) (N - (i + 1))) (i + 1) (N - (i + 1)) = f1B (ctP A g x i) i (f2B (ctP A g x) N (i + 1) (N - (i + 1))) k (N - k)), Go G mX5_changeThatLeadsTo 1 0 0 Q9 0 0 15 [some (.ref s), some (.ref ar), some (.int x), some (.int (nI i)), some (.int (nI k)), none] [] (sc G m0 s F W A B) n := by
          intro μ_lp1
          induction μ_lp1 with
          | zero =>
            intro k hk0 hk hmk hy
            exact absurd hmk (by omega)
          | succ μ_lp1 ih_lp1 =>
            intro k hk0 hk hmk hy
            refine go_iload dX5_changeThatLeadsTo_15 rfl ?_
            refine go_aload_n dX5_changeThatLeadsTo_17 rfl ?_
            refine go_get dX5_changeThatLeadsTo_18 fl_X5_9_5 sc_obj hq (by omega) rfl ?_
            refine go_tp (z := nI N) (hN) ?_
            refine go_icmp_ge dX5_changeThatLeadsTo_21 (fun c21 => ?_) (fun c21 => ?_)
            · have c21n := (nI_leI (a := N) (b := k) (by omega) (by omega)).mp c21
              have c21n := Nat.not_lt.mpr c21n
              have c21 := Int32.not_lt.mpr c21
              refine go_iinc (v := nI (i + 1)) (ls' := [some (.ref s), some (.ref ar), some (.int x), some (.int (nI (i + 1))), some (.int (nI k)), none]) dX5_changeThatLeadsTo_95 rfl (nI_1 (i)) ⟨by decide, rfl, rfl⟩ ?_
              refine go_goto dX5_changeThatLeadsTo_98 ?_
              refine go_weak (ls' := [some (.ref s), some (.ref ar), some (.int x), some (.int (nI (i + 1))), none, none]) ⟨rfl, rfl, rfl, rfl, trivial⟩ ?_
              exact ih_lp0 (i + 1) (by omega) (by omega) (by rw [hx, f2B_d (by omega), hy, show k = N by omega, f1B_0])
            · have c21n := mt (nI_leI (a := N) (b := k) (by omega) (by omega)).mpr c21
              have c21n := Nat.lt_of_not_le c21n
              have c21 := Int32.not_le.mp c21
              refine go_iload dX5_changeThatLeadsTo_24 rfl ?_
              refine go_aload_n dX5_changeThatLeadsTo_26 rfl ?_
              refine go_alen dX5_changeThatLeadsTo_27 (v := nI R) hra ha1 ha2 rfl ?_
              refine go_icmp_ge dX5_changeThatLeadsTo_28 (fun c28 => ?_) (fun c28 => ?_)
              · have c28n := (nI_leI (a := R) (b := k) (by omega) (by omega)).mp c28
                have c28n := Nat.not_lt.mpr c28n
                have c28 := Int32.not_lt.mpr c28
                omega
              · have c28n := mt (nI_leI (a := R) (b := k) (by omega) (by omega)).mpr c28
                have c28n := Nat.lt_of_not_le c28n
                have c28 := Int32.not_le.mp c28
                refine go_iload_n dX5_changeThatLeadsTo_31 rfl ?_
                refine go_iconst (v := 1) dX5_changeThatLeadsTo_32 rfl ?_
                refine go_iload_n dX5_changeThatLeadsTo_33 rfl ?_
                refine go_ishl dX5_changeThatLeadsTo_34 ?_
                refine go_iconst (v := 1) dX5_changeThatLeadsTo_35 rfl ?_
                refine go_iload dX5_changeThatLeadsTo_36 rfl ?_
                refine go_ishl dX5_changeThatLeadsTo_38 ?_
                refine go_ior dX5_changeThatLeadsTo_39 ?_
                refine go_icmp_ne dX5_changeThatLeadsTo_40 (fun c40 => ?_) (fun c40 => ?_)
                · refine go_iconst (v := 0) dX5_changeThatLeadsTo_47 rfl ?_
                  refine go_istore (ls' := [some (.ref s), some (.ref ar), some (.int x), some (.int (nI i)), some (.int (nI k)), some (.int 0)]) dX5_changeThatLeadsTo_48 ⟨by decide, rfl, rfl⟩ ?_
                  refine go_iload dX5_changeThatLeadsTo_50 rfl ?_
                  refine go_if_eq dX5_changeThatLeadsTo_52 (fun c52 => ?_) (fun c52 => ?_)
                  · have c52n := (n0_eq (a := 0) (by omega)).mp c52
                    refine go_iinc (v := nI (k + 1)) (ls' := [some (.ref s), some (.ref ar), some (.int x), some (.int (nI i)), some (.int (nI (k + 1))), some (.int 0)]) dX5_changeThatLeadsTo_89 rfl (nI_1 (k)) ⟨by decide, rfl, rfl⟩ ?_
                    refine go_goto dX5_changeThatLeadsTo_92 ?_
                    refine go_weak (ls' := [some (.ref s), some (.ref ar), some (.int x), some (.int (nI i)), some (.int (nI (k + 1))), none]) ⟨rfl, rfl, rfl, rfl, rfl, trivial⟩ ?_
                    exact ih_lp1 (k + 1) (by omega) (by omega) (by omega) (by rw [hy, f1B_d (by omega)]; simp [ctP, c40])
                  · have c52n := mt (n0_eq (a := 0) (by omega)).mpr c52
                    first | exact absurd c52n (by decide) | exact absurd (by decide) c52n | exact absurd rfl c52n | omega
                · refine go_iconst (v := 1) dX5_changeThatLeadsTo_43 rfl ?_
                  refine go_goto dX5_changeThatLeadsTo_44 ?_
                  refine go_istore (ls' := [some (.ref s), some (.ref ar), some (.int x), some (.int (nI i)), some (.int (nI k)), some (.int 1)]) dX5_changeThatLeadsTo_48 ⟨by decide, rfl, rfl⟩ ?_
                  refine go_iload dX5_changeThatLeadsTo_50 rfl ?_
                  refine go_if_eq dX5_changeThatLeadsTo_52 (fun c52 => ?_) (fun c52 => ?_)
                  · have c52n := (n0_eq (a := 1) (by omega)).mp c52
                    first | exact absurd c52n (by decide) | exact absurd (by decide) c52n | exact absurd rfl c52n | omega
                  · have c52n := mt (n0_eq (a := 1) (by omega)).mpr c52
                    refine go_aload_n dX5_changeThatLeadsTo_55 rfl ?_
                    refine go_iload_n dX5_changeThatLeadsTo_56 rfl ?_
                    refine go_iald dX5_changeThatLeadsTo_57 hra ha1 ha2 (vp_in_nI (n := i) (by show i < R; omega) (by omega)) ?_
                    refine go_tp (z := g i) (by rw [nI_clamp (by omega)]) ?_
                    refine go_aload_n dX5_changeThatLeadsTo_58 rfl ?_
                    refine go_get dX5_changeThatLeadsTo_59 fl_X5_31_5 sc_obj hq (by omega) rfl ?_
                    refine go_iload dX5_changeThatLeadsTo_62 rfl ?_
                    refine go_iald dX5_changeThatLeadsTo_64 sc_3 (by omega) (by omega) (vp_in_nI (n := k) (by show k < 8; omega) (by decide)) ?_
                    refine go_tp (z := A 4 k) (by rw [nI_clamp (by omega)]) ?_
                    refine go_icmp_ne dX5_changeThatLeadsTo_65 (fun c65 => ?_) (fun c65 => ?_)
                    · refine go_iinc (v := nI (k + 1)) (ls' := [some (.ref s), some (.ref ar), some (.int x), some (.int (nI i)), some (.int (nI (k + 1))), some (.int 1)]) dX5_changeThatLeadsTo_89 rfl (nI_1 (k)) ⟨by decide, rfl, rfl⟩ ?_
                      refine go_goto dX5_changeThatLeadsTo_92 ?_
                      refine go_weak (ls' := [some (.ref s), some (.ref ar), some (.int x), some (.int (nI i)), some (.int (nI (k + 1))), none]) ⟨rfl, rfl, rfl, rfl, rfl, trivial⟩ ?_
                      exact ih_lp1 (k + 1) (by omega) (by omega) (by omega) (by rw [hy, f1B_d (by omega)]; simp [ctP, c40, c65])
                    · refine go_aload_n dX5_changeThatLeadsTo_68 rfl ?_
                      refine go_iload dX5_changeThatLeadsTo_69 rfl ?_
                      refine go_iald dX5_changeThatLeadsTo_71 hra ha1 ha2 (vp_in_nI (n := k) (by show k < R; omega) (by omega)) ?_
                      refine go_tp (z := g k) (by rw [nI_clamp (by omega)]) ?_
                      refine go_aload_n dX5_changeThatLeadsTo_72 rfl ?_
                      refine go_get dX5_changeThatLeadsTo_73 fl_X5_31_5 sc_obj hq (by omega) rfl ?_
                      refine go_iload_n dX5_changeThatLeadsTo_76 rfl ?_
                      refine go_iald dX5_changeThatLeadsTo_77 sc_3 (by omega) (by omega) (vp_in_nI (n := i) (by show i < 8; omega) (by decide)) ?_
                      refine go_tp (z := A 4 i) (by rw [nI_clamp (by omega)]) ?_
                      refine go_icmp_ne dX5_changeThatLeadsTo_78 (fun c78 => ?_) (fun c78 => ?_)
                      · refine go_iinc (v := nI (k + 1)) (ls' := [some (.ref s), some (.ref ar), some (.int x), some (.int (nI i)), some (.int (nI (k + 1))), some (.int 1)]) dX5_changeThatLeadsTo_89 rfl (nI_1 (k)) ⟨by decide, rfl, rfl⟩ ?_
                        refine go_goto dX5_changeThatLeadsTo_92 ?_
                        refine go_weak (ls' := [some (.ref s), some (.ref ar), some (.int x), some (.int (nI i)), some (.int (nI (k + 1))), none]) ⟨rfl, rfl, rfl, rfl, rfl, trivial⟩ ?_
                        exact ih_lp1 (k + 1) (by omega) (by omega) (by omega) (by rw [hy, f1B_d (by omega)]; simp [ctP, c40, c65, c78])
                      · refine go_bipush (v := 10) dX5_changeThatLeadsTo_81 rfl ?_
                        refine go_iload_n dX5_changeThatLeadsTo_83 rfl ?_
                        refine go_imul dX5_changeThatLeadsTo_84 ?_
                        refine go_tp (z := nI (10 * i)) (pk_mul 10 i) ?_
                        refine go_iload dX5_changeThatLeadsTo_85 rfl ?_
                        refine go_iadd dX5_changeThatLeadsTo_87 ?_
                        refine go_tp (z := nI ((10 * i) + k)) (nI_add (10 * i) k) ?_
                        exact go_iret dX5_changeThatLeadsTo_88 rfl (Nat.le_of_ble_eq_true rfl) (Nat.le_of_ble_eq_true rfl) (hQ9 ▸ ⟨rd_i (by rw [hx, f2B_d (by omega), hy, f1B_d (by omega)]; simp [ctP, c40, c65, c78]), rfl, rfl⟩)
        exact lp1 (N + 1) (i + 1) (Nat.le_refl _) (by omega) (by omega) rfl
  exact lp0 (N + 1) 0 (Nat.zero_le _) (by omega) rfl
set_option maxHeartbeats 4000000 in
set_option maxRecDepth 100000 in
theorem e_X5_changeFirstAgreed (hq : G.2.1 ≤ s) (hn : s + 8 ≤ n) (hN : F 0 = nI N) (hN8 : N ≤ 8) (hM : F 1 = nI M) (hM5 : M ≤ 5) (hbe : ∀ a b, a < N → b < N → B (a * 8 + b) = brS A a b) (hw : whoOK G m0 s n W A) (hab : ∀ l, l < M → A 6 l = 0 ∨ A 6 l = 1) (hI : insOK N M (A 4)) : Ev G mX5_changeFirstAgreed 6 0 0 [.ref s] (sc G m0 s F W A B) n (fun r f1 n1 => r = some (.int (if f2B (agP N A) N 0 N = -4 then 0 else 1)) ∧ f1 = sc G m0 s F W (if f2B (agP N A) N 0 N = -4 then A else chg A (f2B (agP N A) N 0 N)) B ∧ n1 = n) := by
  generalize hQ9 : (fun r f1 n1 => r = some (.int (if f2B (agP N A) N 0 N = -4 then 0 else 1)) ∧ f1 = sc G m0 s F W (if f2B (agP N A) N 0 N = -4 then A else chg A (f2B (agP N A) N 0 N)) B ∧ n1 = n : RQ) = Q9
  refine ev_of (by decide) (Nat.le_of_ble_eq_true rfl) (ls := [some (.ref s), none]) rfl (fun hb => ?_)
  refine go_aload_n dX5_changeFirstAgreed_0 rfl ?_
  refine go_Vr [] [] dX5_changeFirstAgreed_1 vl_X5_148 ⟨by decide, by decide⟩ (e_X5_firstAgreed (F := F) (W := W) (A := A) (B := B) hq hn hN hN8 hM hM5 hbe hw hab hI) sc_obj hq (by omega) rfl rfl (Nat.le_of_ble_eq_true rfl) (Nat.le_of_ble_eq_true rfl) (Nat.le_of_ble_eq_true rfl) ?_
  refine go_istore_n (ls' := [some (.ref s), some (.int (f2B (agP N A) N 0 N))]) dX5_changeFirstAgreed_4 ⟨by decide, rfl, rfl⟩ ?_
  refine go_iload_n dX5_changeFirstAgreed_5 rfl ?_
  refine go_bipush (v := (-4)) dX5_changeFirstAgreed_6 rfl ?_
  refine go_icmp_eq dX5_changeFirstAgreed_8 (fun c8 => ?_) (fun c8 => ?_)
  · refine go_iconst (v := 0) dX5_changeFirstAgreed_31 rfl ?_
    exact go_zret dX5_changeFirstAgreed_32 rfl (Nat.le_of_ble_eq_true rfl) (Nat.le_of_ble_eq_true rfl) (rfl) (hQ9 ▸ ⟨rd_i (by rw [if_pos c8]), by rw [if_pos c8], rfl⟩)
  · obtain ⟨a, b, -, hab2, hbN, hP, ex⟩ := (f2B_nI (P := agP N A) (N := N) N 0 (by omega)).resolve_left c8
    have hun : ¬ A 4 a = A 4 b := (of_decide_eq_true hP).1
    refine go_ls (ls' := [some (.ref s), some (.int (nI (10 * a + b)))]) (by rw [ex]) ?_
    refine go_aload_n dX5_changeFirstAgreed_11 rfl ?_
    refine go_iload_n dX5_changeFirstAgreed_12 rfl ?_
    refine go_bipush (v := 10) dX5_changeFirstAgreed_13 rfl ?_
    refine go_idiv dX5_changeFirstAgreed_15 (by decide) ?_
    refine go_tp (z := nI ((10 * a + b) / 10)) (pk_div (a := 10 * a + b) (d := 10) (by omega) (by omega) (by omega)) ?_
    refine go_tp (z := nI a) (by rw [show (10 * a + b) / 10 = a by omega]) ?_
    refine go_iload_n dX5_changeFirstAgreed_16 rfl ?_
    refine go_bipush (v := 10) dX5_changeFirstAgreed_17 rfl ?_
    refine go_irem dX5_changeFirstAgreed_19 (by decide) ?_
    refine go_tp (z := nI ((10 * a + b) % 10)) (pk_rem (a := 10 * a + b) (d := 10) (by omega) (by omega) (by omega)) ?_
    refine go_tp (z := nI b) (by rw [show (10 * a + b) % 10 = b by omega]) ?_
    refine go_V [.int (nI a), .int (nI b)] [] dX5_changeFirstAgreed_20 vl_X5_83 ⟨by decide, by decide⟩ (e_X5_change (F := F) (W := W) (A := A) (B := B) hq hn hN hN8) sc_obj hq (by omega) rfl rfl (Nat.le_of_ble_eq_true rfl) (Nat.le_of_ble_eq_true rfl) (Nat.le_of_ble_eq_true rfl) (fun r20 f20 n20 h20 => ?_)
    obtain ⟨rfl, rfl, hn20⟩ := h20
    subst n20
    have ht2 : twoS N (nI a) (nI b) = true := twoS_i.mpr ⟨okp_of (by omega) (by omega), okp_of hbN (by omega), fun z => by have := (nI_eq (a := a) (b := b) (by omega) (by omega)).mp z; omega⟩
    have hch : chA N A (nI a) (nI b) = swS A a b := by unfold chA; rw [if_pos ht2, nI_clamp (by omega), nI_clamp (by omega)]
    have hch1 : chR N A (nI a) (nI b) = 1 := by unfold chR; rw [if_pos ht2, nI_clamp (by omega), nI_clamp (by omega), if_neg hun]
    refine go_mem (f' := (sc G m0 s F W (swS A a b) B)) (by rw [hch]) ?_
    refine go_tp (z := 1) hch1 ?_
    refine go_iconst (v := 1) dX5_changeFirstAgreed_23 rfl ?_
    refine go_icmp_ne dX5_changeFirstAgreed_24 (fun c24 => ?_) (fun c24 => ?_)
    · have c24n := mt (nI_eq (a := 1) (b := 1) (by omega) (by omega)).mpr c24
      first | exact absurd c24n (by decide) | exact absurd (by decide) c24n | exact absurd rfl c24n | omega
    · have c24n := (nI_eq (a := 1) (b := 1) (by omega) (by omega)).mp c24
      refine go_iconst (v := 1) dX5_changeFirstAgreed_27 rfl ?_
      refine go_goto dX5_changeFirstAgreed_28 ?_
      exact go_zret dX5_changeFirstAgreed_32 rfl (Nat.le_of_ble_eq_true rfl) (Nat.le_of_ble_eq_true rfl) (rfl) (hQ9 ▸ ⟨rd_i (by rw [if_neg c8]), by rw [if_neg c8, chg_i (by omega) (by omega) ex], rfl⟩)
set_option maxHeartbeats 4000000 in
set_option maxRecDepth 100000 in
theorem e_X5_sitByList (hq : G.2.1 ≤ s) (hn : s + 8 ≤ n) (hN : F 0 = nI N) (hN8 : N ≤ 8) (hM : F 1 = nI M) (hM5 : M ≤ 5) : Ev G mX5_sitByList 2 0 0 [.ref s] (sc G m0 s F W A B) n (fun r f1 n1 => r = none ∧ f1 = sc G m0 s F W (liA N M A) B ∧ n1 = n) := by
  generalize hQ9 : (fun r f1 n1 => r = none ∧ f1 = sc G m0 s F W (liA N M A) B ∧ n1 = n : RQ) = Q9
  refine ev_of (by decide) (Nat.le_of_ble_eq_true rfl) (ls := [some (.ref s), none, none]) rfl (fun hb => ?_)
  refine go_iconst (v := 0) dX5_sitByList_0 rfl ?_
  refine go_istore_n (ls' := [some (.ref s), some (.int 0), none]) dX5_sitByList_1 ⟨by decide, rfl, rfl⟩ ?_
  have lp0 : ∀ (μ_lp0 : Nat) (i : Nat) (hi : i ≤ N) (hmi : N + 1 ≤ i + μ_lp0), Go G mX5_sitByList 2 0 0 Q9 0 0 2 [some (.ref s), some (.int (nI i)), none] [] (sc G m0 s F W (liA i M A) B) n := by
    intro μ_lp0
    induction μ_lp0 with
    | zero =>
      intro i hi hmi
      exact absurd hmi (by omega)
    | succ μ_lp0 ih_lp0 =>
      intro i hi hmi
      refine go_iload_n dX5_sitByList_2 rfl ?_
      refine go_aload_n dX5_sitByList_3 rfl ?_
      refine go_get dX5_sitByList_4 fl_X5_9_5 sc_obj hq (by omega) rfl ?_
      refine go_tp (z := nI N) (hN) ?_
      refine go_icmp_ge dX5_sitByList_7 (fun c7 => ?_) (fun c7 => ?_)
      · have c7n := (nI_leI (a := N) (b := i) (by omega) (by omega)).mp c7
        have c7n := Nat.not_lt.mpr c7n
        have c7 := Int32.not_lt.mpr c7
        exact go_vret dX5_sitByList_40 rfl (Nat.le_of_ble_eq_true rfl) (Nat.le_of_ble_eq_true rfl) (hQ9 ▸ ⟨rfl, by rw [show i = N by omega], rfl⟩)
      · have c7n := mt (nI_leI (a := N) (b := i) (by omega) (by omega)).mpr c7
        have c7n := Nat.lt_of_not_le c7n
        have c7 := Int32.not_le.mp c7
        refine go_iload_n dX5_sitByList_10 rfl ?_
        refine go_iconst (v := 2) dX5_sitByList_11 rfl ?_
        refine go_idiv dX5_sitByList_12 (by decide) ?_
        refine go_tp (z := nI (i / 2)) (pk_div (a := i) (d := 2) (by omega) (by omega) (by omega)) ?_
        refine go_istore_n (ls' := [some (.ref s), some (.int (nI i)), some (.int (nI (i / 2)))]) dX5_sitByList_13 ⟨by decide, rfl, rfl⟩ ?_
        refine go_aload_n dX5_sitByList_14 rfl ?_
        refine go_get dX5_sitByList_15 fl_X5_31_5 sc_obj hq (by omega) rfl ?_
        refine go_iload_n dX5_sitByList_18 rfl ?_
        refine go_aload_n dX5_sitByList_19 rfl ?_
        refine go_iload_n dX5_sitByList_20 rfl ?_
        refine go_Vr [.int (nI (i / 2))] [.int (nI i), .ref (s + 3)] dX5_sitByList_21 vl_X5_55 ⟨by decide, by decide⟩ (e_X5_hasLocker (F := F) (W := W) (A := (liA i M A)) (B := B) hq hn hM hM5) sc_obj hq (by omega) rfl rfl (Nat.le_of_ble_eq_true rfl) (Nat.le_of_ble_eq_true rfl) (Nat.le_of_ble_eq_true rfl) ?_
        refine go_if_eq dX5_sitByList_24 (fun c24 => ?_) (fun c24 => ?_)
        · have c24 := bz_f c24
          have c24_n := okp_ge c24 (by omega) (by omega)
          refine go_bipush (v := 9) dX5_sitByList_31 rfl ?_
          refine go_iast dX5_sitByList_33 sc_3 (by omega) (by omega) (vp_in_nI (n := i) (by show i < 8; omega) (by decide)) ?_
          refine go_mem (sc_set3 _ _) ?_
          rw [nI_clamp (by omega)]
          refine go_iinc (v := nI (i + 1)) (ls' := [some (.ref s), some (.int (nI (i + 1))), some (.int (nI (i / 2)))]) dX5_sitByList_34 rfl (nI_1 (i)) ⟨by decide, rfl, rfl⟩ ?_
          refine go_goto dX5_sitByList_37 ?_
          refine go_weak (ls' := [some (.ref s), some (.int (nI (i + 1))), none]) ⟨rfl, rfl, trivial⟩ ?_
          refine go_mem (f' := (sc G m0 s F W (liA (i + 1) M A) B)) (by rw [← liA_s, show liV M i = (9) by unfold liV; rw [if_neg (fun z => c24 (okp_of z (by omega)))]]) ?_
          exact ih_lp0 (i + 1) (by omega) (by omega)
        · have c24 := bz_t c24
          have c24_n := okp_lt c24 (by omega) (by omega)
          refine go_iload_n dX5_sitByList_27 rfl ?_
          refine go_goto dX5_sitByList_28 ?_
          refine go_iast dX5_sitByList_33 sc_3 (by omega) (by omega) (vp_in_nI (n := i) (by show i < 8; omega) (by decide)) ?_
          refine go_mem (sc_set3 _ _) ?_
          rw [nI_clamp (by omega)]
          refine go_iinc (v := nI (i + 1)) (ls' := [some (.ref s), some (.int (nI (i + 1))), some (.int (nI (i / 2)))]) dX5_sitByList_34 rfl (nI_1 (i)) ⟨by decide, rfl, rfl⟩ ?_
          refine go_goto dX5_sitByList_37 ?_
          refine go_weak (ls' := [some (.ref s), some (.int (nI (i + 1))), none]) ⟨rfl, rfl, trivial⟩ ?_
          refine go_mem (f' := (sc G m0 s F W (liA (i + 1) M A) B)) (by rw [← liA_s, show liV M i = (nI (i / 2)) by unfold liV; rw [if_pos (okp_lt c24 (by omega) (by omega))]]) ?_
          exact ih_lp0 (i + 1) (by omega) (by omega)
  refine go_mem (f' := (sc G m0 s F W (liA 0 M A) B)) (by rw [liA_0]) ?_
  exact lp0 (N + 1) 0 (Nat.zero_le _) (by omega)
end C5
