def whoOK (G : GX) (m0 : Mem) (s n : Nat) (W : Nat → Option Nat) (A : Nat → Nat → Int32) : Prop := ∀ p, p < 8 → ∃ a, W p = some a ∧ oneM G m0 n a (A 1 p) (A 2 p) ∧ (a < s ∨ s + 8 ≤ a)
theorem oneM.sc {G : GX} {m0 : Mem} {s n a : Nat} {F : Nat → Int32} {W : Nat → Option Nat} {A : Nat → Nat → Int32} {B : Nat → Int32} {k g : Int32} (h : oneM G m0 n a k g) (ho : a < s ∨ s + 8 ≤ a) : oneM G (sc G m0 s F W A B) n a k g := by
  obtain ⟨kk, gg, h1, h2, h3, h4, h5, h6, h7⟩ := h
  exact ⟨kk, gg, h1, h2, h3, h4, (sc_out ho).trans h5, h6, h7⟩
theorem who_at {G : GX} {m0 : Mem} {s n : Nat} {F : Nat → Int32} {W W' : Nat → Option Nat} {A A' : Nat → Nat → Int32} {B : Nat → Int32} (h : whoOK G m0 s n W A) (p : Nat) (hp : p < 8) : ∃ a, W p = some a ∧ oneM G (sc G m0 s F W' A' B) n a (A 1 p) (A 2 p) := by
  obtain ⟨a, h1, h2, h3⟩ := h p hp
  exact ⟨a, h1, h2.sc h3⟩
theorem oneCi_q {k : Nat} (h : k < 8) : vwCl[oneCi k]? = some (vwCl[oneCi k]'(by rcases nt_k h with rfl | rfl | rfl | rfl | rfl | rfl | rfl | rfl <;> decide)) := List.getElem?_eq_getElem _
theorem oneCi_c {k : Nat} (h : k < 8) : (vwCl[oneCi k]'(by rcases nt_k h with rfl | rfl | rfl | rfl | rfl | rfl | rfl | rfl <;> decide)).1 = "TwoToALocker$One" ∨ ((vwCl[oneCi k]'(by rcases nt_k h with rfl | rfl | rfl | rfl | rfl | rfl | rfl | rfl <;> decide)).1, "TwoToALocker$One") ∈ gNc := by
  rcases nt_k h with rfl | rfl | rfl | rfl | rfl | rfl | rfl | rfl
  · exact Or.inl rfl
  · exact Or.inr (show ("TwoToALocker$Wet", "TwoToALocker$One") ∈ gNc by decide +kernel)
  · exact Or.inr (show ("TwoToALocker$Tidy", "TwoToALocker$One") ∈ gNc by decide +kernel)
  · exact Or.inr (show ("TwoToALocker$Tall", "TwoToALocker$One") ∈ gNc by decide +kernel)
  · exact Or.inr (show ("TwoToALocker$Fussy", "TwoToALocker$One") ∈ gNc by decide +kernel)
  · exact Or.inr (show ("TwoToALocker$Smelly", "TwoToALocker$One") ∈ gNc by decide +kernel)
  · exact Or.inr (show ("TwoToALocker$Loner", "TwoToALocker$One") ∈ gNc by decide +kernel)
  · exact Or.inr (show ("TwoToALocker$Giant", "TwoToALocker$One") ∈ gNc by decide +kernel)

section C2
variable {G : GX} {m0 f : Mem} {s n N M : Nat} {F : Nat → Int32} {W : Nat → Option Nat} {A : Nat → Nat → Int32} {B : Nat → Int32}
set_option maxHeartbeats 4000000 in
set_option maxRecDepth 100000 in
theorem e_X5_hasPupil (hq : G.2.1 ≤ s) (hn : s + 8 ≤ n) (hN : F 0 = nI N) (hN8 : N ≤ 8) {p : Int32} : Ev G mX5_hasPupil 1 0 0 [.ref s, .int p] (sc G m0 s F W A B) n (RD (.int (if okp N p then 1 else 0)) (sc G m0 s F W A B) n) := by
  generalize hQ9 : (RD (.int (if okp N p then 1 else 0)) (sc G m0 s F W A B) n : RQ) = Q9
  refine ev_of (by decide) (Nat.le_of_ble_eq_true rfl) (ls := [some (.ref s), some (.int p)]) rfl (fun hb => ?_)
  refine go_iload_n dX5_hasPupil_0 rfl ?_
  refine go_if_lt dX5_hasPupil_1 (fun c1 => ?_) (fun c1 => ?_)
  · refine go_iconst (v := 0) dX5_hasPupil_16 rfl ?_
    exact go_zret dX5_hasPupil_17 rfl (Nat.le_of_ble_eq_true rfl) (Nat.le_of_ble_eq_true rfl) (rfl) ((hQ9 ▸ ⟨rd_i (a := 0) (by simp [okp, c1]), rfl, rfl⟩))
  · refine go_iload_n dX5_hasPupil_4 rfl ?_
    refine go_aload_n dX5_hasPupil_5 rfl ?_
    refine go_get dX5_hasPupil_6 fl_X5_9_5 sc_obj hq (by omega) rfl ?_
    refine go_tp (z := nI N) (hN) ?_
    refine go_icmp_ge dX5_hasPupil_9 (fun c9 => ?_) (fun c9 => ?_)
    · have c9 := Int32.not_lt.mpr c9
      refine go_iconst (v := 0) dX5_hasPupil_16 rfl ?_
      exact go_zret dX5_hasPupil_17 rfl (Nat.le_of_ble_eq_true rfl) (Nat.le_of_ble_eq_true rfl) (rfl) ((hQ9 ▸ ⟨rd_i (a := 0) (by simp [okp, c1, c9]), rfl, rfl⟩))
    · have c9 := Int32.not_le.mp c9
      refine go_iconst (v := 1) dX5_hasPupil_12 rfl ?_
      refine go_goto dX5_hasPupil_13 ?_
      exact go_zret dX5_hasPupil_17 rfl (Nat.le_of_ble_eq_true rfl) (Nat.le_of_ble_eq_true rfl) (rfl) ((hQ9 ▸ ⟨rd_i (a := 1) (by simp [okp, c1, c9]), rfl, rfl⟩))
set_option maxHeartbeats 4000000 in
set_option maxRecDepth 100000 in
theorem e_X5_hasLocker (hq : G.2.1 ≤ s) (hn : s + 8 ≤ n) (hM : F 1 = nI M) (hM5 : M ≤ 5) {p : Int32} : Ev G mX5_hasLocker 1 0 0 [.ref s, .int p] (sc G m0 s F W A B) n (RD (.int (if okp M p then 1 else 0)) (sc G m0 s F W A B) n) := by
  generalize hQ9 : (RD (.int (if okp M p then 1 else 0)) (sc G m0 s F W A B) n : RQ) = Q9
  refine ev_of (by decide) (Nat.le_of_ble_eq_true rfl) (ls := [some (.ref s), some (.int p)]) rfl (fun hb => ?_)
  refine go_iload_n dX5_hasLocker_0 rfl ?_
  refine go_if_lt dX5_hasLocker_1 (fun c1 => ?_) (fun c1 => ?_)
  · refine go_iconst (v := 0) dX5_hasLocker_16 rfl ?_
    exact go_zret dX5_hasLocker_17 rfl (Nat.le_of_ble_eq_true rfl) (Nat.le_of_ble_eq_true rfl) (rfl) ((hQ9 ▸ ⟨rd_i (a := 0) (by simp [okp, c1]), rfl, rfl⟩))
  · refine go_iload_n dX5_hasLocker_4 rfl ?_
    refine go_aload_n dX5_hasLocker_5 rfl ?_
    refine go_get dX5_hasLocker_6 fl_X5_15_5 sc_obj hq (by omega) rfl ?_
    refine go_tp (z := nI M) (hM) ?_
    refine go_icmp_ge dX5_hasLocker_9 (fun c9 => ?_) (fun c9 => ?_)
    · have c9 := Int32.not_lt.mpr c9
      refine go_iconst (v := 0) dX5_hasLocker_16 rfl ?_
      exact go_zret dX5_hasLocker_17 rfl (Nat.le_of_ble_eq_true rfl) (Nat.le_of_ble_eq_true rfl) (rfl) ((hQ9 ▸ ⟨rd_i (a := 0) (by simp [okp, c1, c9]), rfl, rfl⟩))
    · have c9 := Int32.not_le.mp c9
      refine go_iconst (v := 1) dX5_hasLocker_12 rfl ?_
      refine go_goto dX5_hasLocker_13 ?_
      exact go_zret dX5_hasLocker_17 rfl (Nat.le_of_ble_eq_true rfl) (Nat.le_of_ble_eq_true rfl) (rfl) ((hQ9 ▸ ⟨rd_i (a := 1) (by simp [okp, c1, c9]), rfl, rfl⟩))
def plcS (M : Nat) (l : Int32) : Bool := decide (l = 9 ∨ okp M l = true)
set_option maxHeartbeats 4000000 in
set_option maxRecDepth 100000 in
theorem e_X5_hasPlace (hq : G.2.1 ≤ s) (hn : s + 8 ≤ n) (hM : F 1 = nI M) (hM5 : M ≤ 5) {p : Int32} : Ev G mX5_hasPlace 2 0 0 [.ref s, .int p] (sc G m0 s F W A B) n (RD (.int (if plcS M p then 1 else 0)) (sc G m0 s F W A B) n) := by
  generalize hQ9 : (RD (.int (if plcS M p then 1 else 0)) (sc G m0 s F W A B) n : RQ) = Q9
  refine ev_of (by decide) (Nat.le_of_ble_eq_true rfl) (ls := [some (.ref s), some (.int p)]) rfl (fun hb => ?_)
  refine go_iload_n dX5_hasPlace_0 rfl ?_
  refine go_bipush (v := 9) dX5_hasPlace_1 rfl ?_
  refine go_icmp_eq dX5_hasPlace_3 (fun c3 => ?_) (fun c3 => ?_)
  · subst c3
    refine go_iconst (v := 1) dX5_hasPlace_14 rfl ?_
    refine go_goto dX5_hasPlace_15 ?_
    exact go_zret dX5_hasPlace_19 rfl (Nat.le_of_ble_eq_true rfl) (Nat.le_of_ble_eq_true rfl) (rfl) ((hQ9 ▸ ⟨rd_i (a := 1) (by simp [plcS]), rfl, rfl⟩))
  · refine go_aload_n dX5_hasPlace_6 rfl ?_
    refine go_iload_n dX5_hasPlace_7 rfl ?_
    refine go_Vr [.int p] [] dX5_hasPlace_8 vl_X5_55 ⟨by decide, by decide⟩ (e_X5_hasLocker (F := F) (W := W) (A := A) (B := B) hq hn hM hM5) sc_obj hq (by omega) rfl rfl (Nat.le_of_ble_eq_true rfl) (Nat.le_of_ble_eq_true rfl) (Nat.le_of_ble_eq_true rfl) ?_
    refine go_if_eq dX5_hasPlace_11 (fun c11 => ?_) (fun c11 => ?_)
    · have c11 := bz_f c11
      refine go_iconst (v := 0) dX5_hasPlace_18 rfl ?_
      exact go_zret dX5_hasPlace_19 rfl (Nat.le_of_ble_eq_true rfl) (Nat.le_of_ble_eq_true rfl) (rfl) ((hQ9 ▸ ⟨rd_i (a := 0) (by simp [plcS, c3, c11]), rfl, rfl⟩))
    · have c11 := bz_t c11
      obtain ⟨jp, hjp, rfl⟩ := okp_nI c11 (by omega)
      have kjp : (nI jp).toNatClampNeg = jp := nI_clamp (by omega)
      refine go_iconst (v := 1) dX5_hasPlace_14 rfl ?_
      refine go_goto dX5_hasPlace_15 ?_
      exact go_zret dX5_hasPlace_19 rfl (Nat.le_of_ble_eq_true rfl) (Nat.le_of_ble_eq_true rfl) (rfl) ((hQ9 ▸ ⟨rd_i (a := 1) (by simp [plcS, c3, c11, kjp]), rfl, rfl⟩))
set_option maxHeartbeats 4000000 in
set_option maxRecDepth 100000 in
theorem e_X5_howManyIn (hq : G.2.1 ≤ s) (hn : s + 8 ≤ n) (hN : F 0 = nI N) (hN8 : N ≤ 8) {l : Int32} : Ev G mX5_howManyIn 1 0 0 [.ref s, .int l] (sc G m0 s F W A B) n (RD (.int (inS N (A 4) l)) (sc G m0 s F W A B) n) := by
  generalize hQ9 : (RD (.int (inS N (A 4) l)) (sc G m0 s F W A B) n : RQ) = Q9
  refine ev_of (by decide) (Nat.le_of_ble_eq_true rfl) (ls := [some (.ref s), some (.int l), none, none]) rfl (fun hb => ?_)
  refine go_iconst (v := 0) dX5_howManyIn_0 rfl ?_
  refine go_istore_n (ls' := [some (.ref s), some (.int l), some (.int 0), none]) dX5_howManyIn_1 ⟨by decide, rfl, rfl⟩ ?_
  refine go_iconst (v := 0) dX5_howManyIn_2 rfl ?_
  refine go_istore_n (ls' := [some (.ref s), some (.int l), some (.int 0), some (.int 0)]) dX5_howManyIn_3 ⟨by decide, rfl, rfl⟩ ?_
  have lp0 : ∀ (μ_lp0 : Nat) (i j : Nat) (hi : i ≤ N) (hmi : N + 1 ≤ i + μ_lp0) (hji : j ≤ i) (hx : nI j = cnS (fun p => decide (A 4 p = l)) i), Go G mX5_howManyIn 1 0 0 Q9 0 0 4 [some (.ref s), some (.int l), some (.int (nI j)), some (.int (nI i))] [] (sc G m0 s F W A B) n := by
    intro μ_lp0
    induction μ_lp0 with
    | zero =>
      intro i j hi hmi hji hx
      exact absurd hmi (by omega)
    | succ μ_lp0 ih_lp0 =>
      intro i j hi hmi hji hx
      refine go_iload_n dX5_howManyIn_4 rfl ?_
      refine go_aload_n dX5_howManyIn_5 rfl ?_
      refine go_get dX5_howManyIn_6 fl_X5_9_5 sc_obj hq (by omega) rfl ?_
      refine go_tp (z := nI N) (hN) ?_
      refine go_icmp_ge dX5_howManyIn_9 (fun c9 => ?_) (fun c9 => ?_)
      · have c9n := (nI_leI (a := N) (b := i) (by omega) (by omega)).mp c9
        have c9n := Nat.not_lt.mpr c9n
        have c9 := Int32.not_lt.mpr c9
        refine go_iload_n dX5_howManyIn_31 rfl ?_
        exact go_iret dX5_howManyIn_32 rfl (Nat.le_of_ble_eq_true rfl) (Nat.le_of_ble_eq_true rfl) (hQ9 ▸ ⟨rd_i (by rw [hx, show i = N by omega]; rfl), rfl, rfl⟩)
      · have c9n := mt (nI_leI (a := N) (b := i) (by omega) (by omega)).mpr c9
        have c9n := Nat.lt_of_not_le c9n
        have c9 := Int32.not_le.mp c9
        refine go_aload_n dX5_howManyIn_12 rfl ?_
        refine go_get dX5_howManyIn_13 fl_X5_31_5 sc_obj hq (by omega) rfl ?_
        refine go_iload_n dX5_howManyIn_16 rfl ?_
        refine go_iald dX5_howManyIn_17 sc_3 (by omega) (by omega) (vp_in_nI (n := i) (by show i < 8; omega) (by decide)) ?_
        refine go_tp (z := A 4 i) (by rw [nI_clamp (by omega)]) ?_
        refine go_iload_n dX5_howManyIn_18 rfl ?_
        refine go_icmp_ne dX5_howManyIn_19 (fun c19 => ?_) (fun c19 => ?_)
        · refine go_iinc (v := nI (i + 1)) (ls' := [some (.ref s), some (.int l), some (.int (nI j)), some (.int (nI (i + 1)))]) dX5_howManyIn_25 rfl (nI_1 (i)) ⟨by decide, rfl, rfl⟩ ?_
          refine go_goto dX5_howManyIn_28 ?_
          exact ih_lp0 (i + 1) j (by omega) (by omega) (by omega) (by unfold cnS; rw [← hx]; simp [c19])
        · refine go_iinc (v := nI (j + 1)) (ls' := [some (.ref s), some (.int l), some (.int (nI (j + 1))), some (.int (nI i))]) dX5_howManyIn_22 rfl (nI_1 (j)) ⟨by decide, rfl, rfl⟩ ?_
          refine go_iinc (v := nI (i + 1)) (ls' := [some (.ref s), some (.int l), some (.int (nI (j + 1))), some (.int (nI (i + 1)))]) dX5_howManyIn_25 rfl (nI_1 (i)) ⟨by decide, rfl, rfl⟩ ?_
          refine go_goto dX5_howManyIn_28 ?_
          exact ih_lp0 (i + 1) (j + 1) (by omega) (by omega) (by omega) (by unfold cnS; rw [← hx]; simp [c19, ← nI_1])
  exact lp0 (N + 1) 0 0 (Nat.zero_le _) (by omega) (Nat.zero_le _) rfl
theorem mate_none {N : Nat} {ins : Nat → Int32} {p : Nat} (h : ins p = 9) : mateS N ins p = -4 := by
  unfold mateS
  have key : ∀ k j, fsB (mateP ins p) j k = -4 := by
    intro k
    induction k with
    | zero => intro j; rfl
    | succ k ih =>
      intro j
      unfold fsB
      rw [if_neg (fun z => (of_decide_eq_true z).2.1 h)]
      exact ih (j + 1)
  exact key N 0
set_option maxHeartbeats 4000000 in
set_option maxRecDepth 100000 in
theorem e_X5_mateOf (hq : G.2.1 ≤ s) (hn : s + 8 ≤ n) (hN : F 0 = nI N) (hN8 : N ≤ 8) {p : Nat} (hp : p < 8) : Ev G mX5_mateOf 1 0 0 [.ref s, .int (nI p)] (sc G m0 s F W A B) n (RD (.int (mateS N (A 4) p)) (sc G m0 s F W A B) n) := by
  generalize hQ9 : (RD (.int (mateS N (A 4) p)) (sc G m0 s F W A B) n : RQ) = Q9
  refine ev_of (by decide) (Nat.le_of_ble_eq_true rfl) (ls := [some (.ref s), some (.int (nI p)), none]) rfl (fun hb => ?_)
  refine go_aload_n dX5_mateOf_0 rfl ?_
  refine go_get dX5_mateOf_1 fl_X5_31_5 sc_obj hq (by omega) rfl ?_
  refine go_iload_n dX5_mateOf_4 rfl ?_
  refine go_iald dX5_mateOf_5 sc_3 (by omega) (by omega) (vp_in_nI (n := p) (by show p < 8; omega) (by decide)) ?_
  refine go_tp (z := A 4 p) (by rw [nI_clamp (by omega)]) ?_
  refine go_bipush (v := 9) dX5_mateOf_6 rfl ?_
  refine go_icmp_ne dX5_mateOf_8 (fun c8 => ?_) (fun c8 => ?_)
  · refine go_iconst (v := 0) dX5_mateOf_14 rfl ?_
    refine go_istore_n (ls' := [some (.ref s), some (.int (nI p)), some (.int 0)]) dX5_mateOf_15 ⟨by decide, rfl, rfl⟩ ?_
    have lp0 : ∀ (μ_lp0 : Nat) (i : Nat) (hi : i ≤ N) (hmi : N + 1 ≤ i + μ_lp0) (hx : mateS N (A 4) p = fsB (mateP (A 4) p) i (N - i)), Go G mX5_mateOf 1 0 0 Q9 0 0 16 [some (.ref s), some (.int (nI p)), some (.int (nI i))] [] (sc G m0 s F W A B) n := by
      intro μ_lp0
      induction μ_lp0 with
      | zero =>
        intro i hi hmi hx
        exact absurd hmi (by omega)
      | succ μ_lp0 ih_lp0 =>
        intro i hi hmi hx
        refine go_iload_n dX5_mateOf_16 rfl ?_
        refine go_aload_n dX5_mateOf_17 rfl ?_
        refine go_get dX5_mateOf_18 fl_X5_9_5 sc_obj hq (by omega) rfl ?_
        refine go_tp (z := nI N) (hN) ?_
        refine go_icmp_ge dX5_mateOf_21 (fun c21 => ?_) (fun c21 => ?_)
        · have c21n := (nI_leI (a := N) (b := i) (by omega) (by omega)).mp c21
          have c21n := Nat.not_lt.mpr c21n
          have c21 := Int32.not_lt.mpr c21
          refine go_bipush (v := (-4)) dX5_mateOf_52 rfl ?_
          exact go_iret dX5_mateOf_54 rfl (Nat.le_of_ble_eq_true rfl) (Nat.le_of_ble_eq_true rfl) (hQ9 ▸ ⟨rd_i (by rw [hx, show i = N by omega, fsB_0]), rfl, rfl⟩)
        · have c21n := mt (nI_leI (a := N) (b := i) (by omega) (by omega)).mpr c21
          have c21n := Nat.lt_of_not_le c21n
          have c21 := Int32.not_le.mp c21
          refine go_iload_n dX5_mateOf_24 rfl ?_
          refine go_iload_n dX5_mateOf_25 rfl ?_
          refine go_icmp_eq dX5_mateOf_26 (fun c26 => ?_) (fun c26 => ?_)
          · have c26n := (nI_eq (a := i) (b := p) (by omega) (by omega)).mp c26
            refine go_iinc (v := nI (i + 1)) (ls' := [some (.ref s), some (.int (nI p)), some (.int (nI (i + 1)))]) dX5_mateOf_46 rfl (nI_1 (i)) ⟨by decide, rfl, rfl⟩ ?_
            refine go_goto dX5_mateOf_49 ?_
            exact ih_lp0 (i + 1) (by omega) (by omega) (by rw [hx, fsB_d (by omega)]; first | (simp [mateP, c8, c21, c21n, c26]; done) | (simp [mateP, c8, c21, c21n, c26, c26n]; done))
          · have c26n := mt (nI_eq (a := i) (b := p) (by omega) (by omega)).mpr c26
            refine go_aload_n dX5_mateOf_29 rfl ?_
            refine go_get dX5_mateOf_30 fl_X5_31_5 sc_obj hq (by omega) rfl ?_
            refine go_iload_n dX5_mateOf_33 rfl ?_
            refine go_iald dX5_mateOf_34 sc_3 (by omega) (by omega) (vp_in_nI (n := i) (by show i < 8; omega) (by decide)) ?_
            refine go_tp (z := A 4 i) (by rw [nI_clamp (by omega)]) ?_
            refine go_aload_n dX5_mateOf_35 rfl ?_
            refine go_get dX5_mateOf_36 fl_X5_31_5 sc_obj hq (by omega) rfl ?_
            refine go_iload_n dX5_mateOf_39 rfl ?_
            refine go_iald dX5_mateOf_40 sc_3 (by omega) (by omega) (vp_in_nI (n := p) (by show p < 8; omega) (by decide)) ?_
            refine go_tp (z := A 4 p) (by rw [nI_clamp (by omega)]) ?_
            refine go_icmp_ne dX5_mateOf_41 (fun c41 => ?_) (fun c41 => ?_)
            · refine go_iinc (v := nI (i + 1)) (ls' := [some (.ref s), some (.int (nI p)), some (.int (nI (i + 1)))]) dX5_mateOf_46 rfl (nI_1 (i)) ⟨by decide, rfl, rfl⟩ ?_
              refine go_goto dX5_mateOf_49 ?_
              exact ih_lp0 (i + 1) (by omega) (by omega) (by rw [hx, fsB_d (by omega)]; simp [mateP, c8, c21, c21n, c26, c26n, c41])
            · refine go_iload_n dX5_mateOf_44 rfl ?_
              exact go_iret dX5_mateOf_45 rfl (Nat.le_of_ble_eq_true rfl) (Nat.le_of_ble_eq_true rfl) (hQ9 ▸ ⟨rd_i (by rw [hx, fsB_d (by omega)]; simp [mateP, c8, c21, c21n, c26, c26n, c41]), rfl, rfl⟩)
    exact lp0 (N + 1) 0 (Nat.zero_le _) (by omega) rfl
  · refine go_bipush (v := (-4)) dX5_mateOf_11 rfl ?_
    exact go_iret dX5_mateOf_13 rfl (Nat.le_of_ble_eq_true rfl) (Nat.le_of_ble_eq_true rfl) (hQ9 ▸ ⟨rd_i (mate_none c8).symm, rfl, rfl⟩)
set_option maxHeartbeats 4000000 in
set_option maxRecDepth 100000 in
theorem e_X5_bearingOf (hq : G.2.1 ≤ s) (hn : s + 8 ≤ n) (hbe : ∀ a b, a < N → b < N → B (a * 8 + b) = brS A a b) {a b : Nat} (ha : a < N) (hb8 : b < N) (hN8 : N ≤ 8) : Ev G mX5_bearingOf 1 0 0 [.ref s, .int (nI a), .int (nI b)] (sc G m0 s F W A B) n (RD (.int (brS A a b)) (sc G m0 s F W A B) n) := by
  generalize hQ9 : (RD (.int (brS A a b)) (sc G m0 s F W A B) n : RQ) = Q9
  refine ev_of (by decide) (Nat.le_of_ble_eq_true rfl) (ls := [some (.ref s), some (.int (nI a)), some (.int (nI b))]) rfl (fun hb => ?_)
  refine go_aload_n dX5_bearingOf_0 rfl ?_
  refine go_get dX5_bearingOf_1 fl_X5_34_5 sc_obj hq (by omega) rfl ?_
  refine go_iload_n dX5_bearingOf_4 rfl ?_
  refine go_bipush (v := 8) dX5_bearingOf_5 rfl ?_
  refine go_imul dX5_bearingOf_7 ?_
  refine go_tp (z := nI (a * 8)) (pk_mul a 8) ?_
  refine go_iload_n dX5_bearingOf_8 rfl ?_
  refine go_iadd dX5_bearingOf_9 ?_
  refine go_tp (z := nI ((a * 8) + b)) (nI_add (a * 8) b) ?_
  refine go_iald dX5_bearingOf_10 sc_4 (by omega) (by omega) (vp_in_nI (n := (a * 8) + b) (by show (a * 8) + b < 64; omega) (by decide)) ?_
  refine go_tp (z := B ((a * 8) + b)) (by rw [nI_clamp (by omega)]) ?_
  exact go_iret dX5_bearingOf_11 rfl (Nat.le_of_ble_eq_true rfl) (Nat.le_of_ble_eq_true rfl) (hQ9 ▸ ⟨rd_i (hbe a b ha hb8), rfl, rfl⟩)
set_option maxHeartbeats 4000000 in
set_option maxRecDepth 100000 in
theorem e_X5_likingOf (hq : G.2.1 ≤ s) (hn : s + 8 ≤ n) (hbe : ∀ a b, a < N → b < N → B (a * 8 + b) = brS A a b) {a b : Nat} (ha : a < N) (hb8 : b < N) (hN8 : N ≤ 8) : Ev G mX5_likingOf 2 0 0 [.ref s, .int (nI a), .int (nI b)] (sc G m0 s F W A B) n (RD (.int (likS A a b)) (sc G m0 s F W A B) n) := by
  generalize hQ9 : (RD (.int (likS A a b)) (sc G m0 s F W A B) n : RQ) = Q9
  refine ev_of (by decide) (Nat.le_of_ble_eq_true rfl) (ls := [some (.ref s), some (.int (nI a)), some (.int (nI b))]) rfl (fun hb => ?_)
  refine go_aload_n dX5_likingOf_0 rfl ?_
  refine go_iload_n dX5_likingOf_1 rfl ?_
  refine go_iload_n dX5_likingOf_2 rfl ?_
  refine go_Vr [.int (nI a), .int (nI b)] [] dX5_likingOf_3 vl_X5_118 ⟨by decide, by decide⟩ (e_X5_bearingOf (F := F) (W := W) (A := A) (B := B) hq hn hbe (by omega) (by omega) hN8) sc_obj hq (by omega) rfl rfl (Nat.le_of_ble_eq_true rfl) (Nat.le_of_ble_eq_true rfl) (Nat.le_of_ble_eq_true rfl) ?_
  refine go_aload_n dX5_likingOf_6 rfl ?_
  refine go_iload_n dX5_likingOf_7 rfl ?_
  refine go_iload_n dX5_likingOf_8 rfl ?_
  refine go_Vr [.int (nI b), .int (nI a)] [.int (brS A a b)] dX5_likingOf_9 vl_X5_118 ⟨by decide, by decide⟩ (e_X5_bearingOf (F := F) (W := W) (A := A) (B := B) hq hn hbe (by omega) (by omega) hN8) sc_obj hq (by omega) rfl rfl (Nat.le_of_ble_eq_true rfl) (Nat.le_of_ble_eq_true rfl) (Nat.le_of_ble_eq_true rfl) ?_
  refine go_iadd dX5_likingOf_12 ?_
  exact go_iret dX5_likingOf_13 rfl (Nat.le_of_ble_eq_true rfl) (Nat.le_of_ble_eq_true rfl) (hQ9 ▸ ⟨rfl, rfl, rfl⟩)
def boS (A : Nat → Nat → Int32) (p : Nat) (x : Int32) : Int32 := if x < 0 then 0 else brS A p x.toNatClampNeg
set_option maxHeartbeats 4000000 in
set_option maxRecDepth 100000 in
theorem e_X5_borneOf (hq : G.2.1 ≤ s) (hn : s + 8 ≤ n) (hbe : ∀ a b, a < N → b < N → B (a * 8 + b) = brS A a b) {p : Nat} {x : Int32} (hp : p < N) (hx : x < 0 ∨ ∃ o, o < N ∧ x = nI o) (hN8 : N ≤ 8) : Ev G mX5_borneOf 1 0 0 [.ref s, .int (nI p), .int x] (sc G m0 s F W A B) n (RD (.int (boS A p x)) (sc G m0 s F W A B) n) := by
  generalize hQ9 : (RD (.int (boS A p x)) (sc G m0 s F W A B) n : RQ) = Q9
  refine ev_of (by decide) (Nat.le_of_ble_eq_true rfl) (ls := [some (.ref s), some (.int (nI p)), some (.int x)]) rfl (fun hb => ?_)
  refine go_iload_n dX5_borneOf_0 rfl ?_
  refine go_if_ge dX5_borneOf_1 (fun c1 => ?_) (fun c1 => ?_)
  · have c1 := Int32.not_lt.mpr c1
    obtain ⟨o, ho, rfl⟩ := hx.resolve_left c1
    have ko : (nI o).toNatClampNeg = o := nI_clamp (by omega)
    refine go_aload_n dX5_borneOf_8 rfl ?_
    refine go_get dX5_borneOf_9 fl_X5_34_5 sc_obj hq (by omega) rfl ?_
    refine go_iload_n dX5_borneOf_12 rfl ?_
    refine go_bipush (v := 8) dX5_borneOf_13 rfl ?_
    refine go_imul dX5_borneOf_15 ?_
    refine go_tp (z := nI (p * 8)) (pk_mul p 8) ?_
    refine go_iload_n dX5_borneOf_16 rfl ?_
    refine go_iadd dX5_borneOf_17 ?_
    refine go_tp (z := nI ((p * 8) + o)) (nI_add (p * 8) o) ?_
    refine go_iald dX5_borneOf_18 sc_4 (by omega) (by omega) (vp_in_nI (n := (p * 8) + o) (by show (p * 8) + o < 64; omega) (by decide)) ?_
    refine go_tp (z := B ((p * 8) + o)) (by rw [nI_clamp (by omega)]) ?_
    exact go_iret dX5_borneOf_19 rfl (Nat.le_of_ble_eq_true rfl) (Nat.le_of_ble_eq_true rfl) (hQ9 ▸ ⟨rd_i (by unfold boS; rw [if_neg c1, ko]; exact hbe p o hp ho), rfl, rfl⟩)
  · have c1 := Int32.not_le.mp c1
    refine go_iconst (v := 0) dX5_borneOf_4 rfl ?_
    refine go_goto dX5_borneOf_5 ?_
    exact go_iret dX5_borneOf_19 rfl (Nat.le_of_ble_eq_true rfl) (Nat.le_of_ble_eq_true rfl) (hQ9 ▸ ⟨rd_i (by unfold boS; rw [if_pos c1]), rfl, rfl⟩)
set_option maxHeartbeats 4000000 in
set_option maxRecDepth 100000 in
theorem e_X5_troubleOf (hq : G.2.1 ≤ s) (hn : s + 8 ≤ n) (hw : whoOK G m0 s n W A) (hab : ∀ l, l < M → A 6 l = 0 ∨ A 6 l = 1) {p l : Nat} (hp : p < 8) (hl : l < M) (hM5 : M ≤ 5) : Ev G mX5_troubleOf 2 0 0 [.ref s, .int (nI p), .int (nI l)] (sc G m0 s F W A B) n (RD (.int (trS A p l)) (sc G m0 s F W A B) n) := by
  generalize hQ9 : (RD (.int (trS A p l)) (sc G m0 s F W A B) n : RQ) = Q9
  refine ev_of (by decide) (Nat.le_of_ble_eq_true rfl) (ls := [some (.ref s), some (.int (nI p)), some (.int (nI l))]) rfl (fun hb => ?_)
  refine go_aload_n dX5_troubleOf_0 rfl ?_
  refine go_get dX5_troubleOf_1 fl_X5_23_5 sc_obj hq (by omega) rfl ?_
  refine go_iload_n dX5_troubleOf_4 rfl ?_
  obtain ⟨w5, ew5, hw5⟩ := who_at hw p (by omega)
  refine go_oald dX5_troubleOf_5 sc_1 (by omega) (by omega) (vp_in_nI (n := p) (by show p < 8; omega) (by decide)) ?_
  refine go_tv (w := .ref w5) (by rw [nI_clamp (by omega), ew5]; rfl) ?_
  refine go_aload_n dX5_troubleOf_6 rfl ?_
  refine go_get dX5_troubleOf_7 fl_X5_37_5 sc_obj hq (by omega) rfl ?_
  refine go_iload_n dX5_troubleOf_10 rfl ?_
  refine go_iald dX5_troubleOf_11 sc_5 (by omega) (by omega) (vp_in_nI (n := l) (by show l < 5; omega) (by decide)) ?_
  refine go_tp (z := A 5 l) (by rw [nI_clamp (by omega)]) ?_
  refine go_aload_n dX5_troubleOf_12 rfl ?_
  refine go_get dX5_troubleOf_13 fl_X5_40_5 sc_obj hq (by omega) rfl ?_
  refine go_iload_n dX5_troubleOf_16 rfl ?_
  refine go_iald dX5_troubleOf_17 sc_6 (by omega) (by omega) (vp_in_nI (n := l) (by show l < 5; omega) (by decide)) ?_
  refine go_tp (z := A 6 l) (by rw [nI_clamp (by omega)]) ?_
  refine go1_X5_troubleWith hw5 (hab l hl) dX5_troubleOf_18 rfl (by omega) (Nat.le_of_ble_eq_true rfl) (Nat.le_of_ble_eq_true rfl) (Nat.le_of_ble_eq_true rfl) ?_
  exact go_iret dX5_troubleOf_21 rfl (Nat.le_of_ble_eq_true rfl) (Nat.le_of_ble_eq_true rfl) (hQ9 ▸ ⟨rfl, rfl, rfl⟩)
set_option maxHeartbeats 4000000 in
set_option maxRecDepth 100000 in
theorem e_X5_contentWith (hq : G.2.1 ≤ s) (hn : s + 8 ≤ n) (hM : F 1 = nI M) (hM5 : M ≤ 5) (hbe : ∀ a b, a < N → b < N → B (a * 8 + b) = brS A a b) (hw : whoOK G m0 s n W A) (hab : ∀ l, l < M → A 6 l = 0 ∨ A 6 l = 1)  {p : Nat} {l x : Int32} (hp : p < N) (hl : l = 9 ∨ ∃ k, k < M ∧ l = nI k) (hx : x < 0 ∨ ∃ o, o < N ∧ x = nI o) (hN8 : N ≤ 8) : Ev G mX5_contentWith 2 0 0 [.ref s, .int (nI p), .int l, .int x] (sc G m0 s F W A B) n (RD (.int (cpS A p l x)) (sc G m0 s F W A B) n) := by
  generalize hQ9 : (RD (.int (cpS A p l x)) (sc G m0 s F W A B) n : RQ) = Q9
  refine ev_of (by decide) (Nat.le_of_ble_eq_true rfl) (ls := [some (.ref s), some (.int (nI p)), some (.int l), some (.int x), none]) rfl (fun hb => ?_)
  refine go_aload_n dX5_contentWith_0 rfl ?_
  refine go_iload_n dX5_contentWith_1 rfl ?_
  refine go_Vr [.int l] [] dX5_contentWith_2 vl_X5_55 ⟨by decide, by decide⟩ (e_X5_hasLocker (F := F) (W := W) (A := A) (B := B) hq hn hM hM5) sc_obj hq (by omega) rfl rfl (Nat.le_of_ble_eq_true rfl) (Nat.le_of_ble_eq_true rfl) (Nat.le_of_ble_eq_true rfl) ?_
  refine go_if_ne dX5_contentWith_5 (fun c5 => ?_) (fun c5 => ?_)
  · have c5 := bz_t c5
    obtain ⟨jl, hjl, rfl⟩ := okp_nI c5 (by omega)
    have kjl : (nI jl).toNatClampNeg = jl := nI_clamp (by omega)
    refine go_iload_n dX5_contentWith_11 rfl ?_
    refine go_if_ge dX5_contentWith_12 (fun c12 => ?_) (fun c12 => ?_)
    · have c12 := Int32.not_lt.mpr c12
      obtain ⟨o, ho, rfl⟩ := hx.resolve_left c12
      have ko : (nI o).toNatClampNeg = o := nI_clamp (by omega)
      refine go_aload_n dX5_contentWith_20 rfl ?_
      refine go_iload_n dX5_contentWith_21 rfl ?_
      refine go_iload_n dX5_contentWith_22 rfl ?_
      refine go_Vr [.int (nI p), .int (nI o)] [] dX5_contentWith_23 vl_X5_118 ⟨by decide, by decide⟩ (e_X5_bearingOf (F := F) (W := W) (A := A) (B := B) hq hn hbe (by omega) (by omega) hN8) sc_obj hq (by omega) rfl rfl (Nat.le_of_ble_eq_true rfl) (Nat.le_of_ble_eq_true rfl) (Nat.le_of_ble_eq_true rfl) ?_
      refine go_istore (ls' := [some (.ref s), some (.int (nI p)), some (.int (nI jl)), some (.int (nI o)), some (.int (brS A p o))]) dX5_contentWith_26 ⟨by decide, rfl, rfl⟩ ?_
      refine go_iload dX5_contentWith_28 rfl ?_
      refine go_aload_n dX5_contentWith_30 rfl ?_
      refine go_get dX5_contentWith_31 fl_X5_23_5 sc_obj hq (by omega) rfl ?_
      refine go_iload_n dX5_contentWith_34 rfl ?_
      obtain ⟨w35, ew35, hw35⟩ := who_at hw p (by omega)
      refine go_oald dX5_contentWith_35 sc_1 (by omega) (by omega) (vp_in_nI (n := p) (by show p < 8; omega) (by decide)) ?_
      refine go_tv (w := .ref w35) (by rw [nI_clamp (by omega), ew35]; rfl) ?_
      refine go_aload_n dX5_contentWith_36 rfl ?_
      refine go_get dX5_contentWith_37 fl_X5_37_5 sc_obj hq (by omega) rfl ?_
      refine go_iload_n dX5_contentWith_40 rfl ?_
      refine go_iald dX5_contentWith_41 sc_5 (by omega) (by omega) (vp_in_nI (n := jl) (by show jl < 5; omega) (by decide)) ?_
      refine go_tp (z := A 5 jl) (by rw [nI_clamp (by omega)]) ?_
      refine go_aload_n dX5_contentWith_42 rfl ?_
      refine go_get dX5_contentWith_43 fl_X5_40_5 sc_obj hq (by omega) rfl ?_
      refine go_iload_n dX5_contentWith_46 rfl ?_
      refine go_iald dX5_contentWith_47 sc_6 (by omega) (by omega) (vp_in_nI (n := jl) (by show jl < 5; omega) (by decide)) ?_
      refine go_tp (z := A 6 jl) (by rw [nI_clamp (by omega)]) ?_
      refine go1_X5_troubleWith hw35 (hab jl hjl) dX5_contentWith_48 rfl (by omega) (Nat.le_of_ble_eq_true rfl) (Nat.le_of_ble_eq_true rfl) (Nat.le_of_ble_eq_true rfl) ?_
      refine go_isub dX5_contentWith_51 ?_
      exact go_iret dX5_contentWith_52 rfl (Nat.le_of_ble_eq_true rfl) (Nat.le_of_ble_eq_true rfl) (hQ9 ▸ ⟨rd_i (by rw [cpS_in (by omega) (by omega) rfl]; rfl), rfl, rfl⟩)
    · have c12 := Int32.not_le.mp c12
      refine go_bipush (v := 12) dX5_contentWith_15 rfl ?_
      refine go_goto dX5_contentWith_17 ?_
      refine go_istore (ls' := [some (.ref s), some (.int (nI p)), some (.int (nI jl)), some (.int x), some (.int 12)]) dX5_contentWith_26 ⟨by decide, rfl, rfl⟩ ?_
      refine go_iload dX5_contentWith_28 rfl ?_
      refine go_aload_n dX5_contentWith_30 rfl ?_
      refine go_get dX5_contentWith_31 fl_X5_23_5 sc_obj hq (by omega) rfl ?_
      refine go_iload_n dX5_contentWith_34 rfl ?_
      obtain ⟨w35, ew35, hw35⟩ := who_at hw p (by omega)
      refine go_oald dX5_contentWith_35 sc_1 (by omega) (by omega) (vp_in_nI (n := p) (by show p < 8; omega) (by decide)) ?_
      refine go_tv (w := .ref w35) (by rw [nI_clamp (by omega), ew35]; rfl) ?_
      refine go_aload_n dX5_contentWith_36 rfl ?_
      refine go_get dX5_contentWith_37 fl_X5_37_5 sc_obj hq (by omega) rfl ?_
      refine go_iload_n dX5_contentWith_40 rfl ?_
      refine go_iald dX5_contentWith_41 sc_5 (by omega) (by omega) (vp_in_nI (n := jl) (by show jl < 5; omega) (by decide)) ?_
      refine go_tp (z := A 5 jl) (by rw [nI_clamp (by omega)]) ?_
      refine go_aload_n dX5_contentWith_42 rfl ?_
      refine go_get dX5_contentWith_43 fl_X5_40_5 sc_obj hq (by omega) rfl ?_
      refine go_iload_n dX5_contentWith_46 rfl ?_
      refine go_iald dX5_contentWith_47 sc_6 (by omega) (by omega) (vp_in_nI (n := jl) (by show jl < 5; omega) (by decide)) ?_
      refine go_tp (z := A 6 jl) (by rw [nI_clamp (by omega)]) ?_
      refine go1_X5_troubleWith hw35 (hab jl hjl) dX5_contentWith_48 rfl (by omega) (Nat.le_of_ble_eq_true rfl) (Nat.le_of_ble_eq_true rfl) (Nat.le_of_ble_eq_true rfl) ?_
      refine go_isub dX5_contentWith_51 ?_
      exact go_iret dX5_contentWith_52 rfl (Nat.le_of_ble_eq_true rfl) (Nat.le_of_ble_eq_true rfl) (hQ9 ▸ ⟨rd_i (by rw [cpS_al (by omega) c12]; rfl), rfl, rfl⟩)
  · have c5 := bz_f c5
    refine go_bipush (v := (-20)) dX5_contentWith_8 rfl ?_
    exact go_iret dX5_contentWith_10 rfl (Nat.le_of_ble_eq_true rfl) (Nat.le_of_ble_eq_true rfl) (hQ9 ▸ ⟨rd_i (by rw [hl.resolve_right (fun ⟨k, hk, e⟩ => c5 (e ▸ okp_of hk (by omega))), cpS_no]), rfl, rfl⟩)
theorem mateS_or {N : Nat} {ins : Nat → Int32} (hN : N ≤ 8) (p : Nat) : mateS N ins p < 0 ∨ ∃ o, o < N ∧ mateS N ins p = nI o := by
  by_cases h : mateS N ins p < 0
  · exact Or.inl h
  · obtain ⟨o, h1, -, h2⟩ := mateS_nI hN h
    exact Or.inr ⟨o, h1, h2⟩
set_option maxHeartbeats 4000000 in
set_option maxRecDepth 100000 in
theorem e_X5_contentOf (hq : G.2.1 ≤ s) (hn : s + 8 ≤ n) (hN : F 0 = nI N) (hN8 : N ≤ 8) (hM : F 1 = nI M) (hM5 : M ≤ 5) (hbe : ∀ a b, a < N → b < N → B (a * 8 + b) = brS A a b) (hw : whoOK G m0 s n W A) (hab : ∀ l, l < M → A 6 l = 0 ∨ A 6 l = 1) (hI : insOK N M (A 4)) {p : Nat} (hp : p < N) : Ev G mX5_contentOf 3 0 0 [.ref s, .int (nI p)] (sc G m0 s F W A B) n (RD (.int (ctS N A p)) (sc G m0 s F W A B) n) := by
  generalize hQ9 : (RD (.int (ctS N A p)) (sc G m0 s F W A B) n : RQ) = Q9
  refine ev_of (by decide) (Nat.le_of_ble_eq_true rfl) (ls := [some (.ref s), some (.int (nI p))]) rfl (fun hb => ?_)
  refine go_aload_n dX5_contentOf_0 rfl ?_
  refine go_iload_n dX5_contentOf_1 rfl ?_
  refine go_aload_n dX5_contentOf_2 rfl ?_
  refine go_get dX5_contentOf_3 fl_X5_31_5 sc_obj hq (by omega) rfl ?_
  refine go_iload_n dX5_contentOf_6 rfl ?_
  refine go_iald dX5_contentOf_7 sc_3 (by omega) (by omega) (vp_in_nI (n := p) (by show p < 8; omega) (by decide)) ?_
  refine go_tp (z := A 4 p) (by rw [nI_clamp (by omega)]) ?_
  refine go_aload_n dX5_contentOf_8 rfl ?_
  refine go_iload_n dX5_contentOf_9 rfl ?_
  refine go_Vr [.int (nI p)] [.int (A 4 p), .int (nI p), .ref s] dX5_contentOf_10 vl_X5_124 ⟨by decide, by decide⟩ (e_X5_mateOf (F := F) (W := W) (A := A) (B := B) hq hn hN hN8 (by omega)) sc_obj hq (by omega) rfl rfl (Nat.le_of_ble_eq_true rfl) (Nat.le_of_ble_eq_true rfl) (Nat.le_of_ble_eq_true rfl) ?_
  refine go_Vr [.int (nI p), .int (A 4 p), .int (mateS N (A 4) p)] [] dX5_contentOf_13 vl_X5_127 ⟨by decide, by decide⟩ (e_X5_contentWith (F := F) (W := W) (A := A) (B := B) hq hn hM hM5 hbe hw hab (by omega) (hI p hp) (mateS_or hN8 p) hN8) sc_obj hq (by omega) rfl rfl (Nat.le_of_ble_eq_true rfl) (Nat.le_of_ble_eq_true rfl) (Nat.le_of_ble_eq_true rfl) ?_
  exact go_iret dX5_contentOf_16 rfl (Nat.le_of_ble_eq_true rfl) (Nat.le_of_ble_eq_true rfl) (hQ9 ▸ ⟨rfl, rfl, rfl⟩)
set_option maxHeartbeats 4000000 in
set_option maxRecDepth 100000 in
theorem e_X5_contentOfAll (hq : G.2.1 ≤ s) (hn : s + 8 ≤ n) (hN : F 0 = nI N) (hN8 : N ≤ 8) (hM : F 1 = nI M) (hM5 : M ≤ 5) (hbe : ∀ a b, a < N → b < N → B (a * 8 + b) = brS A a b) (hw : whoOK G m0 s n W A) (hab : ∀ l, l < M → A 6 l = 0 ∨ A 6 l = 1) (hI : insOK N M (A 4)) : Ev G mX5_contentOfAll 4 0 0 [.ref s] (sc G m0 s F W A B) n (RD (.int (alS N A)) (sc G m0 s F W A B) n) := by
  generalize hQ9 : (RD (.int (alS N A)) (sc G m0 s F W A B) n : RQ) = Q9
  refine ev_of (by decide) (Nat.le_of_ble_eq_true rfl) (ls := [some (.ref s), none, none]) rfl (fun hb => ?_)
  refine go_iconst (v := 0) dX5_contentOfAll_0 rfl ?_
  refine go_istore_n (ls' := [some (.ref s), some (.int 0), none]) dX5_contentOfAll_1 ⟨by decide, rfl, rfl⟩ ?_
  refine go_iconst (v := 0) dX5_contentOfAll_2 rfl ?_
  refine go_istore_n (ls' := [some (.ref s), some (.int 0), some (.int 0)]) dX5_contentOfAll_3 ⟨by decide, rfl, rfl⟩ ?_
  have lp0 : ∀ (μ_lp0 : Nat) (i : Nat) (x : Int32) (hi : i ≤ N) (hmi : N + 1 ≤ i + μ_lp0) (hx : x = smS (ctS N A) i), Go G mX5_contentOfAll 4 0 0 Q9 0 0 4 [some (.ref s), some (.int x), some (.int (nI i))] [] (sc G m0 s F W A B) n := by
    intro μ_lp0
    induction μ_lp0 with
    | zero =>
      intro i x hi hmi hx
      exact absurd hmi (by omega)
    | succ μ_lp0 ih_lp0 =>
      intro i x hi hmi hx
      refine go_iload_n dX5_contentOfAll_4 rfl ?_
      refine go_aload_n dX5_contentOfAll_5 rfl ?_
      refine go_get dX5_contentOfAll_6 fl_X5_9_5 sc_obj hq (by omega) rfl ?_
      refine go_tp (z := nI N) (hN) ?_
      refine go_icmp_ge dX5_contentOfAll_9 (fun c9 => ?_) (fun c9 => ?_)
      · have c9n := (nI_leI (a := N) (b := i) (by omega) (by omega)).mp c9
        have c9n := Nat.not_lt.mpr c9n
        have c9 := Int32.not_lt.mpr c9
        refine go_iload_n dX5_contentOfAll_26 rfl ?_
        exact go_iret dX5_contentOfAll_27 rfl (Nat.le_of_ble_eq_true rfl) (Nat.le_of_ble_eq_true rfl) (hQ9 ▸ ⟨rd_i (by rw [hx, show i = N by omega]; rfl), rfl, rfl⟩)
      · have c9n := mt (nI_leI (a := N) (b := i) (by omega) (by omega)).mpr c9
        have c9n := Nat.lt_of_not_le c9n
        have c9 := Int32.not_le.mp c9
        refine go_iload_n dX5_contentOfAll_12 rfl ?_
        refine go_aload_n dX5_contentOfAll_13 rfl ?_
        refine go_iload_n dX5_contentOfAll_14 rfl ?_
        refine go_Vr [.int (nI i)] [.int x] dX5_contentOfAll_15 vl_X5_131 ⟨by decide, by decide⟩ (e_X5_contentOf (F := F) (W := W) (A := A) (B := B) hq hn hN hN8 hM hM5 hbe hw hab hI (by omega)) sc_obj hq (by omega) rfl rfl (Nat.le_of_ble_eq_true rfl) (Nat.le_of_ble_eq_true rfl) (Nat.le_of_ble_eq_true rfl) ?_
        refine go_iadd dX5_contentOfAll_18 ?_
        refine go_istore_n (ls' := [some (.ref s), some (.int (x + (ctS N A i))), some (.int (nI i))]) dX5_contentOfAll_19 ⟨by decide, rfl, rfl⟩ ?_
        refine go_iinc (v := nI (i + 1)) (ls' := [some (.ref s), some (.int (x + (ctS N A i))), some (.int (nI (i + 1)))]) dX5_contentOfAll_20 rfl (nI_1 (i)) ⟨by decide, rfl, rfl⟩ ?_
        refine go_goto dX5_contentOfAll_23 ?_
        exact ih_lp0 (i + 1) _ (by omega) (by omega) (by rw [hx]; rfl)
  exact lp0 (N + 1) 0 _ (Nat.zero_le _) (by omega) (rfl)
def lcP (N : Nat) (A : Nat → Nat → Int32) (p : Nat) : Bool := decide (nI p < mateS N (A 4) p ∧ A 3 (mateS N (A 4) p).toNatClampNeg = A 3 p)
set_option maxHeartbeats 4000000 in
set_option maxRecDepth 100000 in
theorem e_X5_leadsClash (hq : G.2.1 ≤ s) (hn : s + 8 ≤ n) (hN : F 0 = nI N) (hN8 : N ≤ 8) {p : Nat} (hp : p < N) : Ev G mX5_leadsClash 2 0 0 [.ref s, .int (nI p)] (sc G m0 s F W A B) n (RD (.int (if lcP N A p then 1 else 0)) (sc G m0 s F W A B) n) := by
  generalize hQ9 : (RD (.int (if lcP N A p then 1 else 0)) (sc G m0 s F W A B) n : RQ) = Q9
  refine ev_of (by decide) (Nat.le_of_ble_eq_true rfl) (ls := [some (.ref s), some (.int (nI p)), none]) rfl (fun hb => ?_)
  refine go_aload_n dX5_leadsClash_0 rfl ?_
  refine go_iload_n dX5_leadsClash_1 rfl ?_
  refine go_Vr [.int (nI p)] [] dX5_leadsClash_2 vl_X5_124 ⟨by decide, by decide⟩ (e_X5_mateOf (F := F) (W := W) (A := A) (B := B) hq hn hN hN8 (by omega)) sc_obj hq (by omega) rfl rfl (Nat.le_of_ble_eq_true rfl) (Nat.le_of_ble_eq_true rfl) (Nat.le_of_ble_eq_true rfl) ?_
  refine go_istore_n (ls' := [some (.ref s), some (.int (nI p)), some (.int (mateS N (A 4) p))]) dX5_leadsClash_5 ⟨by decide, rfl, rfl⟩ ?_
  refine go_iload_n dX5_leadsClash_6 rfl ?_
  refine go_iload_n dX5_leadsClash_7 rfl ?_
  refine go_icmp_le dX5_leadsClash_8 (fun c8 => ?_) (fun c8 => ?_)
  · have c8 := Int32.not_lt.mpr c8
    refine go_iconst (v := 0) dX5_leadsClash_30 rfl ?_
    exact go_zret dX5_leadsClash_31 rfl (Nat.le_of_ble_eq_true rfl) (Nat.le_of_ble_eq_true rfl) (rfl) (hQ9 ▸ ⟨rd_i (by unfold lcP; simp [c8]), rfl, rfl⟩)
  · have c8 := Int32.not_le.mp c8
    obtain ⟨o, ho, hne, eo⟩ := mateS_nI (ins := A 4) (p := p) hN8 (fun z => by have h1 := (i32_lt _ _).mp c8; have h2 := (i32_lt _ _).mp z; have h3 : (nI p).toInt = (p : Int) := nI_toInt (by omega); have h0 : ((0 : Int32).toInt) = 0 := rfl; omega)
    have ko : (mateS N (A 4) p).toNatClampNeg = o := by rw [eo]; exact nI_clamp (by omega)
    refine go_ls (ls' := [some (.ref s), some (.int (nI p)), some (.int (nI o))]) (by rw [eo]) ?_
    refine go_aload_n dX5_leadsClash_11 rfl ?_
    refine go_get dX5_leadsClash_12 fl_X5_27_5 sc_obj hq (by omega) rfl ?_
    refine go_iload_n dX5_leadsClash_15 rfl ?_
    refine go_iald dX5_leadsClash_16 sc_2 (by omega) (by omega) (vp_in_nI (n := o) (by show o < 8; omega) (by decide)) ?_
    refine go_tp (z := A 3 o) (by rw [nI_clamp (by omega)]) ?_
    refine go_aload_n dX5_leadsClash_17 rfl ?_
    refine go_get dX5_leadsClash_18 fl_X5_27_5 sc_obj hq (by omega) rfl ?_
    refine go_iload_n dX5_leadsClash_21 rfl ?_
    refine go_iald dX5_leadsClash_22 sc_2 (by omega) (by omega) (vp_in_nI (n := p) (by show p < 8; omega) (by decide)) ?_
    refine go_tp (z := A 3 p) (by rw [nI_clamp (by omega)]) ?_
    refine go_icmp_ne dX5_leadsClash_23 (fun c23 => ?_) (fun c23 => ?_)
    · refine go_iconst (v := 0) dX5_leadsClash_30 rfl ?_
      exact go_zret dX5_leadsClash_31 rfl (Nat.le_of_ble_eq_true rfl) (Nat.le_of_ble_eq_true rfl) (rfl) (hQ9 ▸ ⟨rd_i (by unfold lcP; rw [ko]; simp [c8, c23]), rfl, rfl⟩)
    · refine go_iconst (v := 1) dX5_leadsClash_26 rfl ?_
      refine go_goto dX5_leadsClash_27 ?_
      exact go_zret dX5_leadsClash_31 rfl (Nat.le_of_ble_eq_true rfl) (Nat.le_of_ble_eq_true rfl) (rfl) (hQ9 ▸ ⟨rd_i (by unfold lcP; rw [ko]; simp [c8, c23]), rfl, rfl⟩)
set_option maxHeartbeats 4000000 in
set_option maxRecDepth 100000 in
theorem e_X5_howManyClash (hq : G.2.1 ≤ s) (hn : s + 8 ≤ n) (hN : F 0 = nI N) (hN8 : N ≤ 8) : Ev G mX5_howManyClash 3 0 0 [.ref s] (sc G m0 s F W A B) n (RD (.int (cnS (lcP N A) N)) (sc G m0 s F W A B) n) := by
  generalize hQ9 : (RD (.int (cnS (lcP N A) N)) (sc G m0 s F W A B) n : RQ) = Q9
  refine ev_of (by decide) (Nat.le_of_ble_eq_true rfl) (ls := [some (.ref s), none, none]) rfl (fun hb => ?_)
  refine go_iconst (v := 0) dX5_howManyClash_0 rfl ?_
  refine go_istore_n (ls' := [some (.ref s), some (.int 0), none]) dX5_howManyClash_1 ⟨by decide, rfl, rfl⟩ ?_
  refine go_iconst (v := 0) dX5_howManyClash_2 rfl ?_
  refine go_istore_n (ls' := [some (.ref s), some (.int 0), some (.int 0)]) dX5_howManyClash_3 ⟨by decide, rfl, rfl⟩ ?_
  have lp0 : ∀ (μ_lp0 : Nat) (i j : Nat) (hi : i ≤ N) (hmi : N + 1 ≤ i + μ_lp0) (hji : j ≤ i) (hx : nI j = cnS (lcP N A) i), Go G mX5_howManyClash 3 0 0 Q9 0 0 4 [some (.ref s), some (.int (nI j)), some (.int (nI i))] [] (sc G m0 s F W A B) n := by
    intro μ_lp0
    induction μ_lp0 with
    | zero =>
      intro i j hi hmi hji hx
      exact absurd hmi (by omega)
    | succ μ_lp0 ih_lp0 =>
      intro i j hi hmi hji hx
      refine go_iload_n dX5_howManyClash_4 rfl ?_
      refine go_aload_n dX5_howManyClash_5 rfl ?_
      refine go_get dX5_howManyClash_6 fl_X5_9_5 sc_obj hq (by omega) rfl ?_
      refine go_tp (z := nI N) (hN) ?_
      refine go_icmp_ge dX5_howManyClash_9 (fun c9 => ?_) (fun c9 => ?_)
      · have c9n := (nI_leI (a := N) (b := i) (by omega) (by omega)).mp c9
        have c9n := Nat.not_lt.mpr c9n
        have c9 := Int32.not_lt.mpr c9
        refine go_iload_n dX5_howManyClash_29 rfl ?_
        exact go_iret dX5_howManyClash_30 rfl (Nat.le_of_ble_eq_true rfl) (Nat.le_of_ble_eq_true rfl) (hQ9 ▸ ⟨rd_i (by rw [hx, show i = N by omega]), rfl, rfl⟩)
      · have c9n := mt (nI_leI (a := N) (b := i) (by omega) (by omega)).mpr c9
        have c9n := Nat.lt_of_not_le c9n
        have c9 := Int32.not_le.mp c9
        refine go_aload_n dX5_howManyClash_12 rfl ?_
        refine go_iload_n dX5_howManyClash_13 rfl ?_
        refine go_Vr [.int (nI i)] [] dX5_howManyClash_14 vl_X5_134 ⟨by decide, by decide⟩ (e_X5_leadsClash (F := F) (W := W) (A := A) (B := B) hq hn hN hN8 (by omega)) sc_obj hq (by omega) rfl rfl (Nat.le_of_ble_eq_true rfl) (Nat.le_of_ble_eq_true rfl) (Nat.le_of_ble_eq_true rfl) ?_
        refine go_if_eq dX5_howManyClash_17 (fun c17 => ?_) (fun c17 => ?_)
        · have c17 := bz_f c17
          refine go_iinc (v := nI (i + 1)) (ls' := [some (.ref s), some (.int (nI j)), some (.int (nI (i + 1)))]) dX5_howManyClash_23 rfl (nI_1 (i)) ⟨by decide, rfl, rfl⟩ ?_
          refine go_goto dX5_howManyClash_26 ?_
          exact ih_lp0 (i + 1) j (by omega) (by omega) (by omega) (by unfold cnS; rw [← hx]; simp [c17])
        · have c17 := bz_t c17
          refine go_iinc (v := nI (j + 1)) (ls' := [some (.ref s), some (.int (nI (j + 1))), some (.int (nI i))]) dX5_howManyClash_20 rfl (nI_1 (j)) ⟨by decide, rfl, rfl⟩ ?_
          refine go_iinc (v := nI (i + 1)) (ls' := [some (.ref s), some (.int (nI (j + 1))), some (.int (nI (i + 1)))]) dX5_howManyClash_23 rfl (nI_1 (i)) ⟨by decide, rfl, rfl⟩ ?_
          refine go_goto dX5_howManyClash_26 ?_
          exact ih_lp0 (i + 1) (j + 1) (by omega) (by omega) (by omega) (by unfold cnS; rw [← hx]; simp [c17, ← nI_1])
  exact lp0 (N + 1) 0 0 (Nat.zero_le _) (by omega) (Nat.zero_le _) rfl
def fcB (N : Nat) (A : Nat → Nat → Int32) : Nat → Nat → Int32
  | _, 0 => -4
  | j, k + 1 => if lcP N A j then 10 * nI j + mateS N (A 4) j else fcB N A (j + 1) k
theorem fcB_d {N : Nat} {A : Nat → Nat → Int32} {j K : Nat} (h : j < K) : fcB N A j (K - j) = if lcP N A j then 10 * nI j + mateS N (A 4) j else fcB N A (j + 1) (K - (j + 1)) := by
  rw [show K - j = (K - (j + 1)) + 1 by omega]
  rfl
theorem fcB_0 {N : Nat} {A : Nat → Nat → Int32} {K : Nat} : fcB N A K (K - K) = -4 := by rw [Nat.sub_self]; rfl
set_option maxHeartbeats 4000000 in
set_option maxRecDepth 100000 in
theorem e_X5_firstClash (hq : G.2.1 ≤ s) (hn : s + 8 ≤ n) (hN : F 0 = nI N) (hN8 : N ≤ 8) : Ev G mX5_firstClash 3 0 0 [.ref s] (sc G m0 s F W A B) n (RD (.int (fcB N A 0 N)) (sc G m0 s F W A B) n) := by
  generalize hQ9 : (RD (.int (fcB N A 0 N)) (sc G m0 s F W A B) n : RQ) = Q9
  refine ev_of (by decide) (Nat.le_of_ble_eq_true rfl) (ls := [some (.ref s), none]) rfl (fun hb => ?_)
  refine go_iconst (v := 0) dX5_firstClash_0 rfl ?_
  refine go_istore_n (ls' := [some (.ref s), some (.int 0)]) dX5_firstClash_1 ⟨by decide, rfl, rfl⟩ ?_
  have lp0 : ∀ (μ_lp0 : Nat) (i : Nat) (hi : i ≤ N) (hmi : N + 1 ≤ i + μ_lp0) (hx : fcB N A 0 N = fcB N A i (N - i)), Go G mX5_firstClash 3 0 0 Q9 0 0 2 [some (.ref s), some (.int (nI i))] [] (sc G m0 s F W A B) n := by
    intro μ_lp0
    induction μ_lp0 with
    | zero =>
      intro i hi hmi hx
      exact absurd hmi (by omega)
    | succ μ_lp0 ih_lp0 =>
      intro i hi hmi hx
      refine go_iload_n dX5_firstClash_2 rfl ?_
      refine go_aload_n dX5_firstClash_3 rfl ?_
      refine go_get dX5_firstClash_4 fl_X5_9_5 sc_obj hq (by omega) rfl ?_
      refine go_tp (z := nI N) (hN) ?_
      refine go_icmp_ge dX5_firstClash_7 (fun c7 => ?_) (fun c7 => ?_)
      · have c7n := (nI_leI (a := N) (b := i) (by omega) (by omega)).mp c7
        have c7n := Nat.not_lt.mpr c7n
        have c7 := Int32.not_lt.mpr c7
        refine go_bipush (v := (-4)) dX5_firstClash_35 rfl ?_
        exact go_iret dX5_firstClash_37 rfl (Nat.le_of_ble_eq_true rfl) (Nat.le_of_ble_eq_true rfl) (hQ9 ▸ ⟨rd_i (by rw [hx, show i = N by omega, fcB_0]), rfl, rfl⟩)
      · have c7n := mt (nI_leI (a := N) (b := i) (by omega) (by omega)).mpr c7
        have c7n := Nat.lt_of_not_le c7n
        have c7 := Int32.not_le.mp c7
        refine go_aload_n dX5_firstClash_10 rfl ?_
        refine go_iload_n dX5_firstClash_11 rfl ?_
        refine go_Vr [.int (nI i)] [] dX5_firstClash_12 vl_X5_134 ⟨by decide, by decide⟩ (e_X5_leadsClash (F := F) (W := W) (A := A) (B := B) hq hn hN hN8 (by omega)) sc_obj hq (by omega) rfl rfl (Nat.le_of_ble_eq_true rfl) (Nat.le_of_ble_eq_true rfl) (Nat.le_of_ble_eq_true rfl) ?_
        refine go_if_eq dX5_firstClash_15 (fun c15 => ?_) (fun c15 => ?_)
        · have c15 := bz_f c15
          refine go_iinc (v := nI (i + 1)) (ls' := [some (.ref s), some (.int (nI (i + 1)))]) dX5_firstClash_29 rfl (nI_1 (i)) ⟨by decide, rfl, rfl⟩ ?_
          refine go_goto dX5_firstClash_32 ?_
          exact ih_lp0 (i + 1) (by omega) (by omega) (by rw [hx, fcB_d (by omega), if_neg c15])
        · have c15 := bz_t c15
          refine go_bipush (v := 10) dX5_firstClash_18 rfl ?_
          refine go_iload_n dX5_firstClash_20 rfl ?_
          refine go_imul dX5_firstClash_21 ?_
          refine go_tp (z := nI (10 * i)) (pk_mul 10 i) ?_
          refine go_aload_n dX5_firstClash_22 rfl ?_
          refine go_iload_n dX5_firstClash_23 rfl ?_
          refine go_Vr [.int (nI i)] [.int (nI (10 * i))] dX5_firstClash_24 vl_X5_124 ⟨by decide, by decide⟩ (e_X5_mateOf (F := F) (W := W) (A := A) (B := B) hq hn hN hN8 (by omega)) sc_obj hq (by omega) rfl rfl (Nat.le_of_ble_eq_true rfl) (Nat.le_of_ble_eq_true rfl) (Nat.le_of_ble_eq_true rfl) ?_
          refine go_iadd dX5_firstClash_27 ?_
          exact go_iret dX5_firstClash_28 rfl (Nat.le_of_ble_eq_true rfl) (Nat.le_of_ble_eq_true rfl) (hQ9 ▸ ⟨rd_i (by rw [hx, fcB_d (by omega), if_pos c15, show (10 : Int32) = nI 10 from rfl, pk_mul]), rfl, rfl⟩)
  exact lp0 (N + 1) 0 (Nat.zero_le _) (by omega) rfl
def wrS (A : Nat → Nat → Int32) (a b : Nat) (x z : Int32) : Bool := decide (¬ x = nI b ∧ boS A a x < brS A a b ∧ boS A b z < brS A b a)
set_option maxHeartbeats 4000000 in
set_option maxRecDepth 100000 in
theorem e_X5_wouldRather (hq : G.2.1 ≤ s) (hn : s + 8 ≤ n) (hbe : ∀ a b, a < N → b < N → B (a * 8 + b) = brS A a b) {a b : Nat} {x z : Int32} (ha : a < N) (hb8 : b < N) (hx : x < 0 ∨ ∃ o, o < N ∧ x = nI o) (hz : z < 0 ∨ ∃ o, o < N ∧ z = nI o) (hN8 : N ≤ 8) : Ev G mX5_wouldRather 2 0 0 [.ref s, .int (nI a), .int (nI b), .int x, .int z] (sc G m0 s F W A B) n (RD (.int (if wrS A a b x z then 1 else 0)) (sc G m0 s F W A B) n) := by
  generalize hQ9 : (RD (.int (if wrS A a b x z then 1 else 0)) (sc G m0 s F W A B) n : RQ) = Q9
  refine ev_of (by decide) (Nat.le_of_ble_eq_true rfl) (ls := [some (.ref s), some (.int (nI a)), some (.int (nI b)), some (.int x), some (.int z)]) rfl (fun hb => ?_)
  refine go_iload_n dX5_wouldRather_0 rfl ?_
  refine go_iload_n dX5_wouldRather_1 rfl ?_
  refine go_icmp_eq dX5_wouldRather_2 (fun c2 => ?_) (fun c2 => ?_)
  · refine go_iconst (v := 0) dX5_wouldRather_40 rfl ?_
    exact go_zret dX5_wouldRather_41 rfl (Nat.le_of_ble_eq_true rfl) (Nat.le_of_ble_eq_true rfl) (rfl) ((hQ9 ▸ ⟨rd_i (a := 0) (by simp [wrS, c2]), rfl, rfl⟩))
  · refine go_aload_n dX5_wouldRather_5 rfl ?_
    refine go_iload_n dX5_wouldRather_6 rfl ?_
    refine go_iload_n dX5_wouldRather_7 rfl ?_
    refine go_Vr [.int (nI a), .int (nI b)] [] dX5_wouldRather_8 vl_X5_118 ⟨by decide, by decide⟩ (e_X5_bearingOf (F := F) (W := W) (A := A) (B := B) hq hn hbe (by omega) (by omega) hN8) sc_obj hq (by omega) rfl rfl (Nat.le_of_ble_eq_true rfl) (Nat.le_of_ble_eq_true rfl) (Nat.le_of_ble_eq_true rfl) ?_
    refine go_aload_n dX5_wouldRather_11 rfl ?_
    refine go_iload_n dX5_wouldRather_12 rfl ?_
    refine go_iload_n dX5_wouldRather_13 rfl ?_
    refine go_Vr [.int (nI a), .int x] [.int (brS A a b)] dX5_wouldRather_14 vl_X5_137 ⟨by decide, by decide⟩ (e_X5_borneOf (F := F) (W := W) (A := A) (B := B) hq hn hbe (by omega) hx hN8) sc_obj hq (by omega) rfl rfl (Nat.le_of_ble_eq_true rfl) (Nat.le_of_ble_eq_true rfl) (Nat.le_of_ble_eq_true rfl) ?_
    refine go_icmp_le dX5_wouldRather_17 (fun c17 => ?_) (fun c17 => ?_)
    · have c17 := Int32.not_lt.mpr c17
      refine go_iconst (v := 0) dX5_wouldRather_40 rfl ?_
      exact go_zret dX5_wouldRather_41 rfl (Nat.le_of_ble_eq_true rfl) (Nat.le_of_ble_eq_true rfl) (rfl) ((hQ9 ▸ ⟨rd_i (a := 0) (by simp [wrS, c2, c17]), rfl, rfl⟩))
    · have c17 := Int32.not_le.mp c17
      refine go_aload_n dX5_wouldRather_20 rfl ?_
      refine go_iload_n dX5_wouldRather_21 rfl ?_
      refine go_iload_n dX5_wouldRather_22 rfl ?_
      refine go_Vr [.int (nI b), .int (nI a)] [] dX5_wouldRather_23 vl_X5_118 ⟨by decide, by decide⟩ (e_X5_bearingOf (F := F) (W := W) (A := A) (B := B) hq hn hbe (by omega) (by omega) hN8) sc_obj hq (by omega) rfl rfl (Nat.le_of_ble_eq_true rfl) (Nat.le_of_ble_eq_true rfl) (Nat.le_of_ble_eq_true rfl) ?_
      refine go_aload_n dX5_wouldRather_26 rfl ?_
      refine go_iload_n dX5_wouldRather_27 rfl ?_
      refine go_iload dX5_wouldRather_28 rfl ?_
      refine go_Vr [.int (nI b), .int z] [.int (brS A b a)] dX5_wouldRather_30 vl_X5_137 ⟨by decide, by decide⟩ (e_X5_borneOf (F := F) (W := W) (A := A) (B := B) hq hn hbe (by omega) hz hN8) sc_obj hq (by omega) rfl rfl (Nat.le_of_ble_eq_true rfl) (Nat.le_of_ble_eq_true rfl) (Nat.le_of_ble_eq_true rfl) ?_
      refine go_icmp_le dX5_wouldRather_33 (fun c33 => ?_) (fun c33 => ?_)
      · have c33 := Int32.not_lt.mpr c33
        refine go_iconst (v := 0) dX5_wouldRather_40 rfl ?_
        exact go_zret dX5_wouldRather_41 rfl (Nat.le_of_ble_eq_true rfl) (Nat.le_of_ble_eq_true rfl) (rfl) ((hQ9 ▸ ⟨rd_i (a := 0) (by simp [wrS, c2, c17, c33]), rfl, rfl⟩))
      · have c33 := Int32.not_le.mp c33
        refine go_iconst (v := 1) dX5_wouldRather_36 rfl ?_
        refine go_goto dX5_wouldRather_37 ?_
        exact go_zret dX5_wouldRather_41 rfl (Nat.le_of_ble_eq_true rfl) (Nat.le_of_ble_eq_true rfl) (rfl) ((hQ9 ▸ ⟨rd_i (a := 1) (by simp [wrS, c2, c17, c33]), rfl, rfl⟩))
def rcP (N : Nat) (A : Nat → Nat → Int32) (a b : Nat) : Bool := wrS A a b (mateS N (A 4) a) (mateS N (A 4) b)
def c2U (P : Nat → Nat → Bool) (N : Nat) : Nat → Int32
  | 0 => 0
  | a + 1 => c2U P N a + cnS (fun k => P a (a + 1 + k)) (N - (a + 1))
theorem c2U_nI {P : Nat → Nat → Bool} {N : Nat} : ∀ a, ∃ j, j ≤ a * N ∧ c2U P N a = nI j
  | 0 => ⟨0, Nat.zero_le _, rfl⟩
  | a + 1 => by
    obtain ⟨j, h1, h2⟩ := c2U_nI (P := P) (N := N) a
    obtain ⟨k, h3, h4⟩ := cnS_nI (P := fun k => P a (a + 1 + k)) (N - (a + 1))
    refine ⟨j + k, ?_, ?_⟩
    · rw [Nat.succ_mul]; omega
    · unfold c2U
      rw [h2, h4, nI_add]
set_option maxHeartbeats 4000000 in
set_option maxRecDepth 100000 in
theorem e_X5_howManyRather (hq : G.2.1 ≤ s) (hn : s + 8 ≤ n) (hN : F 0 = nI N) (hN8 : N ≤ 8) (hbe : ∀ a b, a < N → b < N → B (a * 8 + b) = brS A a b) : Ev G mX5_howManyRather 3 0 0 [.ref s] (sc G m0 s F W A B) n (RD (.int (c2U (rcP N A) N N)) (sc G m0 s F W A B) n) := by
  generalize hQ9 : (RD (.int (c2U (rcP N A) N N)) (sc G m0 s F W A B) n : RQ) = Q9
  refine ev_of (by decide) (Nat.le_of_ble_eq_true rfl) (ls := [some (.ref s), none, none, none]) rfl (fun hb => ?_)
  refine go_iconst (v := 0) dX5_howManyRather_0 rfl ?_
  refine go_istore_n (ls' := [some (.ref s), some (.int 0), none, none]) dX5_howManyRather_1 ⟨by decide, rfl, rfl⟩ ?_
  refine go_iconst (v := 0) dX5_howManyRather_2 rfl ?_
  refine go_istore_n (ls' := [some (.ref s), some (.int 0), some (.int 0), none]) dX5_howManyRather_3 ⟨by decide, rfl, rfl⟩ ?_
  have lp0 : ∀ (μ_lp0 : Nat) (i j : Nat) (hi : i ≤ N) (hmi : N + 1 ≤ i + μ_lp0) (hji : j ≤ 8 * i) (hx : nI j = c2U (rcP N A) N i), Go G mX5_howManyRather 3 0 0 Q9 0 0 4 [some (.ref s), some (.int (nI j)), some (.int (nI i)), none] [] (sc G m0 s F W A B) n := by
    intro μ_lp0
    induction μ_lp0 with
    | zero =>
      intro i j hi hmi hji hx
      exact absurd hmi (by omega)
    | succ μ_lp0 ih_lp0 =>
      intro i j hi hmi hji hx
      refine go_iload_n dX5_howManyRather_4 rfl ?_
      refine go_aload_n dX5_howManyRather_5 rfl ?_
      refine go_get dX5_howManyRather_6 fl_X5_9_5 sc_obj hq (by omega) rfl ?_
      refine go_tp (z := nI N) (hN) ?_
      refine go_icmp_ge dX5_howManyRather_9 (fun c9 => ?_) (fun c9 => ?_)
      · have c9n := (nI_leI (a := N) (b := i) (by omega) (by omega)).mp c9
        have c9n := Nat.not_lt.mpr c9n
        have c9 := Int32.not_lt.mpr c9
        refine go_iload_n dX5_howManyRather_58 rfl ?_
        exact go_iret dX5_howManyRather_59 rfl (Nat.le_of_ble_eq_true rfl) (Nat.le_of_ble_eq_true rfl) (hQ9 ▸ ⟨rd_i (by rw [hx, show i = N by omega]), rfl, rfl⟩)
      · have c9n := mt (nI_leI (a := N) (b := i) (by omega) (by omega)).mpr c9
        have c9n := Nat.lt_of_not_le c9n
        have c9 := Int32.not_le.mp c9
        refine go_iload_n dX5_howManyRather_12 rfl ?_
        refine go_iconst (v := 1) dX5_howManyRather_13 rfl ?_
        refine go_iadd dX5_howManyRather_14 ?_
        refine go_tp (z := nI (i + 1)) (nI_add i 1) ?_
        refine go_istore_n (ls' := [some (.ref s), some (.int (nI j)), some (.int (nI i)), some (.int (nI (i + 1)))]) dX5_howManyRather_15 ⟨by decide, rfl, rfl⟩ ?_
        have lp1 : ∀ (μ_lp1 : Nat) (k j2 : Nat) (hk : i + 1 + k ≤ N) (hmk : N + 1 ≤ k + μ_lp1) (hjk : j2 ≤ 8 * i + k) (hy : nI j2 = c2U (rcP N A) N i + cnS (fun k => rcP N A i (i + 1 + k)) k), Go G mX5_howManyRather 3 0 0 Q9 0 0 16 [some (.ref s), some (.int (nI j2)), some (.int (nI i)), some (.int (nI (i + 1 + k)))] [] (sc G m0 s F W A B) n := by
          intro μ_lp1
          induction μ_lp1 with
          | zero =>
            intro k j2 hk hmk hjk hy
            exact absurd hmk (by omega)
          | succ μ_lp1 ih_lp1 =>
            intro k j2 hk hmk hjk hy
            refine go_iload_n dX5_howManyRather_16 rfl ?_
            refine go_aload_n dX5_howManyRather_17 rfl ?_
            refine go_get dX5_howManyRather_18 fl_X5_9_5 sc_obj hq (by omega) rfl ?_
            refine go_tp (z := nI N) (hN) ?_
            refine go_icmp_ge dX5_howManyRather_21 (fun c21 => ?_) (fun c21 => ?_)
            · have c21n := (nI_leI (a := N) (b := i + 1 + k) (by omega) (by omega)).mp c21
              have c21n := Nat.not_lt.mpr c21n
              have c21 := Int32.not_lt.mpr c21
              refine go_iinc (v := nI (i + 1)) (ls' := [some (.ref s), some (.int (nI j2)), some (.int (nI (i + 1))), some (.int (nI (i + 1 + k)))]) dX5_howManyRather_52 rfl (nI_1 (i)) ⟨by decide, rfl, rfl⟩ ?_
              refine go_goto dX5_howManyRather_55 ?_
              refine go_weak (ls' := [some (.ref s), some (.int (nI j2)), some (.int (nI (i + 1))), none]) ⟨rfl, rfl, rfl, trivial⟩ ?_
              exact ih_lp0 (i + 1) j2 (by omega) (by omega) (by omega) (by unfold c2U; rw [hy, show N - (i + 1) = k by omega])
            · have c21n := mt (nI_leI (a := N) (b := i + 1 + k) (by omega) (by omega)).mpr c21
              have c21n := Nat.lt_of_not_le c21n
              have c21 := Int32.not_le.mp c21
              refine go_aload_n dX5_howManyRather_24 rfl ?_
              refine go_iload_n dX5_howManyRather_25 rfl ?_
              refine go_iload_n dX5_howManyRather_26 rfl ?_
              refine go_aload_n dX5_howManyRather_27 rfl ?_
              refine go_iload_n dX5_howManyRather_28 rfl ?_
              refine go_Vr [.int (nI i)] [.int (nI (i + 1 + k)), .int (nI i), .ref s] dX5_howManyRather_29 vl_X5_124 ⟨by decide, by decide⟩ (e_X5_mateOf (F := F) (W := W) (A := A) (B := B) hq hn hN hN8 (by omega)) sc_obj hq (by omega) rfl rfl (Nat.le_of_ble_eq_true rfl) (Nat.le_of_ble_eq_true rfl) (Nat.le_of_ble_eq_true rfl) ?_
              refine go_aload_n dX5_howManyRather_32 rfl ?_
              refine go_iload_n dX5_howManyRather_33 rfl ?_
              refine go_Vr [.int (nI (i + 1 + k))] [.int (mateS N (A 4) i), .int (nI (i + 1 + k)), .int (nI i), .ref s] dX5_howManyRather_34 vl_X5_124 ⟨by decide, by decide⟩ (e_X5_mateOf (F := F) (W := W) (A := A) (B := B) hq hn hN hN8 (by omega)) sc_obj hq (by omega) rfl rfl (Nat.le_of_ble_eq_true rfl) (Nat.le_of_ble_eq_true rfl) (Nat.le_of_ble_eq_true rfl) ?_
              refine go_Vr [.int (nI i), .int (nI (i + 1 + k)), .int (mateS N (A 4) i), .int (mateS N (A 4) (i + 1 + k))] [] dX5_howManyRather_37 vl_X5_140 ⟨by decide, by decide⟩ (e_X5_wouldRather (F := F) (W := W) (A := A) (B := B) hq hn hbe (by omega) (by omega) (mateS_or hN8 _) (mateS_or hN8 _) hN8) sc_obj hq (by omega) rfl rfl (Nat.le_of_ble_eq_true rfl) (Nat.le_of_ble_eq_true rfl) (Nat.le_of_ble_eq_true rfl) ?_
              refine go_if_eq dX5_howManyRather_40 (fun c40 => ?_) (fun c40 => ?_)
              · have c40 := bz_f c40
                refine go_iinc (v := nI ((i + 1 + k) + 1)) (ls' := [some (.ref s), some (.int (nI j2)), some (.int (nI i)), some (.int (nI ((i + 1 + k) + 1)))]) dX5_howManyRather_46 rfl (nI_1 (i + 1 + k)) ⟨by decide, rfl, rfl⟩ ?_
                refine go_goto dX5_howManyRather_49 ?_
                exact ih_lp1 (k + 1) j2 (by omega) (by omega) (by omega) (by unfold cnS; rw [← Int32.add_assoc, ← hy]; simp [rcP, c40])
              · have c40 := bz_t c40
                refine go_iinc (v := nI (j2 + 1)) (ls' := [some (.ref s), some (.int (nI (j2 + 1))), some (.int (nI i)), some (.int (nI (i + 1 + k)))]) dX5_howManyRather_43 rfl (nI_1 (j2)) ⟨by decide, rfl, rfl⟩ ?_
                refine go_iinc (v := nI ((i + 1 + k) + 1)) (ls' := [some (.ref s), some (.int (nI (j2 + 1))), some (.int (nI i)), some (.int (nI ((i + 1 + k) + 1)))]) dX5_howManyRather_46 rfl (nI_1 (i + 1 + k)) ⟨by decide, rfl, rfl⟩ ?_
                refine go_goto dX5_howManyRather_49 ?_
                exact ih_lp1 (k + 1) (j2 + 1) (by omega) (by omega) (by omega) (by unfold cnS; rw [← Int32.add_assoc, ← hy]; simp [rcP, c40, ← nI_1])
        exact lp1 (N + 1) 0 j (by omega) (by omega) (by omega) (by show _ = _ + 0; rw [Int32.add_zero, hx])
  exact lp0 (N + 1) 0 0 (Nat.zero_le _) (by omega) (by omega) rfl
set_option maxHeartbeats 4000000 in
set_option maxRecDepth 100000 in
theorem e_X5_firstRather (hq : G.2.1 ≤ s) (hn : s + 8 ≤ n) (hN : F 0 = nI N) (hN8 : N ≤ 8) (hbe : ∀ a b, a < N → b < N → B (a * 8 + b) = brS A a b) : Ev G mX5_firstRather 3 0 0 [.ref s] (sc G m0 s F W A B) n (RD (.int (f2B (rcP N A) N 0 N)) (sc G m0 s F W A B) n) := by
  generalize hQ9 : (RD (.int (f2B (rcP N A) N 0 N)) (sc G m0 s F W A B) n : RQ) = Q9
  refine ev_of (by decide) (Nat.le_of_ble_eq_true rfl) (ls := [some (.ref s), none, none]) rfl (fun hb => ?_)
  refine go_iconst (v := 0) dX5_firstRather_0 rfl ?_
  refine go_istore_n (ls' := [some (.ref s), some (.int 0), none]) dX5_firstRather_1 ⟨by decide, rfl, rfl⟩ ?_
  have lp0 : ∀ (μ_lp0 : Nat) (i : Nat) (hi : i ≤ N) (hmi : N + 1 ≤ i + μ_lp0) (hx : f2B (rcP N A) N 0 N = f2B (rcP N A) N i (N - i)), Go G mX5_firstRather 3 0 0 Q9 0 0 2 [some (.ref s), some (.int (nI i)), none] [] (sc G m0 s F W A B) n := by
    intro μ_lp0
    induction μ_lp0 with
    | zero =>
      intro i hi hmi hx
      exact absurd hmi (by omega)
    | succ μ_lp0 ih_lp0 =>
      intro i hi hmi hx
      refine go_iload_n dX5_firstRather_2 rfl ?_
      refine go_aload_n dX5_firstRather_3 rfl ?_
      refine go_get dX5_firstRather_4 fl_X5_9_5 sc_obj hq (by omega) rfl ?_
      refine go_tp (z := nI N) (hN) ?_
      refine go_icmp_ge dX5_firstRather_7 (fun c7 => ?_) (fun c7 => ?_)
      · have c7n := (nI_leI (a := N) (b := i) (by omega) (by omega)).mp c7
        have c7n := Nat.not_lt.mpr c7n
        have c7 := Int32.not_lt.mpr c7
        refine go_bipush (v := (-4)) dX5_firstRather_60 rfl ?_
        exact go_iret dX5_firstRather_62 rfl (Nat.le_of_ble_eq_true rfl) (Nat.le_of_ble_eq_true rfl) (hQ9 ▸ ⟨rd_i (by rw [hx, show i = N by omega, f2B_0]), rfl, rfl⟩)
      · have c7n := mt (nI_leI (a := N) (b := i) (by omega) (by omega)).mpr c7
        have c7n := Nat.lt_of_not_le c7n
        have c7 := Int32.not_le.mp c7
        refine go_iload_n dX5_firstRather_10 rfl ?_
        refine go_iconst (v := 1) dX5_firstRather_11 rfl ?_
        refine go_iadd dX5_firstRather_12 ?_
        refine go_tp (z := nI (i + 1)) (nI_add i 1) ?_
        refine go_istore_n (ls' := [some (.ref s), some (.int (nI i)), some (.int (nI (i + 1)))]) dX5_firstRather_13 ⟨by decide, rfl, rfl⟩ ?_
        have lp1 : ∀ (μ_lp1 : Nat) (k : Nat) (hk0 : i + 1 ≤ k) (hk : k ≤ N) (hmk : N + 1 ≤ k + μ_lp1) (hy : f1B (rcP N A i) i (f2B (rcP N A) N (i + 1) (N - (i + 1))) (i + 1) (N - (i + 1)) = f1B (rcP N A i) i (f2B (rcP N A) N (i + 1) (N - (i + 1))) k (N - k)), Go G mX5_firstRather 3 0 0 Q9 0 0 14 [some (.ref s), some (.int (nI i)), some (.int (nI k))] [] (sc G m0 s F W A B) n := by
          intro μ_lp1
          induction μ_lp1 with
          | zero =>
            intro k hk0 hk hmk hy
            exact absurd hmk (by omega)
          | succ μ_lp1 ih_lp1 =>
            intro k hk0 hk hmk hy
            refine go_iload_n dX5_firstRather_14 rfl ?_
            refine go_aload_n dX5_firstRather_15 rfl ?_
            refine go_get dX5_firstRather_16 fl_X5_9_5 sc_obj hq (by omega) rfl ?_
            refine go_tp (z := nI N) (hN) ?_
            refine go_icmp_ge dX5_firstRather_19 (fun c19 => ?_) (fun c19 => ?_)
            · have c19n := (nI_leI (a := N) (b := k) (by omega) (by omega)).mp c19
              have c19n := Nat.not_lt.mpr c19n
              have c19 := Int32.not_lt.mpr c19
              refine go_iinc (v := nI (i + 1)) (ls' := [some (.ref s), some (.int (nI (i + 1))), some (.int (nI k))]) dX5_firstRather_54 rfl (nI_1 (i)) ⟨by decide, rfl, rfl⟩ ?_
              refine go_goto dX5_firstRather_57 ?_
              refine go_weak (ls' := [some (.ref s), some (.int (nI (i + 1))), none]) ⟨rfl, rfl, trivial⟩ ?_
              exact ih_lp0 (i + 1) (by omega) (by omega) (by rw [hx, f2B_d (by omega), hy, show k = N by omega, f1B_0])
            · have c19n := mt (nI_leI (a := N) (b := k) (by omega) (by omega)).mpr c19
              have c19n := Nat.lt_of_not_le c19n
              have c19 := Int32.not_le.mp c19
              refine go_aload_n dX5_firstRather_22 rfl ?_
              refine go_iload_n dX5_firstRather_23 rfl ?_
              refine go_iload_n dX5_firstRather_24 rfl ?_
              refine go_aload_n dX5_firstRather_25 rfl ?_
              refine go_iload_n dX5_firstRather_26 rfl ?_
              refine go_Vr [.int (nI i)] [.int (nI k), .int (nI i), .ref s] dX5_firstRather_27 vl_X5_124 ⟨by decide, by decide⟩ (e_X5_mateOf (F := F) (W := W) (A := A) (B := B) hq hn hN hN8 (by omega)) sc_obj hq (by omega) rfl rfl (Nat.le_of_ble_eq_true rfl) (Nat.le_of_ble_eq_true rfl) (Nat.le_of_ble_eq_true rfl) ?_
              refine go_aload_n dX5_firstRather_30 rfl ?_
              refine go_iload_n dX5_firstRather_31 rfl ?_
              refine go_Vr [.int (nI k)] [.int (mateS N (A 4) i), .int (nI k), .int (nI i), .ref s] dX5_firstRather_32 vl_X5_124 ⟨by decide, by decide⟩ (e_X5_mateOf (F := F) (W := W) (A := A) (B := B) hq hn hN hN8 (by omega)) sc_obj hq (by omega) rfl rfl (Nat.le_of_ble_eq_true rfl) (Nat.le_of_ble_eq_true rfl) (Nat.le_of_ble_eq_true rfl) ?_
              refine go_Vr [.int (nI i), .int (nI k), .int (mateS N (A 4) i), .int (mateS N (A 4) k)] [] dX5_firstRather_35 vl_X5_140 ⟨by decide, by decide⟩ (e_X5_wouldRather (F := F) (W := W) (A := A) (B := B) hq hn hbe (by omega) (by omega) (mateS_or hN8 _) (mateS_or hN8 _) hN8) sc_obj hq (by omega) rfl rfl (Nat.le_of_ble_eq_true rfl) (Nat.le_of_ble_eq_true rfl) (Nat.le_of_ble_eq_true rfl) ?_
              refine go_if_eq dX5_firstRather_38 (fun c38 => ?_) (fun c38 => ?_)
              · have c38 := bz_f c38
                refine go_iinc (v := nI (k + 1)) (ls' := [some (.ref s), some (.int (nI i)), some (.int (nI (k + 1)))]) dX5_firstRather_48 rfl (nI_1 (k)) ⟨by decide, rfl, rfl⟩ ?_
                refine go_goto dX5_firstRather_51 ?_
                exact ih_lp1 (k + 1) (by omega) (by omega) (by omega) (by rw [hy, f1B_d (by omega)]; simp [rcP, c7, c7n, c19, c19n, c38])
              · have c38 := bz_t c38
                refine go_bipush (v := 10) dX5_firstRather_41 rfl ?_
                refine go_iload_n dX5_firstRather_43 rfl ?_
                refine go_imul dX5_firstRather_44 ?_
                refine go_tp (z := nI (10 * i)) (pk_mul 10 i) ?_
                refine go_iload_n dX5_firstRather_45 rfl ?_
                refine go_iadd dX5_firstRather_46 ?_
                refine go_tp (z := nI ((10 * i) + k)) (nI_add (10 * i) k) ?_
                exact go_iret dX5_firstRather_47 rfl (Nat.le_of_ble_eq_true rfl) (Nat.le_of_ble_eq_true rfl) (hQ9 ▸ ⟨rd_i (by rw [hx, f2B_d (by omega), hy, f1B_d (by omega)]; simp [rcP, c7, c7n, c19, c19n, c38]), rfl, rfl⟩)
        exact lp1 (N + 1) (i + 1) (Nat.le_refl _) (by omega) (by omega) rfl
  exact lp0 (N + 1) 0 (Nat.zero_le _) (by omega) rfl
def enS (N : Nat) (A : Nat → Nat → Int32) (p o : Nat) : Bool := decide (ctS N A p < cpS A p (A 4 o) (mateS N (A 4) o))
set_option maxHeartbeats 4000000 in
set_option maxRecDepth 100000 in
theorem e_X5_envies (hq : G.2.1 ≤ s) (hn : s + 8 ≤ n) (hN : F 0 = nI N) (hN8 : N ≤ 8) (hM : F 1 = nI M) (hM5 : M ≤ 5) (hbe : ∀ a b, a < N → b < N → B (a * 8 + b) = brS A a b) (hw : whoOK G m0 s n W A) (hab : ∀ l, l < M → A 6 l = 0 ∨ A 6 l = 1) (hI : insOK N M (A 4)) {p o : Nat} (hp : p < N) (ho : o < N) : Ev G mX5_envies 4 0 0 [.ref s, .int (nI p), .int (nI o)] (sc G m0 s F W A B) n (RD (.int (if enS N A p o then 1 else 0)) (sc G m0 s F W A B) n) := by
  generalize hQ9 : (RD (.int (if enS N A p o then 1 else 0)) (sc G m0 s F W A B) n : RQ) = Q9
  refine ev_of (by decide) (Nat.le_of_ble_eq_true rfl) (ls := [some (.ref s), some (.int (nI p)), some (.int (nI o))]) rfl (fun hb => ?_)
  refine go_aload_n dX5_envies_0 rfl ?_
  refine go_iload_n dX5_envies_1 rfl ?_
  refine go_aload_n dX5_envies_2 rfl ?_
  refine go_get dX5_envies_3 fl_X5_31_5 sc_obj hq (by omega) rfl ?_
  refine go_iload_n dX5_envies_6 rfl ?_
  refine go_iald dX5_envies_7 sc_3 (by omega) (by omega) (vp_in_nI (n := o) (by show o < 8; omega) (by decide)) ?_
  refine go_tp (z := A 4 o) (by rw [nI_clamp (by omega)]) ?_
  refine go_aload_n dX5_envies_8 rfl ?_
  refine go_iload_n dX5_envies_9 rfl ?_
  refine go_Vr [.int (nI o)] [.int (A 4 o), .int (nI p), .ref s] dX5_envies_10 vl_X5_124 ⟨by decide, by decide⟩ (e_X5_mateOf (F := F) (W := W) (A := A) (B := B) hq hn hN hN8 (by omega)) sc_obj hq (by omega) rfl rfl (Nat.le_of_ble_eq_true rfl) (Nat.le_of_ble_eq_true rfl) (Nat.le_of_ble_eq_true rfl) ?_
  refine go_Vr [.int (nI p), .int (A 4 o), .int (mateS N (A 4) o)] [] dX5_envies_13 vl_X5_127 ⟨by decide, by decide⟩ (e_X5_contentWith (F := F) (W := W) (A := A) (B := B) hq hn hM hM5 hbe hw hab (by omega) (hI o ho) (mateS_or hN8 o) hN8) sc_obj hq (by omega) rfl rfl (Nat.le_of_ble_eq_true rfl) (Nat.le_of_ble_eq_true rfl) (Nat.le_of_ble_eq_true rfl) ?_
  refine go_aload_n dX5_envies_16 rfl ?_
  refine go_iload_n dX5_envies_17 rfl ?_
  refine go_Vr [.int (nI p)] [.int (cpS A p (A 4 o) (mateS N (A 4) o))] dX5_envies_18 vl_X5_131 ⟨by decide, by decide⟩ (e_X5_contentOf (F := F) (W := W) (A := A) (B := B) hq hn hN hN8 hM hM5 hbe hw hab hI (by omega)) sc_obj hq (by omega) rfl rfl (Nat.le_of_ble_eq_true rfl) (Nat.le_of_ble_eq_true rfl) (Nat.le_of_ble_eq_true rfl) ?_
  refine go_icmp_le dX5_envies_21 (fun c21 => ?_) (fun c21 => ?_)
  · have c21 := Int32.not_lt.mpr c21
    refine go_iconst (v := 0) dX5_envies_28 rfl ?_
    exact go_zret dX5_envies_29 rfl (Nat.le_of_ble_eq_true rfl) (Nat.le_of_ble_eq_true rfl) (rfl) ((hQ9 ▸ ⟨rd_i (a := 0) (by simp [enS, c21]), rfl, rfl⟩))
  · have c21 := Int32.not_le.mp c21
    refine go_iconst (v := 1) dX5_envies_24 rfl ?_
    refine go_goto dX5_envies_25 ?_
    exact go_zret dX5_envies_29 rfl (Nat.le_of_ble_eq_true rfl) (Nat.le_of_ble_eq_true rfl) (rfl) ((hQ9 ▸ ⟨rd_i (a := 1) (by simp [enS, c21]), rfl, rfl⟩))
def agP (N : Nat) (A : Nat → Nat → Int32) (a b : Nat) : Bool := decide (¬ A 4 a = A 4 b ∧ enS N A a b = true ∧ enS N A b a = true)
set_option maxHeartbeats 4000000 in
set_option maxRecDepth 100000 in
theorem e_X5_firstAgreed (hq : G.2.1 ≤ s) (hn : s + 8 ≤ n) (hN : F 0 = nI N) (hN8 : N ≤ 8) (hM : F 1 = nI M) (hM5 : M ≤ 5) (hbe : ∀ a b, a < N → b < N → B (a * 8 + b) = brS A a b) (hw : whoOK G m0 s n W A) (hab : ∀ l, l < M → A 6 l = 0 ∨ A 6 l = 1) (hI : insOK N M (A 4)) : Ev G mX5_firstAgreed 5 0 0 [.ref s] (sc G m0 s F W A B) n (RD (.int (f2B (agP N A) N 0 N)) (sc G m0 s F W A B) n) := by
  generalize hQ9 : (RD (.int (f2B (agP N A) N 0 N)) (sc G m0 s F W A B) n : RQ) = Q9
  refine ev_of (by decide) (Nat.le_of_ble_eq_true rfl) (ls := [some (.ref s), none, none]) rfl (fun hb => ?_)
  refine go_iconst (v := 0) dX5_firstAgreed_0 rfl ?_
  refine go_istore_n (ls' := [some (.ref s), some (.int 0), none]) dX5_firstAgreed_1 ⟨by decide, rfl, rfl⟩ ?_
  have lp0 : ∀ (μ_lp0 : Nat) (i : Nat) (hi : i ≤ N) (hmi : N + 1 ≤ i + μ_lp0) (hx : f2B (agP N A) N 0 N = f2B (agP N A) N i (N - i)), Go G mX5_firstAgreed 5 0 0 Q9 0 0 2 [some (.ref s), some (.int (nI i)), none] [] (sc G m0 s F W A B) n := by
    intro μ_lp0
    induction μ_lp0 with
    | zero =>
      intro i hi hmi hx
      exact absurd hmi (by omega)
    | succ μ_lp0 ih_lp0 =>
      intro i hi hmi hx
      refine go_iload_n dX5_firstAgreed_2 rfl ?_
      refine go_aload_n dX5_firstAgreed_3 rfl ?_
      refine go_get dX5_firstAgreed_4 fl_X5_9_5 sc_obj hq (by omega) rfl ?_
      refine go_tp (z := nI N) (hN) ?_
      refine go_icmp_ge dX5_firstAgreed_7 (fun c7 => ?_) (fun c7 => ?_)
      · have c7n := (nI_leI (a := N) (b := i) (by omega) (by omega)).mp c7
        have c7n := Nat.not_lt.mpr c7n
        have c7 := Int32.not_lt.mpr c7
        refine go_bipush (v := (-4)) dX5_firstAgreed_74 rfl ?_
        exact go_iret dX5_firstAgreed_76 rfl (Nat.le_of_ble_eq_true rfl) (Nat.le_of_ble_eq_true rfl) (hQ9 ▸ ⟨rd_i (by rw [hx, show i = N by omega, f2B_0]), rfl, rfl⟩)
      · have c7n := mt (nI_leI (a := N) (b := i) (by omega) (by omega)).mpr c7
        have c7n := Nat.lt_of_not_le c7n
        have c7 := Int32.not_le.mp c7
        refine go_iload_n dX5_firstAgreed_10 rfl ?_
        refine go_iconst (v := 1) dX5_firstAgreed_11 rfl ?_
        refine go_iadd dX5_firstAgreed_12 ?_
        refine go_tp (z := nI (i + 1)) (nI_add i 1) ?_
        refine go_istore_n (ls' := [some (.ref s), some (.int (nI i)), some (.int (nI (i + 1)))]) dX5_firstAgreed_13 ⟨by decide, rfl, rfl⟩ ?_
        have lp1 : ∀ (μ_lp1 : Nat) (k : Nat) (hk0 : i + 1 ≤ k) (hk : k ≤ N) (hmk : N + 1 ≤ k + μ_lp1) (hy : f1B (agP N A i) i (f2B (agP N A) N (i + 1) (N - (i + 1))) (i + 1) (N - (i + 1)) = f1B (agP N A i) i (f2B (agP N A) N (i + 1) (N - (i + 1))) k (N - k)), Go G mX5_firstAgreed 5 0 0 Q9 0 0 14 [some (.ref s), some (.int (nI i)), some (.int (nI k))] [] (sc G m0 s F W A B) n := by
          intro μ_lp1
          induction μ_lp1 with
          | zero =>
            intro k hk0 hk hmk hy
            exact absurd hmk (by omega)
          | succ μ_lp1 ih_lp1 =>
            intro k hk0 hk hmk hy
            refine go_iload_n dX5_firstAgreed_14 rfl ?_
            refine go_aload_n dX5_firstAgreed_15 rfl ?_
            refine go_get dX5_firstAgreed_16 fl_X5_9_5 sc_obj hq (by omega) rfl ?_
            refine go_tp (z := nI N) (hN) ?_
            refine go_icmp_ge dX5_firstAgreed_19 (fun c19 => ?_) (fun c19 => ?_)
            · have c19n := (nI_leI (a := N) (b := k) (by omega) (by omega)).mp c19
              have c19n := Nat.not_lt.mpr c19n
              have c19 := Int32.not_lt.mpr c19
              refine go_iinc (v := nI (i + 1)) (ls' := [some (.ref s), some (.int (nI (i + 1))), some (.int (nI k))]) dX5_firstAgreed_68 rfl (nI_1 (i)) ⟨by decide, rfl, rfl⟩ ?_
              refine go_goto dX5_firstAgreed_71 ?_
              refine go_weak (ls' := [some (.ref s), some (.int (nI (i + 1))), none]) ⟨rfl, rfl, trivial⟩ ?_
              exact ih_lp0 (i + 1) (by omega) (by omega) (by rw [hx, f2B_d (by omega), hy, show k = N by omega, f1B_0])
            · have c19n := mt (nI_leI (a := N) (b := k) (by omega) (by omega)).mpr c19
              have c19n := Nat.lt_of_not_le c19n
              have c19 := Int32.not_le.mp c19
              refine go_aload_n dX5_firstAgreed_22 rfl ?_
              refine go_get dX5_firstAgreed_23 fl_X5_31_5 sc_obj hq (by omega) rfl ?_
              refine go_iload_n dX5_firstAgreed_26 rfl ?_
              refine go_iald dX5_firstAgreed_27 sc_3 (by omega) (by omega) (vp_in_nI (n := i) (by show i < 8; omega) (by decide)) ?_
              refine go_tp (z := A 4 i) (by rw [nI_clamp (by omega)]) ?_
              refine go_aload_n dX5_firstAgreed_28 rfl ?_
              refine go_get dX5_firstAgreed_29 fl_X5_31_5 sc_obj hq (by omega) rfl ?_
              refine go_iload_n dX5_firstAgreed_32 rfl ?_
              refine go_iald dX5_firstAgreed_33 sc_3 (by omega) (by omega) (vp_in_nI (n := k) (by show k < 8; omega) (by decide)) ?_
              refine go_tp (z := A 4 k) (by rw [nI_clamp (by omega)]) ?_
              refine go_icmp_eq dX5_firstAgreed_34 (fun c34 => ?_) (fun c34 => ?_)
              · refine go_iinc (v := nI (k + 1)) (ls' := [some (.ref s), some (.int (nI i)), some (.int (nI (k + 1)))]) dX5_firstAgreed_62 rfl (nI_1 (k)) ⟨by decide, rfl, rfl⟩ ?_
                refine go_goto dX5_firstAgreed_65 ?_
                exact ih_lp1 (k + 1) (by omega) (by omega) (by omega) (by rw [hy, f1B_d (by omega)]; simp [agP, c7, c7n, c19, c19n, c34])
              · refine go_aload_n dX5_firstAgreed_37 rfl ?_
                refine go_iload_n dX5_firstAgreed_38 rfl ?_
                refine go_iload_n dX5_firstAgreed_39 rfl ?_
                refine go_Vr [.int (nI i), .int (nI k)] [] dX5_firstAgreed_40 vl_X5_144 ⟨by decide, by decide⟩ (e_X5_envies (F := F) (W := W) (A := A) (B := B) hq hn hN hN8 hM hM5 hbe hw hab hI (by omega) (by omega)) sc_obj hq (by omega) rfl rfl (Nat.le_of_ble_eq_true rfl) (Nat.le_of_ble_eq_true rfl) (Nat.le_of_ble_eq_true rfl) ?_
                refine go_if_eq dX5_firstAgreed_43 (fun c43 => ?_) (fun c43 => ?_)
                · have c43 := bz_f c43
                  refine go_iinc (v := nI (k + 1)) (ls' := [some (.ref s), some (.int (nI i)), some (.int (nI (k + 1)))]) dX5_firstAgreed_62 rfl (nI_1 (k)) ⟨by decide, rfl, rfl⟩ ?_
                  refine go_goto dX5_firstAgreed_65 ?_
                  exact ih_lp1 (k + 1) (by omega) (by omega) (by omega) (by rw [hy, f1B_d (by omega)]; simp [agP, c7, c7n, c19, c19n, c34, c43])
                · have c43 := bz_t c43
                  refine go_aload_n dX5_firstAgreed_46 rfl ?_
                  refine go_iload_n dX5_firstAgreed_47 rfl ?_
                  refine go_iload_n dX5_firstAgreed_48 rfl ?_
                  refine go_Vr [.int (nI k), .int (nI i)] [] dX5_firstAgreed_49 vl_X5_144 ⟨by decide, by decide⟩ (e_X5_envies (F := F) (W := W) (A := A) (B := B) hq hn hN hN8 hM hM5 hbe hw hab hI (by omega) (by omega)) sc_obj hq (by omega) rfl rfl (Nat.le_of_ble_eq_true rfl) (Nat.le_of_ble_eq_true rfl) (Nat.le_of_ble_eq_true rfl) ?_
                  refine go_if_eq dX5_firstAgreed_52 (fun c52 => ?_) (fun c52 => ?_)
                  · have c52 := bz_f c52
                    refine go_iinc (v := nI (k + 1)) (ls' := [some (.ref s), some (.int (nI i)), some (.int (nI (k + 1)))]) dX5_firstAgreed_62 rfl (nI_1 (k)) ⟨by decide, rfl, rfl⟩ ?_
                    refine go_goto dX5_firstAgreed_65 ?_
                    exact ih_lp1 (k + 1) (by omega) (by omega) (by omega) (by rw [hy, f1B_d (by omega)]; simp [agP, c7, c7n, c19, c19n, c34, c43, c52])
                  · have c52 := bz_t c52
                    refine go_bipush (v := 10) dX5_firstAgreed_55 rfl ?_
                    refine go_iload_n dX5_firstAgreed_57 rfl ?_
                    refine go_imul dX5_firstAgreed_58 ?_
                    refine go_tp (z := nI (10 * i)) (pk_mul 10 i) ?_
                    refine go_iload_n dX5_firstAgreed_59 rfl ?_
                    refine go_iadd dX5_firstAgreed_60 ?_
                    refine go_tp (z := nI ((10 * i) + k)) (nI_add (10 * i) k) ?_
                    exact go_iret dX5_firstAgreed_61 rfl (Nat.le_of_ble_eq_true rfl) (Nat.le_of_ble_eq_true rfl) (hQ9 ▸ ⟨rd_i (by rw [hx, f2B_d (by omega), hy, f1B_d (by omega)]; simp [agP, c7, c7n, c19, c19n, c34, c43, c52]), rfl, rfl⟩)
        exact lp1 (N + 1) (i + 1) (Nat.le_refl _) (by omega) (by omega) rfl
  exact lp0 (N + 1) 0 (Nat.zero_le _) (by omega) rfl
end C2
