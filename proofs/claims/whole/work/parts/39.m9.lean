section M9
variable {G : GX} {m0 f : Mem} {q n N M : Nat} {F : Nat → Int32} {A : Nat → Nat → Int32} {L : Nat → Nat → Int64} {K : Option Nat}
set_option maxHeartbeats 4000000 in
set_option maxRecDepth 100000 in
theorem e_X12_lowest {s : Nat} (hs : s < 256) (hs0 : s ≠ 0) : Ev G mX12_lowest 2 0 0 [.int (nI s)] f n (RD (.int (nI (lowN s))) f n) := by
  generalize hQ9 : (RD (.int (nI (lowN s))) f n : RQ) = Q9
  refine ev_of (by decide) (Nat.le_of_ble_eq_true rfl) (ls := [some (.int (nI s)), none]) rfl (fun hb => ?_)
  refine go_iconst (v := 0) dX12_lowest_0 rfl ?_
  refine go_istore_n (ls' := [some (.int (nI s)), some (.int 0)]) dX12_lowest_1 ⟨by decide, rfl, rfl⟩ ?_
  have lp0 : ∀ (μ_lp0 : Nat) (k : Nat) (hk : k ≤ 8) (hmk : 9 ≤ k + μ_lp0) (hx : lowN s = lwF s k (8 - k)), Go G mX12_lowest 2 0 0 Q9 0 0 2 [some (.int (nI s)), some (.int (nI k))] [] f n := by
    intro μ_lp0
    induction μ_lp0 with
    | zero =>
      intro k hk hmk hx
      exact absurd hmk (by omega)
    | succ μ_lp0 ih_lp0 =>
      intro k hk hmk hx
      have hk8 : k < 8 := by
        rcases Nat.lt_or_ge k 8 with z | z
        · exact z
        · exact (low_8 hs hs0 (by rw [hx, show k = 8 by omega])).elim
      refine go_iload_n dX12_lowest_2 rfl ?_
      refine go_iload_n dX12_lowest_3 rfl ?_
      refine go_Sr [.int (nI s), .int (nI k)] [] dX12_lowest_4 sl_X12_245 ⟨by decide, by decide⟩ (e_X12_hasBit) rfl rfl (Nat.le_of_ble_eq_true rfl) (Nat.le_of_ble_eq_true rfl) (Nat.le_of_ble_eq_true rfl) ?_
      refine go_tp (z := if Nat.testBit s k then 1 else 0) (by rw [bit_t _ (by omega) _ (by omega)]) ?_
      refine go_if_ne dX12_lowest_7 (fun c7 => ?_) (fun c7 => ?_)
      · have c7 := bz_t c7
        refine go_iload_n dX12_lowest_16 rfl ?_
        exact go_iret dX12_lowest_17 rfl (Nat.le_of_ble_eq_true rfl) (Nat.le_of_ble_eq_true rfl) (hQ9 ▸ ⟨rd_i (by rw [hx, lwF_d (by omega)]; simp [c7]), rfl, rfl⟩)
      · have c7 := bz_f c7
        refine go_iinc (v := nI (k + 1)) (ls' := [some (.int (nI s)), some (.int (nI (k + 1)))]) dX12_lowest_10 rfl (nI_1 (k)) ⟨by decide, rfl, rfl⟩ ?_
        refine go_goto dX12_lowest_13 ?_
        exact ih_lp0 (k + 1) (by omega) (by omega) (by rw [hx, lwF_d (by omega)]; simp [c7])
  exact lp0 9 0 (by omega) (by omega) rfl
set_option maxHeartbeats 4000000 in
set_option maxRecDepth 100000 in
theorem e_X12_onesOf {s : Nat} (hs : s < 256) : Ev G mX12_onesOf 1 0 0 [.int (nI s)] f n (RD (.int (nI (popN s))) f n) := by
  generalize hQ9 : (RD (.int (nI (popN s))) f n : RQ) = Q9
  refine ev_of (by decide) (Nat.le_of_ble_eq_true rfl) (ls := [some (.int (nI s)), none, none]) rfl (fun hb => ?_)
  refine go_iconst (v := 0) dX12_onesOf_0 rfl ?_
  refine go_istore_n (ls' := [some (.int (nI s)), some (.int 0), none]) dX12_onesOf_1 ⟨by decide, rfl, rfl⟩ ?_
  refine go_iload_n dX12_onesOf_2 rfl ?_
  refine go_istore_n (ls' := [some (.int (nI s)), some (.int 0), some (.int (nI s))]) dX12_onesOf_3 ⟨by decide, rfl, rfl⟩ ?_
  have lp0 : ∀ (μ_lp0 : Nat) (z c : Nat) (hz : z ≤ s) (hmz : z + 1 ≤ μ_lp0) (hx : popN s = popN z + c), Go G mX12_onesOf 1 0 0 Q9 0 0 4 [some (.int (nI s)), some (.int (nI c)), some (.int (nI z))] [] f n := by
    intro μ_lp0
    induction μ_lp0 with
    | zero =>
      intro z c hz hmz hx
      exact absurd hmz (by omega)
    | succ μ_lp0 ih_lp0 =>
      intro z c hz hmz hx
      refine go_iload_n dX12_onesOf_4 rfl ?_
      refine go_if_eq dX12_onesOf_5 (fun c5 => ?_) (fun c5 => ?_)
      · have c5n := (n0_eq (a := z) (by omega)).mp c5
        refine go_iload_n dX12_onesOf_20 rfl ?_
        exact go_iret dX12_onesOf_21 rfl (Nat.le_of_ble_eq_true rfl) (Nat.le_of_ble_eq_true rfl) (hQ9 ▸ ⟨rd_i (by rw [hx, c5n]; congr 1; exact (Nat.zero_add c).symm), rfl, rfl⟩)
      · have c5n := mt (n0_eq (a := z) (by omega)).mpr c5
        refine go_iinc (v := nI (c + 1)) (ls' := [some (.int (nI s)), some (.int (nI (c + 1))), some (.int (nI z))]) dX12_onesOf_8 rfl (nI_1 (c)) ⟨by decide, rfl, rfl⟩ ?_
        refine go_iload_n dX12_onesOf_11 rfl ?_
        refine go_iload_n dX12_onesOf_12 rfl ?_
        refine go_iconst (v := 1) dX12_onesOf_13 rfl ?_
        refine go_isub dX12_onesOf_14 ?_
        refine go_iand dX12_onesOf_15 ?_
        refine go_tp (z := nI (z &&& (z - 1))) (and_1 z (by omega) (by omega)) ?_
        refine go_istore_n (ls' := [some (.int (nI s)), some (.int (nI (c + 1))), some (.int (nI (z &&& (z - 1))))]) dX12_onesOf_16 ⟨by decide, rfl, rfl⟩ ?_
        refine go_goto dX12_onesOf_17 ?_
        exact ih_lp0 _ _ (by have := (pop_s z (by omega) (by omega)).2; omega) (by have := (pop_s z (by omega) (by omega)).2; omega) (by have := (pop_s z (by omega) (by omega)).1; omega)
  exact lp0 (s + 1) s 0 (by omega) (by omega) (by omega)
set_option maxHeartbeats 4000000 in
set_option maxRecDepth 100000 in
theorem e_X12_twosOf_m1  : Ev G mX12_twosOf 1 0 0 [.int (-1)] f n (RD (.int 1) f n) := by
  generalize hQ9 : (RD (.int 1) f n : RQ) = Q9
  refine ev_of (by decide) (Nat.le_of_ble_eq_true rfl) (ls := [some (.int (-1)), none, none]) rfl (fun hb => ?_)
  refine go_iconst (v := 1) dX12_twosOf_0 rfl ?_
  refine go_istore_n (ls' := [some (.int (-1)), some (.int 1), none]) dX12_twosOf_1 ⟨by decide, rfl, rfl⟩ ?_
  refine go_iload_n dX12_twosOf_2 rfl ?_
  refine go_iconst (v := 2) dX12_twosOf_3 rfl ?_
  refine go_irem dX12_twosOf_4 (by decide) ?_
  refine go_tp (z := (-1)) (by decide) ?_
  refine go_if_ne dX12_twosOf_5 (fun c5 => ?_) (fun c5 => ?_)
  · refine go_iload_n dX12_twosOf_14 rfl ?_
    refine go_istore_n (ls' := [some (.int (-1)), some (.int 1), some (.int (-1))]) dX12_twosOf_15 ⟨by decide, rfl, rfl⟩ ?_
    refine go_iload_n dX12_twosOf_16 rfl ?_
    refine go_iconst (v := 1) dX12_twosOf_17 rfl ?_
    refine go_icmp_le dX12_twosOf_18 (fun c18 => ?_) (fun c18 => ?_)
    · have c18 := Int32.not_lt.mpr c18
      refine go_iload_n dX12_twosOf_31 rfl ?_
      exact go_iret dX12_twosOf_32 rfl (Nat.le_of_ble_eq_true rfl) (Nat.le_of_ble_eq_true rfl) (hQ9 ▸ ⟨rfl, rfl, rfl⟩)
    · have c18 := Int32.not_le.mp c18
      first | exact absurd c18 (by decide) | exact absurd (by decide) c18 | exact absurd rfl c18 | omega
  · first | exact absurd c5 (by decide) | exact absurd (by decide) c5 | exact absurd rfl c5 | omega
set_option maxHeartbeats 4000000 in
set_option maxRecDepth 100000 in
theorem e_X12_twosOf_0  : Ev G mX12_twosOf 1 0 0 [.int 0] f n (RD (.int 1) f n) := by
  generalize hQ9 : (RD (.int 1) f n : RQ) = Q9
  refine ev_of (by decide) (Nat.le_of_ble_eq_true rfl) (ls := [some (.int 0), none, none]) rfl (fun hb => ?_)
  refine go_iconst (v := 1) dX12_twosOf_0 rfl ?_
  refine go_istore_n (ls' := [some (.int 0), some (.int 1), none]) dX12_twosOf_1 ⟨by decide, rfl, rfl⟩ ?_
  refine go_iload_n dX12_twosOf_2 rfl ?_
  refine go_iconst (v := 2) dX12_twosOf_3 rfl ?_
  refine go_irem dX12_twosOf_4 (by decide) ?_
  refine go_tp (z := 0) (by decide) ?_
  refine go_if_ne dX12_twosOf_5 (fun c5 => ?_) (fun c5 => ?_)
  · have c5n := mt (n0_eq (a := 0) (by omega)).mpr c5
    first | exact absurd c5n (by decide) | exact absurd (by decide) c5n | exact absurd rfl c5n | omega
  · have c5n := (n0_eq (a := 0) (by omega)).mp c5
    refine go_iload_n dX12_twosOf_8 rfl ?_
    refine go_iconst (v := 1) dX12_twosOf_9 rfl ?_
    refine go_isub dX12_twosOf_10 ?_
    refine go_tp (z := (-1)) (by decide) ?_
    refine go_goto dX12_twosOf_11 ?_
    refine go_istore_n (ls' := [some (.int 0), some (.int 1), some (.int (-1))]) dX12_twosOf_15 ⟨by decide, rfl, rfl⟩ ?_
    refine go_iload_n dX12_twosOf_16 rfl ?_
    refine go_iconst (v := 1) dX12_twosOf_17 rfl ?_
    refine go_icmp_le dX12_twosOf_18 (fun c18 => ?_) (fun c18 => ?_)
    · have c18 := Int32.not_lt.mpr c18
      refine go_iload_n dX12_twosOf_31 rfl ?_
      exact go_iret dX12_twosOf_32 rfl (Nat.le_of_ble_eq_true rfl) (Nat.le_of_ble_eq_true rfl) (hQ9 ▸ ⟨rfl, rfl, rfl⟩)
    · have c18 := Int32.not_le.mp c18
      first | exact absurd c18 (by decide) | exact absurd (by decide) c18 | exact absurd rfl c18 | omega
set_option maxHeartbeats 4000000 in
set_option maxRecDepth 100000 in
theorem e_X12_twosOf_1  : Ev G mX12_twosOf 1 0 0 [.int 1] f n (RD (.int 1) f n) := by
  generalize hQ9 : (RD (.int 1) f n : RQ) = Q9
  refine ev_of (by decide) (Nat.le_of_ble_eq_true rfl) (ls := [some (.int 1), none, none]) rfl (fun hb => ?_)
  refine go_iconst (v := 1) dX12_twosOf_0 rfl ?_
  refine go_istore_n (ls' := [some (.int 1), some (.int 1), none]) dX12_twosOf_1 ⟨by decide, rfl, rfl⟩ ?_
  refine go_iload_n dX12_twosOf_2 rfl ?_
  refine go_iconst (v := 2) dX12_twosOf_3 rfl ?_
  refine go_irem dX12_twosOf_4 (by decide) ?_
  refine go_tp (z := 1) (by decide) ?_
  refine go_if_ne dX12_twosOf_5 (fun c5 => ?_) (fun c5 => ?_)
  · have c5n := mt (n0_eq (a := 1) (by omega)).mpr c5
    refine go_iload_n dX12_twosOf_14 rfl ?_
    refine go_istore_n (ls' := [some (.int 1), some (.int 1), some (.int 1)]) dX12_twosOf_15 ⟨by decide, rfl, rfl⟩ ?_
    refine go_iload_n dX12_twosOf_16 rfl ?_
    refine go_iconst (v := 1) dX12_twosOf_17 rfl ?_
    refine go_icmp_le dX12_twosOf_18 (fun c18 => ?_) (fun c18 => ?_)
    · have c18n := (nI_leI (a := 1) (b := 1) (by omega) (by omega)).mp c18
      have c18n := Nat.not_lt.mpr c18n
      have c18 := Int32.not_lt.mpr c18
      refine go_iload_n dX12_twosOf_31 rfl ?_
      exact go_iret dX12_twosOf_32 rfl (Nat.le_of_ble_eq_true rfl) (Nat.le_of_ble_eq_true rfl) (hQ9 ▸ ⟨rfl, rfl, rfl⟩)
    · have c18n := mt (nI_leI (a := 1) (b := 1) (by omega) (by omega)).mpr c18
      have c18n := Nat.lt_of_not_le c18n
      have c18 := Int32.not_le.mp c18
      first | exact absurd c18n (by decide) | exact absurd (by decide) c18n | exact absurd rfl c18n | omega
  · have c5n := (n0_eq (a := 1) (by omega)).mp c5
    first | exact absurd c5n (by decide) | exact absurd (by decide) c5n | exact absurd rfl c5n | omega
set_option maxHeartbeats 4000000 in
set_option maxRecDepth 100000 in
theorem e_X12_twosOf_2  : Ev G mX12_twosOf 1 0 0 [.int 2] f n (RD (.int 1) f n) := by
  generalize hQ9 : (RD (.int 1) f n : RQ) = Q9
  refine ev_of (by decide) (Nat.le_of_ble_eq_true rfl) (ls := [some (.int 2), none, none]) rfl (fun hb => ?_)
  refine go_iconst (v := 1) dX12_twosOf_0 rfl ?_
  refine go_istore_n (ls' := [some (.int 2), some (.int 1), none]) dX12_twosOf_1 ⟨by decide, rfl, rfl⟩ ?_
  refine go_iload_n dX12_twosOf_2 rfl ?_
  refine go_iconst (v := 2) dX12_twosOf_3 rfl ?_
  refine go_irem dX12_twosOf_4 (by decide) ?_
  refine go_tp (z := 0) (by decide) ?_
  refine go_if_ne dX12_twosOf_5 (fun c5 => ?_) (fun c5 => ?_)
  · have c5n := mt (n0_eq (a := 0) (by omega)).mpr c5
    first | exact absurd c5n (by decide) | exact absurd (by decide) c5n | exact absurd rfl c5n | omega
  · have c5n := (n0_eq (a := 0) (by omega)).mp c5
    refine go_iload_n dX12_twosOf_8 rfl ?_
    refine go_iconst (v := 1) dX12_twosOf_9 rfl ?_
    refine go_isub dX12_twosOf_10 ?_
    refine go_tp (z := 1) (by decide) ?_
    refine go_goto dX12_twosOf_11 ?_
    refine go_istore_n (ls' := [some (.int 2), some (.int 1), some (.int 1)]) dX12_twosOf_15 ⟨by decide, rfl, rfl⟩ ?_
    refine go_iload_n dX12_twosOf_16 rfl ?_
    refine go_iconst (v := 1) dX12_twosOf_17 rfl ?_
    refine go_icmp_le dX12_twosOf_18 (fun c18 => ?_) (fun c18 => ?_)
    · have c18n := (nI_leI (a := 1) (b := 1) (by omega) (by omega)).mp c18
      have c18n := Nat.not_lt.mpr c18n
      have c18 := Int32.not_lt.mpr c18
      refine go_iload_n dX12_twosOf_31 rfl ?_
      exact go_iret dX12_twosOf_32 rfl (Nat.le_of_ble_eq_true rfl) (Nat.le_of_ble_eq_true rfl) (hQ9 ▸ ⟨rfl, rfl, rfl⟩)
    · have c18n := mt (nI_leI (a := 1) (b := 1) (by omega) (by omega)).mpr c18
      have c18n := Nat.lt_of_not_le c18n
      have c18 := Int32.not_le.mp c18
      first | exact absurd c18n (by decide) | exact absurd (by decide) c18n | exact absurd rfl c18n | omega
set_option maxHeartbeats 4000000 in
set_option maxRecDepth 100000 in
theorem e_X12_twosOf_3  : Ev G mX12_twosOf 1 0 0 [.int 3] f n (RD (.int 3) f n) := by
  generalize hQ9 : (RD (.int 3) f n : RQ) = Q9
  refine ev_of (by decide) (Nat.le_of_ble_eq_true rfl) (ls := [some (.int 3), none, none]) rfl (fun hb => ?_)
  refine go_iconst (v := 1) dX12_twosOf_0 rfl ?_
  refine go_istore_n (ls' := [some (.int 3), some (.int 1), none]) dX12_twosOf_1 ⟨by decide, rfl, rfl⟩ ?_
  refine go_iload_n dX12_twosOf_2 rfl ?_
  refine go_iconst (v := 2) dX12_twosOf_3 rfl ?_
  refine go_irem dX12_twosOf_4 (by decide) ?_
  refine go_tp (z := 1) (by decide) ?_
  refine go_if_ne dX12_twosOf_5 (fun c5 => ?_) (fun c5 => ?_)
  · have c5n := mt (n0_eq (a := 1) (by omega)).mpr c5
    refine go_iload_n dX12_twosOf_14 rfl ?_
    refine go_istore_n (ls' := [some (.int 3), some (.int 1), some (.int 3)]) dX12_twosOf_15 ⟨by decide, rfl, rfl⟩ ?_
    refine go_iload_n dX12_twosOf_16 rfl ?_
    refine go_iconst (v := 1) dX12_twosOf_17 rfl ?_
    refine go_icmp_le dX12_twosOf_18 (fun c18 => ?_) (fun c18 => ?_)
    · have c18n := (nI_leI (a := 3) (b := 1) (by omega) (by omega)).mp c18
      have c18n := Nat.not_lt.mpr c18n
      have c18 := Int32.not_lt.mpr c18
      first | exact absurd c18n (by decide) | exact absurd (by decide) c18n | exact absurd rfl c18n | omega
    · have c18n := mt (nI_leI (a := 3) (b := 1) (by omega) (by omega)).mpr c18
      have c18n := Nat.lt_of_not_le c18n
      have c18 := Int32.not_le.mp c18
      refine go_iload_n dX12_twosOf_21 rfl ?_
      refine go_iload_n dX12_twosOf_22 rfl ?_
      refine go_imul dX12_twosOf_23 ?_
      refine go_tp (z := 3) (by decide) ?_
      refine go_istore_n (ls' := [some (.int 3), some (.int 3), some (.int 3)]) dX12_twosOf_24 ⟨by decide, rfl, rfl⟩ ?_
      refine go_iinc (v := 1) (ls' := [some (.int 3), some (.int 3), some (.int 1)]) dX12_twosOf_25 rfl (by decide) ⟨by decide, rfl, rfl⟩ ?_
      refine go_goto dX12_twosOf_28 ?_
      refine go_iload_n dX12_twosOf_16 rfl ?_
      refine go_iconst (v := 1) dX12_twosOf_17 rfl ?_
      refine go_icmp_le dX12_twosOf_18 (fun c18 => ?_) (fun c18 => ?_)
      · have c18n := (nI_leI (a := 1) (b := 1) (by omega) (by omega)).mp c18
        have c18n := Nat.not_lt.mpr c18n
        have c18 := Int32.not_lt.mpr c18
        refine go_iload_n dX12_twosOf_31 rfl ?_
        exact go_iret dX12_twosOf_32 rfl (Nat.le_of_ble_eq_true rfl) (Nat.le_of_ble_eq_true rfl) (hQ9 ▸ ⟨rfl, rfl, rfl⟩)
      · have c18n := mt (nI_leI (a := 1) (b := 1) (by omega) (by omega)).mpr c18
        have c18n := Nat.lt_of_not_le c18n
        have c18 := Int32.not_le.mp c18
        first | exact absurd c18n (by decide) | exact absurd (by decide) c18n | exact absurd rfl c18n | omega
  · have c5n := (n0_eq (a := 1) (by omega)).mp c5
    first | exact absurd c5n (by decide) | exact absurd (by decide) c5n | exact absurd rfl c5n | omega
set_option maxHeartbeats 4000000 in
set_option maxRecDepth 100000 in
theorem e_X12_twosOf_4  : Ev G mX12_twosOf 1 0 0 [.int 4] f n (RD (.int 3) f n) := by
  generalize hQ9 : (RD (.int 3) f n : RQ) = Q9
  refine ev_of (by decide) (Nat.le_of_ble_eq_true rfl) (ls := [some (.int 4), none, none]) rfl (fun hb => ?_)
  refine go_iconst (v := 1) dX12_twosOf_0 rfl ?_
  refine go_istore_n (ls' := [some (.int 4), some (.int 1), none]) dX12_twosOf_1 ⟨by decide, rfl, rfl⟩ ?_
  refine go_iload_n dX12_twosOf_2 rfl ?_
  refine go_iconst (v := 2) dX12_twosOf_3 rfl ?_
  refine go_irem dX12_twosOf_4 (by decide) ?_
  refine go_tp (z := 0) (by decide) ?_
  refine go_if_ne dX12_twosOf_5 (fun c5 => ?_) (fun c5 => ?_)
  · have c5n := mt (n0_eq (a := 0) (by omega)).mpr c5
    first | exact absurd c5n (by decide) | exact absurd (by decide) c5n | exact absurd rfl c5n | omega
  · have c5n := (n0_eq (a := 0) (by omega)).mp c5
    refine go_iload_n dX12_twosOf_8 rfl ?_
    refine go_iconst (v := 1) dX12_twosOf_9 rfl ?_
    refine go_isub dX12_twosOf_10 ?_
    refine go_tp (z := 3) (by decide) ?_
    refine go_goto dX12_twosOf_11 ?_
    refine go_istore_n (ls' := [some (.int 4), some (.int 1), some (.int 3)]) dX12_twosOf_15 ⟨by decide, rfl, rfl⟩ ?_
    refine go_iload_n dX12_twosOf_16 rfl ?_
    refine go_iconst (v := 1) dX12_twosOf_17 rfl ?_
    refine go_icmp_le dX12_twosOf_18 (fun c18 => ?_) (fun c18 => ?_)
    · have c18n := (nI_leI (a := 3) (b := 1) (by omega) (by omega)).mp c18
      have c18n := Nat.not_lt.mpr c18n
      have c18 := Int32.not_lt.mpr c18
      first | exact absurd c18n (by decide) | exact absurd (by decide) c18n | exact absurd rfl c18n | omega
    · have c18n := mt (nI_leI (a := 3) (b := 1) (by omega) (by omega)).mpr c18
      have c18n := Nat.lt_of_not_le c18n
      have c18 := Int32.not_le.mp c18
      refine go_iload_n dX12_twosOf_21 rfl ?_
      refine go_iload_n dX12_twosOf_22 rfl ?_
      refine go_imul dX12_twosOf_23 ?_
      refine go_tp (z := 3) (by decide) ?_
      refine go_istore_n (ls' := [some (.int 4), some (.int 3), some (.int 3)]) dX12_twosOf_24 ⟨by decide, rfl, rfl⟩ ?_
      refine go_iinc (v := 1) (ls' := [some (.int 4), some (.int 3), some (.int 1)]) dX12_twosOf_25 rfl (by decide) ⟨by decide, rfl, rfl⟩ ?_
      refine go_goto dX12_twosOf_28 ?_
      refine go_iload_n dX12_twosOf_16 rfl ?_
      refine go_iconst (v := 1) dX12_twosOf_17 rfl ?_
      refine go_icmp_le dX12_twosOf_18 (fun c18 => ?_) (fun c18 => ?_)
      · have c18n := (nI_leI (a := 1) (b := 1) (by omega) (by omega)).mp c18
        have c18n := Nat.not_lt.mpr c18n
        have c18 := Int32.not_lt.mpr c18
        refine go_iload_n dX12_twosOf_31 rfl ?_
        exact go_iret dX12_twosOf_32 rfl (Nat.le_of_ble_eq_true rfl) (Nat.le_of_ble_eq_true rfl) (hQ9 ▸ ⟨rfl, rfl, rfl⟩)
      · have c18n := mt (nI_leI (a := 1) (b := 1) (by omega) (by omega)).mpr c18
        have c18n := Nat.lt_of_not_le c18n
        have c18 := Int32.not_le.mp c18
        first | exact absurd c18n (by decide) | exact absurd (by decide) c18n | exact absurd rfl c18n | omega
set_option maxHeartbeats 4000000 in
set_option maxRecDepth 100000 in
theorem e_X12_twosOf_5  : Ev G mX12_twosOf 1 0 0 [.int 5] f n (RD (.int 15) f n) := by
  generalize hQ9 : (RD (.int 15) f n : RQ) = Q9
  refine ev_of (by decide) (Nat.le_of_ble_eq_true rfl) (ls := [some (.int 5), none, none]) rfl (fun hb => ?_)
  refine go_iconst (v := 1) dX12_twosOf_0 rfl ?_
  refine go_istore_n (ls' := [some (.int 5), some (.int 1), none]) dX12_twosOf_1 ⟨by decide, rfl, rfl⟩ ?_
  refine go_iload_n dX12_twosOf_2 rfl ?_
  refine go_iconst (v := 2) dX12_twosOf_3 rfl ?_
  refine go_irem dX12_twosOf_4 (by decide) ?_
  refine go_tp (z := 1) (by decide) ?_
  refine go_if_ne dX12_twosOf_5 (fun c5 => ?_) (fun c5 => ?_)
  · have c5n := mt (n0_eq (a := 1) (by omega)).mpr c5
    refine go_iload_n dX12_twosOf_14 rfl ?_
    refine go_istore_n (ls' := [some (.int 5), some (.int 1), some (.int 5)]) dX12_twosOf_15 ⟨by decide, rfl, rfl⟩ ?_
    refine go_iload_n dX12_twosOf_16 rfl ?_
    refine go_iconst (v := 1) dX12_twosOf_17 rfl ?_
    refine go_icmp_le dX12_twosOf_18 (fun c18 => ?_) (fun c18 => ?_)
    · have c18n := (nI_leI (a := 5) (b := 1) (by omega) (by omega)).mp c18
      have c18n := Nat.not_lt.mpr c18n
      have c18 := Int32.not_lt.mpr c18
      first | exact absurd c18n (by decide) | exact absurd (by decide) c18n | exact absurd rfl c18n | omega
    · have c18n := mt (nI_leI (a := 5) (b := 1) (by omega) (by omega)).mpr c18
      have c18n := Nat.lt_of_not_le c18n
      have c18 := Int32.not_le.mp c18
      refine go_iload_n dX12_twosOf_21 rfl ?_
      refine go_iload_n dX12_twosOf_22 rfl ?_
      refine go_imul dX12_twosOf_23 ?_
      refine go_tp (z := 5) (by decide) ?_
      refine go_istore_n (ls' := [some (.int 5), some (.int 5), some (.int 5)]) dX12_twosOf_24 ⟨by decide, rfl, rfl⟩ ?_
      refine go_iinc (v := 3) (ls' := [some (.int 5), some (.int 5), some (.int 3)]) dX12_twosOf_25 rfl (by decide) ⟨by decide, rfl, rfl⟩ ?_
      refine go_goto dX12_twosOf_28 ?_
      refine go_iload_n dX12_twosOf_16 rfl ?_
      refine go_iconst (v := 1) dX12_twosOf_17 rfl ?_
      refine go_icmp_le dX12_twosOf_18 (fun c18 => ?_) (fun c18 => ?_)
      · have c18n := (nI_leI (a := 3) (b := 1) (by omega) (by omega)).mp c18
        have c18n := Nat.not_lt.mpr c18n
        have c18 := Int32.not_lt.mpr c18
        first | exact absurd c18n (by decide) | exact absurd (by decide) c18n | exact absurd rfl c18n | omega
      · have c18n := mt (nI_leI (a := 3) (b := 1) (by omega) (by omega)).mpr c18
        have c18n := Nat.lt_of_not_le c18n
        have c18 := Int32.not_le.mp c18
        refine go_iload_n dX12_twosOf_21 rfl ?_
        refine go_iload_n dX12_twosOf_22 rfl ?_
        refine go_imul dX12_twosOf_23 ?_
        refine go_tp (z := 15) (by decide) ?_
        refine go_istore_n (ls' := [some (.int 5), some (.int 15), some (.int 3)]) dX12_twosOf_24 ⟨by decide, rfl, rfl⟩ ?_
        refine go_iinc (v := 1) (ls' := [some (.int 5), some (.int 15), some (.int 1)]) dX12_twosOf_25 rfl (by decide) ⟨by decide, rfl, rfl⟩ ?_
        refine go_goto dX12_twosOf_28 ?_
        refine go_iload_n dX12_twosOf_16 rfl ?_
        refine go_iconst (v := 1) dX12_twosOf_17 rfl ?_
        refine go_icmp_le dX12_twosOf_18 (fun c18 => ?_) (fun c18 => ?_)
        · have c18n := (nI_leI (a := 1) (b := 1) (by omega) (by omega)).mp c18
          have c18n := Nat.not_lt.mpr c18n
          have c18 := Int32.not_lt.mpr c18
          refine go_iload_n dX12_twosOf_31 rfl ?_
          exact go_iret dX12_twosOf_32 rfl (Nat.le_of_ble_eq_true rfl) (Nat.le_of_ble_eq_true rfl) (hQ9 ▸ ⟨rfl, rfl, rfl⟩)
        · have c18n := mt (nI_leI (a := 1) (b := 1) (by omega) (by omega)).mpr c18
          have c18n := Nat.lt_of_not_le c18n
          have c18 := Int32.not_le.mp c18
          first | exact absurd c18n (by decide) | exact absurd (by decide) c18n | exact absurd rfl c18n | omega
  · have c5n := (n0_eq (a := 1) (by omega)).mp c5
    first | exact absurd c5n (by decide) | exact absurd (by decide) c5n | exact absurd rfl c5n | omega
set_option maxHeartbeats 4000000 in
set_option maxRecDepth 100000 in
theorem e_X12_twosOf_6  : Ev G mX12_twosOf 1 0 0 [.int 6] f n (RD (.int 15) f n) := by
  generalize hQ9 : (RD (.int 15) f n : RQ) = Q9
  refine ev_of (by decide) (Nat.le_of_ble_eq_true rfl) (ls := [some (.int 6), none, none]) rfl (fun hb => ?_)
  refine go_iconst (v := 1) dX12_twosOf_0 rfl ?_
  refine go_istore_n (ls' := [some (.int 6), some (.int 1), none]) dX12_twosOf_1 ⟨by decide, rfl, rfl⟩ ?_
  refine go_iload_n dX12_twosOf_2 rfl ?_
  refine go_iconst (v := 2) dX12_twosOf_3 rfl ?_
  refine go_irem dX12_twosOf_4 (by decide) ?_
  refine go_tp (z := 0) (by decide) ?_
  refine go_if_ne dX12_twosOf_5 (fun c5 => ?_) (fun c5 => ?_)
  · have c5n := mt (n0_eq (a := 0) (by omega)).mpr c5
    first | exact absurd c5n (by decide) | exact absurd (by decide) c5n | exact absurd rfl c5n | omega
  · have c5n := (n0_eq (a := 0) (by omega)).mp c5
    refine go_iload_n dX12_twosOf_8 rfl ?_
    refine go_iconst (v := 1) dX12_twosOf_9 rfl ?_
    refine go_isub dX12_twosOf_10 ?_
    refine go_tp (z := 5) (by decide) ?_
    refine go_goto dX12_twosOf_11 ?_
    refine go_istore_n (ls' := [some (.int 6), some (.int 1), some (.int 5)]) dX12_twosOf_15 ⟨by decide, rfl, rfl⟩ ?_
    refine go_iload_n dX12_twosOf_16 rfl ?_
    refine go_iconst (v := 1) dX12_twosOf_17 rfl ?_
    refine go_icmp_le dX12_twosOf_18 (fun c18 => ?_) (fun c18 => ?_)
    · have c18n := (nI_leI (a := 5) (b := 1) (by omega) (by omega)).mp c18
      have c18n := Nat.not_lt.mpr c18n
      have c18 := Int32.not_lt.mpr c18
      first | exact absurd c18n (by decide) | exact absurd (by decide) c18n | exact absurd rfl c18n | omega
    · have c18n := mt (nI_leI (a := 5) (b := 1) (by omega) (by omega)).mpr c18
      have c18n := Nat.lt_of_not_le c18n
      have c18 := Int32.not_le.mp c18
      refine go_iload_n dX12_twosOf_21 rfl ?_
      refine go_iload_n dX12_twosOf_22 rfl ?_
      refine go_imul dX12_twosOf_23 ?_
      refine go_tp (z := 5) (by decide) ?_
      refine go_istore_n (ls' := [some (.int 6), some (.int 5), some (.int 5)]) dX12_twosOf_24 ⟨by decide, rfl, rfl⟩ ?_
      refine go_iinc (v := 3) (ls' := [some (.int 6), some (.int 5), some (.int 3)]) dX12_twosOf_25 rfl (by decide) ⟨by decide, rfl, rfl⟩ ?_
      refine go_goto dX12_twosOf_28 ?_
      refine go_iload_n dX12_twosOf_16 rfl ?_
      refine go_iconst (v := 1) dX12_twosOf_17 rfl ?_
      refine go_icmp_le dX12_twosOf_18 (fun c18 => ?_) (fun c18 => ?_)
      · have c18n := (nI_leI (a := 3) (b := 1) (by omega) (by omega)).mp c18
        have c18n := Nat.not_lt.mpr c18n
        have c18 := Int32.not_lt.mpr c18
        first | exact absurd c18n (by decide) | exact absurd (by decide) c18n | exact absurd rfl c18n | omega
      · have c18n := mt (nI_leI (a := 3) (b := 1) (by omega) (by omega)).mpr c18
        have c18n := Nat.lt_of_not_le c18n
        have c18 := Int32.not_le.mp c18
        refine go_iload_n dX12_twosOf_21 rfl ?_
        refine go_iload_n dX12_twosOf_22 rfl ?_
        refine go_imul dX12_twosOf_23 ?_
        refine go_tp (z := 15) (by decide) ?_
        refine go_istore_n (ls' := [some (.int 6), some (.int 15), some (.int 3)]) dX12_twosOf_24 ⟨by decide, rfl, rfl⟩ ?_
        refine go_iinc (v := 1) (ls' := [some (.int 6), some (.int 15), some (.int 1)]) dX12_twosOf_25 rfl (by decide) ⟨by decide, rfl, rfl⟩ ?_
        refine go_goto dX12_twosOf_28 ?_
        refine go_iload_n dX12_twosOf_16 rfl ?_
        refine go_iconst (v := 1) dX12_twosOf_17 rfl ?_
        refine go_icmp_le dX12_twosOf_18 (fun c18 => ?_) (fun c18 => ?_)
        · have c18n := (nI_leI (a := 1) (b := 1) (by omega) (by omega)).mp c18
          have c18n := Nat.not_lt.mpr c18n
          have c18 := Int32.not_lt.mpr c18
          refine go_iload_n dX12_twosOf_31 rfl ?_
          exact go_iret dX12_twosOf_32 rfl (Nat.le_of_ble_eq_true rfl) (Nat.le_of_ble_eq_true rfl) (hQ9 ▸ ⟨rfl, rfl, rfl⟩)
        · have c18n := mt (nI_leI (a := 1) (b := 1) (by omega) (by omega)).mpr c18
          have c18n := Nat.lt_of_not_le c18n
          have c18 := Int32.not_le.mp c18
          first | exact absurd c18n (by decide) | exact absurd (by decide) c18n | exact absurd rfl c18n | omega
set_option maxHeartbeats 4000000 in
set_option maxRecDepth 100000 in
theorem e_X12_twosOf_7  : Ev G mX12_twosOf 1 0 0 [.int 7] f n (RD (.int 105) f n) := by
  generalize hQ9 : (RD (.int 105) f n : RQ) = Q9
  refine ev_of (by decide) (Nat.le_of_ble_eq_true rfl) (ls := [some (.int 7), none, none]) rfl (fun hb => ?_)
  refine go_iconst (v := 1) dX12_twosOf_0 rfl ?_
  refine go_istore_n (ls' := [some (.int 7), some (.int 1), none]) dX12_twosOf_1 ⟨by decide, rfl, rfl⟩ ?_
  refine go_iload_n dX12_twosOf_2 rfl ?_
  refine go_iconst (v := 2) dX12_twosOf_3 rfl ?_
  refine go_irem dX12_twosOf_4 (by decide) ?_
  refine go_tp (z := 1) (by decide) ?_
  refine go_if_ne dX12_twosOf_5 (fun c5 => ?_) (fun c5 => ?_)
  · have c5n := mt (n0_eq (a := 1) (by omega)).mpr c5
    refine go_iload_n dX12_twosOf_14 rfl ?_
    refine go_istore_n (ls' := [some (.int 7), some (.int 1), some (.int 7)]) dX12_twosOf_15 ⟨by decide, rfl, rfl⟩ ?_
    refine go_iload_n dX12_twosOf_16 rfl ?_
    refine go_iconst (v := 1) dX12_twosOf_17 rfl ?_
    refine go_icmp_le dX12_twosOf_18 (fun c18 => ?_) (fun c18 => ?_)
    · have c18n := (nI_leI (a := 7) (b := 1) (by omega) (by omega)).mp c18
      have c18n := Nat.not_lt.mpr c18n
      have c18 := Int32.not_lt.mpr c18
      first | exact absurd c18n (by decide) | exact absurd (by decide) c18n | exact absurd rfl c18n | omega
    · have c18n := mt (nI_leI (a := 7) (b := 1) (by omega) (by omega)).mpr c18
      have c18n := Nat.lt_of_not_le c18n
      have c18 := Int32.not_le.mp c18
      refine go_iload_n dX12_twosOf_21 rfl ?_
      refine go_iload_n dX12_twosOf_22 rfl ?_
      refine go_imul dX12_twosOf_23 ?_
      refine go_tp (z := 7) (by decide) ?_
      refine go_istore_n (ls' := [some (.int 7), some (.int 7), some (.int 7)]) dX12_twosOf_24 ⟨by decide, rfl, rfl⟩ ?_
      refine go_iinc (v := 5) (ls' := [some (.int 7), some (.int 7), some (.int 5)]) dX12_twosOf_25 rfl (by decide) ⟨by decide, rfl, rfl⟩ ?_
      refine go_goto dX12_twosOf_28 ?_
      refine go_iload_n dX12_twosOf_16 rfl ?_
      refine go_iconst (v := 1) dX12_twosOf_17 rfl ?_
      refine go_icmp_le dX12_twosOf_18 (fun c18 => ?_) (fun c18 => ?_)
      · have c18n := (nI_leI (a := 5) (b := 1) (by omega) (by omega)).mp c18
        have c18n := Nat.not_lt.mpr c18n
        have c18 := Int32.not_lt.mpr c18
        first | exact absurd c18n (by decide) | exact absurd (by decide) c18n | exact absurd rfl c18n | omega
      · have c18n := mt (nI_leI (a := 5) (b := 1) (by omega) (by omega)).mpr c18
        have c18n := Nat.lt_of_not_le c18n
        have c18 := Int32.not_le.mp c18
        refine go_iload_n dX12_twosOf_21 rfl ?_
        refine go_iload_n dX12_twosOf_22 rfl ?_
        refine go_imul dX12_twosOf_23 ?_
        refine go_tp (z := 35) (by decide) ?_
        refine go_istore_n (ls' := [some (.int 7), some (.int 35), some (.int 5)]) dX12_twosOf_24 ⟨by decide, rfl, rfl⟩ ?_
        refine go_iinc (v := 3) (ls' := [some (.int 7), some (.int 35), some (.int 3)]) dX12_twosOf_25 rfl (by decide) ⟨by decide, rfl, rfl⟩ ?_
        refine go_goto dX12_twosOf_28 ?_
        refine go_iload_n dX12_twosOf_16 rfl ?_
        refine go_iconst (v := 1) dX12_twosOf_17 rfl ?_
        refine go_icmp_le dX12_twosOf_18 (fun c18 => ?_) (fun c18 => ?_)
        · have c18n := (nI_leI (a := 3) (b := 1) (by omega) (by omega)).mp c18
          have c18n := Nat.not_lt.mpr c18n
          have c18 := Int32.not_lt.mpr c18
          first | exact absurd c18n (by decide) | exact absurd (by decide) c18n | exact absurd rfl c18n | omega
        · have c18n := mt (nI_leI (a := 3) (b := 1) (by omega) (by omega)).mpr c18
          have c18n := Nat.lt_of_not_le c18n
          have c18 := Int32.not_le.mp c18
          refine go_iload_n dX12_twosOf_21 rfl ?_
          refine go_iload_n dX12_twosOf_22 rfl ?_
          refine go_imul dX12_twosOf_23 ?_
          refine go_tp (z := 105) (by decide) ?_
          refine go_istore_n (ls' := [some (.int 7), some (.int 105), some (.int 3)]) dX12_twosOf_24 ⟨by decide, rfl, rfl⟩ ?_
          refine go_iinc (v := 1) (ls' := [some (.int 7), some (.int 105), some (.int 1)]) dX12_twosOf_25 rfl (by decide) ⟨by decide, rfl, rfl⟩ ?_
          refine go_goto dX12_twosOf_28 ?_
          refine go_iload_n dX12_twosOf_16 rfl ?_
          refine go_iconst (v := 1) dX12_twosOf_17 rfl ?_
          refine go_icmp_le dX12_twosOf_18 (fun c18 => ?_) (fun c18 => ?_)
          · have c18n := (nI_leI (a := 1) (b := 1) (by omega) (by omega)).mp c18
            have c18n := Nat.not_lt.mpr c18n
            have c18 := Int32.not_lt.mpr c18
            refine go_iload_n dX12_twosOf_31 rfl ?_
            exact go_iret dX12_twosOf_32 rfl (Nat.le_of_ble_eq_true rfl) (Nat.le_of_ble_eq_true rfl) (hQ9 ▸ ⟨rfl, rfl, rfl⟩)
          · have c18n := mt (nI_leI (a := 1) (b := 1) (by omega) (by omega)).mpr c18
            have c18n := Nat.lt_of_not_le c18n
            have c18 := Int32.not_le.mp c18
            first | exact absurd c18n (by decide) | exact absurd (by decide) c18n | exact absurd rfl c18n | omega
  · have c5n := (n0_eq (a := 1) (by omega)).mp c5
    first | exact absurd c5n (by decide) | exact absurd (by decide) c5n | exact absurd rfl c5n | omega
set_option maxHeartbeats 4000000 in
set_option maxRecDepth 100000 in
theorem e_X12_twosOf_8  : Ev G mX12_twosOf 1 0 0 [.int 8] f n (RD (.int 105) f n) := by
  generalize hQ9 : (RD (.int 105) f n : RQ) = Q9
  refine ev_of (by decide) (Nat.le_of_ble_eq_true rfl) (ls := [some (.int 8), none, none]) rfl (fun hb => ?_)
  refine go_iconst (v := 1) dX12_twosOf_0 rfl ?_
  refine go_istore_n (ls' := [some (.int 8), some (.int 1), none]) dX12_twosOf_1 ⟨by decide, rfl, rfl⟩ ?_
  refine go_iload_n dX12_twosOf_2 rfl ?_
  refine go_iconst (v := 2) dX12_twosOf_3 rfl ?_
  refine go_irem dX12_twosOf_4 (by decide) ?_
  refine go_tp (z := 0) (by decide) ?_
  refine go_if_ne dX12_twosOf_5 (fun c5 => ?_) (fun c5 => ?_)
  · have c5n := mt (n0_eq (a := 0) (by omega)).mpr c5
    first | exact absurd c5n (by decide) | exact absurd (by decide) c5n | exact absurd rfl c5n | omega
  · have c5n := (n0_eq (a := 0) (by omega)).mp c5
    refine go_iload_n dX12_twosOf_8 rfl ?_
    refine go_iconst (v := 1) dX12_twosOf_9 rfl ?_
    refine go_isub dX12_twosOf_10 ?_
    refine go_tp (z := 7) (by decide) ?_
    refine go_goto dX12_twosOf_11 ?_
    refine go_istore_n (ls' := [some (.int 8), some (.int 1), some (.int 7)]) dX12_twosOf_15 ⟨by decide, rfl, rfl⟩ ?_
    refine go_iload_n dX12_twosOf_16 rfl ?_
    refine go_iconst (v := 1) dX12_twosOf_17 rfl ?_
    refine go_icmp_le dX12_twosOf_18 (fun c18 => ?_) (fun c18 => ?_)
    · have c18n := (nI_leI (a := 7) (b := 1) (by omega) (by omega)).mp c18
      have c18n := Nat.not_lt.mpr c18n
      have c18 := Int32.not_lt.mpr c18
      first | exact absurd c18n (by decide) | exact absurd (by decide) c18n | exact absurd rfl c18n | omega
    · have c18n := mt (nI_leI (a := 7) (b := 1) (by omega) (by omega)).mpr c18
      have c18n := Nat.lt_of_not_le c18n
      have c18 := Int32.not_le.mp c18
      refine go_iload_n dX12_twosOf_21 rfl ?_
      refine go_iload_n dX12_twosOf_22 rfl ?_
      refine go_imul dX12_twosOf_23 ?_
      refine go_tp (z := 7) (by decide) ?_
      refine go_istore_n (ls' := [some (.int 8), some (.int 7), some (.int 7)]) dX12_twosOf_24 ⟨by decide, rfl, rfl⟩ ?_
      refine go_iinc (v := 5) (ls' := [some (.int 8), some (.int 7), some (.int 5)]) dX12_twosOf_25 rfl (by decide) ⟨by decide, rfl, rfl⟩ ?_
      refine go_goto dX12_twosOf_28 ?_
      refine go_iload_n dX12_twosOf_16 rfl ?_
      refine go_iconst (v := 1) dX12_twosOf_17 rfl ?_
      refine go_icmp_le dX12_twosOf_18 (fun c18 => ?_) (fun c18 => ?_)
      · have c18n := (nI_leI (a := 5) (b := 1) (by omega) (by omega)).mp c18
        have c18n := Nat.not_lt.mpr c18n
        have c18 := Int32.not_lt.mpr c18
        first | exact absurd c18n (by decide) | exact absurd (by decide) c18n | exact absurd rfl c18n | omega
      · have c18n := mt (nI_leI (a := 5) (b := 1) (by omega) (by omega)).mpr c18
        have c18n := Nat.lt_of_not_le c18n
        have c18 := Int32.not_le.mp c18
        refine go_iload_n dX12_twosOf_21 rfl ?_
        refine go_iload_n dX12_twosOf_22 rfl ?_
        refine go_imul dX12_twosOf_23 ?_
        refine go_tp (z := 35) (by decide) ?_
        refine go_istore_n (ls' := [some (.int 8), some (.int 35), some (.int 5)]) dX12_twosOf_24 ⟨by decide, rfl, rfl⟩ ?_
        refine go_iinc (v := 3) (ls' := [some (.int 8), some (.int 35), some (.int 3)]) dX12_twosOf_25 rfl (by decide) ⟨by decide, rfl, rfl⟩ ?_
        refine go_goto dX12_twosOf_28 ?_
        refine go_iload_n dX12_twosOf_16 rfl ?_
        refine go_iconst (v := 1) dX12_twosOf_17 rfl ?_
        refine go_icmp_le dX12_twosOf_18 (fun c18 => ?_) (fun c18 => ?_)
        · have c18n := (nI_leI (a := 3) (b := 1) (by omega) (by omega)).mp c18
          have c18n := Nat.not_lt.mpr c18n
          have c18 := Int32.not_lt.mpr c18
          first | exact absurd c18n (by decide) | exact absurd (by decide) c18n | exact absurd rfl c18n | omega
        · have c18n := mt (nI_leI (a := 3) (b := 1) (by omega) (by omega)).mpr c18
          have c18n := Nat.lt_of_not_le c18n
          have c18 := Int32.not_le.mp c18
          refine go_iload_n dX12_twosOf_21 rfl ?_
          refine go_iload_n dX12_twosOf_22 rfl ?_
          refine go_imul dX12_twosOf_23 ?_
          refine go_tp (z := 105) (by decide) ?_
          refine go_istore_n (ls' := [some (.int 8), some (.int 105), some (.int 3)]) dX12_twosOf_24 ⟨by decide, rfl, rfl⟩ ?_
          refine go_iinc (v := 1) (ls' := [some (.int 8), some (.int 105), some (.int 1)]) dX12_twosOf_25 rfl (by decide) ⟨by decide, rfl, rfl⟩ ?_
          refine go_goto dX12_twosOf_28 ?_
          refine go_iload_n dX12_twosOf_16 rfl ?_
          refine go_iconst (v := 1) dX12_twosOf_17 rfl ?_
          refine go_icmp_le dX12_twosOf_18 (fun c18 => ?_) (fun c18 => ?_)
          · have c18n := (nI_leI (a := 1) (b := 1) (by omega) (by omega)).mp c18
            have c18n := Nat.not_lt.mpr c18n
            have c18 := Int32.not_lt.mpr c18
            refine go_iload_n dX12_twosOf_31 rfl ?_
            exact go_iret dX12_twosOf_32 rfl (Nat.le_of_ble_eq_true rfl) (Nat.le_of_ble_eq_true rfl) (hQ9 ▸ ⟨rfl, rfl, rfl⟩)
          · have c18n := mt (nI_leI (a := 1) (b := 1) (by omega) (by omega)).mpr c18
            have c18n := Nat.lt_of_not_le c18n
            have c18 := Int32.not_le.mp c18
            first | exact absurd c18n (by decide) | exact absurd (by decide) c18n | exact absurd rfl c18n | omega
theorem e_X12_twosOf {k : Nat} (hk : k ≤ 8) : Ev G mX12_twosOf 1 0 0 [.int (nI k)] f n (RD (.int (nI (twS k))) f n) := by
  match k, hk with
  | 0, _ => exact e_X12_twosOf_0
  | 1, _ => exact e_X12_twosOf_1
  | 2, _ => exact e_X12_twosOf_2
  | 3, _ => exact e_X12_twosOf_3
  | 4, _ => exact e_X12_twosOf_4
  | 5, _ => exact e_X12_twosOf_5
  | 6, _ => exact e_X12_twosOf_6
  | 7, _ => exact e_X12_twosOf_7
  | 8, _ => exact e_X12_twosOf_8
  | k + 9, h => exact absurd h (by omega)
end M9
