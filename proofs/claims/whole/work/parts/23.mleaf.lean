section M1
variable {G : GX} {m0 f : Mem} {q n N M : Nat} {F : Nat → Int32} {A : Nat → Nat → Int32} {L : Nat → Nat → Int64} {K : Option Nat}
set_option maxHeartbeats 4000000 in
set_option maxRecDepth 100000 in
theorem e_X12_lies {v lo hi : Int64} : Ev G mX12_lies 1 0 0 [.long v, .long lo, .long hi] f n (RD (.int (if liS v lo hi then 1 else 0)) f n) := by
  generalize hQ9 : (RD (.int (if liS v lo hi then 1 else 0)) f n : RQ) = Q9
  refine ev_of (by decide) (Nat.le_of_ble_eq_true rfl) (ls := [some (.long v), none, some (.long lo), none, some (.long hi), none]) rfl (fun hb => ?_)
  refine go_lload_n dX12_lies_0 rfl ?_
  refine go_lload_n dX12_lies_1 rfl ?_
  refine go_lcmp dX12_lies_2 ?_
  refine go_if_lt dX12_lies_3 (fun c3 => ?_) (fun c3 => ?_)
  · have c3 := (lc_lt _ _).mp c3
    refine go_iconst (v := 0) dX12_lies_17 rfl ?_
    exact go_zret dX12_lies_18 rfl (Nat.le_of_ble_eq_true rfl) (Nat.le_of_ble_eq_true rfl) (rfl) ((hQ9 ▸ ⟨rd_i (a := 0) (by simp [liS, c3]), rfl, rfl⟩))
  · have c3 := mt (lc_lt _ _).mpr c3
    refine go_lload_n dX12_lies_6 rfl ?_
    refine go_lload dX12_lies_7 rfl ?_
    refine go_lcmp dX12_lies_9 ?_
    refine go_if_gt dX12_lies_10 (fun c10 => ?_) (fun c10 => ?_)
    · have c10 := (lc_gt _ _).mp c10
      refine go_iconst (v := 0) dX12_lies_17 rfl ?_
      exact go_zret dX12_lies_18 rfl (Nat.le_of_ble_eq_true rfl) (Nat.le_of_ble_eq_true rfl) (rfl) ((hQ9 ▸ ⟨rd_i (a := 0) (by simp [liS, c3, c10]), rfl, rfl⟩))
    · have c10 := mt (lc_gt _ _).mpr c10
      refine go_iconst (v := 1) dX12_lies_13 rfl ?_
      refine go_goto dX12_lies_14 ?_
      exact go_zret dX12_lies_18 rfl (Nat.le_of_ble_eq_true rfl) (Nat.le_of_ble_eq_true rfl) (rfl) ((hQ9 ▸ ⟨rd_i (a := 1) (by simp [liS, c3, c10]), rfl, rfl⟩))
set_option maxHeartbeats 4000000 in
set_option maxRecDepth 100000 in
theorem e_X12_hasBit {b k : Int32} : Ev G mX12_hasBit 1 0 0 [.int b, .int k] f n (RD (.int (if bitS b k then 1 else 0)) f n) := by
  generalize hQ9 : (RD (.int (if bitS b k then 1 else 0)) f n : RQ) = Q9
  refine ev_of (by decide) (Nat.le_of_ble_eq_true rfl) (ls := [some (.int b), some (.int k)]) rfl (fun hb => ?_)
  refine go_iload_n dX12_hasBit_0 rfl ?_
  refine go_iload_n dX12_hasBit_1 rfl ?_
  refine go_ishr dX12_hasBit_2 ?_
  refine go_iconst (v := 1) dX12_hasBit_3 rfl ?_
  refine go_iand dX12_hasBit_4 ?_
  refine go_iconst (v := 1) dX12_hasBit_5 rfl ?_
  refine go_icmp_ne dX12_hasBit_6 (fun c6 => ?_) (fun c6 => ?_)
  · refine go_iconst (v := 0) dX12_hasBit_13 rfl ?_
    exact go_zret dX12_hasBit_14 rfl (Nat.le_of_ble_eq_true rfl) (Nat.le_of_ble_eq_true rfl) (rfl) ((hQ9 ▸ ⟨rd_i (a := 0) (by simp [bitS, c6]), rfl, rfl⟩))
  · refine go_iconst (v := 1) dX12_hasBit_9 rfl ?_
    refine go_goto dX12_hasBit_10 ?_
    exact go_zret dX12_hasBit_14 rfl (Nat.le_of_ble_eq_true rfl) (Nat.le_of_ble_eq_true rfl) (rfl) ((hQ9 ▸ ⟨rd_i (a := 1) (by simp [bitS, c6]), rfl, rfl⟩))
set_option maxHeartbeats 4000000 in
set_option maxRecDepth 100000 in
theorem e_X12_greater {a b : Int32} : Ev G mX12_greater 1 0 0 [.int a, .int b] f n (RD (.int (grS a b)) f n) := by
  generalize hQ9 : (RD (.int (grS a b)) f n : RQ) = Q9
  refine ev_of (by decide) (Nat.le_of_ble_eq_true rfl) (ls := [some (.int a), some (.int b)]) rfl (fun hb => ?_)
  refine go_iload_n dX12_greater_0 rfl ?_
  refine go_iload_n dX12_greater_1 rfl ?_
  refine go_icmp_le dX12_greater_2 (fun c2 => ?_) (fun c2 => ?_)
  · have c2 := Int32.not_lt.mpr c2
    refine go_iload_n dX12_greater_9 rfl ?_
    exact go_iret dX12_greater_10 rfl (Nat.le_of_ble_eq_true rfl) (Nat.le_of_ble_eq_true rfl) ((hQ9 ▸ ⟨rd_i (a := b) (by simp [grS, c2]), rfl, rfl⟩))
  · have c2 := Int32.not_le.mp c2
    refine go_iload_n dX12_greater_5 rfl ?_
    refine go_goto dX12_greater_6 ?_
    exact go_iret dX12_greater_10 rfl (Nat.le_of_ble_eq_true rfl) (Nat.le_of_ble_eq_true rfl) ((hQ9 ▸ ⟨rd_i (a := a) (by simp [grS, c2]), rfl, rfl⟩))
set_option maxHeartbeats 4000000 in
set_option maxRecDepth 100000 in
theorem e_X12_apart {a b : Int32} : Ev G mX12_apart 1 0 0 [.int a, .int b] f n (RD (.int (apS a b)) f n) := by
  generalize hQ9 : (RD (.int (apS a b)) f n : RQ) = Q9
  refine ev_of (by decide) (Nat.le_of_ble_eq_true rfl) (ls := [some (.int a), some (.int b)]) rfl (fun hb => ?_)
  refine go_iload_n dX12_apart_0 rfl ?_
  refine go_iload_n dX12_apart_1 rfl ?_
  refine go_icmp_le dX12_apart_2 (fun c2 => ?_) (fun c2 => ?_)
  · have c2 := Int32.not_lt.mpr c2
    refine go_iload_n dX12_apart_11 rfl ?_
    refine go_iload_n dX12_apart_12 rfl ?_
    refine go_isub dX12_apart_13 ?_
    exact go_iret dX12_apart_14 rfl (Nat.le_of_ble_eq_true rfl) (Nat.le_of_ble_eq_true rfl) ((hQ9 ▸ ⟨rd_i (a := b - a) (by simp [apS, c2]), rfl, rfl⟩))
  · have c2 := Int32.not_le.mp c2
    refine go_iload_n dX12_apart_5 rfl ?_
    refine go_iload_n dX12_apart_6 rfl ?_
    refine go_isub dX12_apart_7 ?_
    refine go_goto dX12_apart_8 ?_
    exact go_iret dX12_apart_14 rfl (Nat.le_of_ble_eq_true rfl) (Nat.le_of_ble_eq_true rfl) ((hQ9 ▸ ⟨rd_i (a := a - b) (by simp [apS, c2]), rfl, rfl⟩))
set_option maxHeartbeats 4000000 in
set_option maxRecDepth 100000 in
theorem e_X12_isPupil (hq : G.2.1 ≤ q) (hn : q + 25 ≤ n) (hN : F 0 = nI N) (hN8 : N ≤ 8) {p : Int32} : Ev G mX12_isPupil 2 0 0 [.ref q, .int p] (mo G m0 q F A L K) n (RD (.int (if okp N p then 1 else 0)) (mo G m0 q F A L K) n) := by
  generalize hQ9 : (RD (.int (if okp N p then 1 else 0)) (mo G m0 q F A L K) n : RQ) = Q9
  refine ev_of (by decide) (Nat.le_of_ble_eq_true rfl) (ls := [some (.ref q), some (.int p)]) rfl (fun hb => ?_)
  refine go_iload_n dX12_isPupil_0 rfl ?_
  refine go_i2l dX12_isPupil_1 ?_
  refine go_lconst (v := 0) dX12_isPupil_2 rfl ?_
  refine go_aload_n dX12_isPupil_3 rfl ?_
  refine go_get dX12_isPupil_4 fl_X12_87_12 mo_obj hq (by omega) rfl ?_
  refine go_tp (z := nI N) (hN) ?_
  refine go_iconst (v := 1) dX12_isPupil_7 rfl ?_
  refine go_isub dX12_isPupil_8 ?_
  refine go_i2l dX12_isPupil_9 ?_
  refine go_Sr [.long (p).toInt64, .long 0, .long (((nI N) - 1).toInt64)] [] dX12_isPupil_10 sl_X12_90 ⟨by decide, by decide⟩ (e_X12_lies) rfl rfl (Nat.le_of_ble_eq_true rfl) (Nat.le_of_ble_eq_true rfl) (Nat.le_of_ble_eq_true rfl) ?_
  refine go_tp (z := if okp N p then 1 else 0) (ite_c (li_okp (by omega))) ?_
  exact go_zret dX12_isPupil_13 rfl (Nat.le_of_ble_eq_true rfl) (Nat.le_of_ble_eq_true rfl) (bz_n _) ((hQ9 ▸ ⟨rfl, rfl, rfl⟩))
set_option maxHeartbeats 4000000 in
set_option maxRecDepth 100000 in
theorem e_X12_isLocker (hq : G.2.1 ≤ q) (hn : q + 25 ≤ n) (hM : F 5 = nI M) (hM5 : M ≤ 5) {p : Int32} : Ev G mX12_isLocker 2 0 0 [.ref q, .int p] (mo G m0 q F A L K) n (RD (.int (if okp M p then 1 else 0)) (mo G m0 q F A L K) n) := by
  generalize hQ9 : (RD (.int (if okp M p then 1 else 0)) (mo G m0 q F A L K) n : RQ) = Q9
  refine ev_of (by decide) (Nat.le_of_ble_eq_true rfl) (ls := [some (.ref q), some (.int p)]) rfl (fun hb => ?_)
  refine go_iload_n dX12_isLocker_0 rfl ?_
  refine go_i2l dX12_isLocker_1 ?_
  refine go_lconst (v := 0) dX12_isLocker_2 rfl ?_
  refine go_aload_n dX12_isLocker_3 rfl ?_
  refine go_get dX12_isLocker_4 fl_X12_94_12 mo_obj hq (by omega) rfl ?_
  refine go_tp (z := nI M) (hM) ?_
  refine go_iconst (v := 1) dX12_isLocker_7 rfl ?_
  refine go_isub dX12_isLocker_8 ?_
  refine go_i2l dX12_isLocker_9 ?_
  refine go_Sr [.long (p).toInt64, .long 0, .long (((nI M) - 1).toInt64)] [] dX12_isLocker_10 sl_X12_90 ⟨by decide, by decide⟩ (e_X12_lies) rfl rfl (Nat.le_of_ble_eq_true rfl) (Nat.le_of_ble_eq_true rfl) (Nat.le_of_ble_eq_true rfl) ?_
  refine go_tp (z := if okp M p then 1 else 0) (ite_c (li_okp (by omega))) ?_
  exact go_zret dX12_isLocker_13 rfl (Nat.le_of_ble_eq_true rfl) (Nat.le_of_ble_eq_true rfl) (bz_n _) ((hQ9 ▸ ⟨rfl, rfl, rfl⟩))
set_option maxHeartbeats 4000000 in
set_option maxRecDepth 100000 in
theorem e_X12_dampOf (hq : G.2.1 ≤ q) (hn : q + 25 ≤ n) {p : Nat} (hp : p < 8) : Ev G mX12_dampOf 1 0 0 [.ref q, .int (nI p)] (mo G m0 q F A L K) n (RD (.int (dampS (A 1 p))) (mo G m0 q F A L K) n) := by
  generalize hQ9 : (RD (.int (dampS (A 1 p))) (mo G m0 q F A L K) n : RQ) = Q9
  refine ev_of (by decide) (Nat.le_of_ble_eq_true rfl) (ls := [some (.ref q), some (.int (nI p))]) rfl (fun hb => ?_)
  refine go_aload_n dX12_dampOf_0 rfl ?_
  refine go_get dX12_dampOf_1 fl_X12_7_12 mo_obj hq (by omega) rfl ?_
  refine go_iload_n dX12_dampOf_4 rfl ?_
  refine go_iald dX12_dampOf_5 (mo_arr 1 (by decide)) (by omega) (by omega) (vp_in_nI (n := p) (by show p < 8; omega) (by decide)) ?_
  refine go_tp (z := A 1 p) (by rw [nI_clamp (by omega)]) ?_
  refine go_iconst (v := 1) dX12_dampOf_6 rfl ?_
  refine go_icmp_ne dX12_dampOf_7 (fun c7 => ?_) (fun c7 => ?_)
  · refine go_aload_n dX12_dampOf_14 rfl ?_
    refine go_get dX12_dampOf_15 fl_X12_7_12 mo_obj hq (by omega) rfl ?_
    refine go_iload_n dX12_dampOf_18 rfl ?_
    refine go_iald dX12_dampOf_19 (mo_arr 1 (by decide)) (by omega) (by omega) (vp_in_nI (n := p) (by show p < 8; omega) (by decide)) ?_
    refine go_tp (z := A 1 p) (by rw [nI_clamp (by omega)]) ?_
    refine go_iconst (v := 5) dX12_dampOf_20 rfl ?_
    refine go_icmp_ne dX12_dampOf_21 (fun c21 => ?_) (fun c21 => ?_)
    · refine go_iconst (v := 0) dX12_dampOf_29 rfl ?_
      exact go_iret dX12_dampOf_30 rfl (Nat.le_of_ble_eq_true rfl) (Nat.le_of_ble_eq_true rfl) ((hQ9 ▸ ⟨rd_i (a := 0) (by simp [dampS, c7, c21]), rfl, rfl⟩))
    · refine go_bipush (v := 6) dX12_dampOf_24 rfl ?_
      refine go_goto dX12_dampOf_26 ?_
      exact go_iret dX12_dampOf_30 rfl (Nat.le_of_ble_eq_true rfl) (Nat.le_of_ble_eq_true rfl) ((hQ9 ▸ ⟨rd_i (a := 6) (by simp [dampS, c7, c21]), rfl, rfl⟩))
  · refine go_iconst (v := 3) dX12_dampOf_10 rfl ?_
    refine go_goto dX12_dampOf_11 ?_
    exact go_iret dX12_dampOf_30 rfl (Nat.le_of_ble_eq_true rfl) (Nat.le_of_ble_eq_true rfl) ((hQ9 ▸ ⟨rd_i (a := 3) (by simp [dampS, c7]), rfl, rfl⟩))
set_option maxHeartbeats 4000000 in
set_option maxRecDepth 100000 in
theorem e_X12_roomOf (hq : G.2.1 ≤ q) (hn : q + 25 ≤ n) {p : Nat} (hp : p < 8) : Ev G mX12_roomOf 1 0 0 [.ref q, .int (nI p)] (mo G m0 q F A L K) n (RD (.int (roomS (A 1 p))) (mo G m0 q F A L K) n) := by
  generalize hQ9 : (RD (.int (roomS (A 1 p))) (mo G m0 q F A L K) n : RQ) = Q9
  refine ev_of (by decide) (Nat.le_of_ble_eq_true rfl) (ls := [some (.ref q), some (.int (nI p))]) rfl (fun hb => ?_)
  refine go_aload_n dX12_roomOf_0 rfl ?_
  refine go_get dX12_roomOf_1 fl_X12_7_12 mo_obj hq (by omega) rfl ?_
  refine go_iload_n dX12_roomOf_4 rfl ?_
  refine go_iald dX12_roomOf_5 (mo_arr 1 (by decide)) (by omega) (by omega) (vp_in_nI (n := p) (by show p < 8; omega) (by decide)) ?_
  refine go_tp (z := A 1 p) (by rw [nI_clamp (by omega)]) ?_
  by_cases e6_1 : (A 1 p : Int32) = 1
  · refine go_tp e6_1 ?_
    refine go_tableIn (off := 42) (tgt := 48) dX12_roomOf_6 (by decide) (by decide) (by decide) (by decide) ?_
    refine go_bipush (v := 6) dX12_roomOf_48 rfl ?_
    exact go_iret dX12_roomOf_50 rfl (Nat.le_of_ble_eq_true rfl) (Nat.le_of_ble_eq_true rfl) ((hQ9 ▸ ⟨rd_i (a := 6) (by simp [roomS, e6_1]), rfl, rfl⟩))
  · by_cases e6_2 : (A 1 p : Int32) = 2
    · refine go_tp e6_2 ?_
      refine go_tableIn (off := 45) (tgt := 51) dX12_roomOf_6 (by decide) (by decide) (by decide) (by decide) ?_
      refine go_iconst (v := 3) dX12_roomOf_51 rfl ?_
      exact go_iret dX12_roomOf_52 rfl (Nat.le_of_ble_eq_true rfl) (Nat.le_of_ble_eq_true rfl) ((hQ9 ▸ ⟨rd_i (a := 3) (by simp [roomS, e6_1, e6_2]), rfl, rfl⟩))
    · by_cases e6_3 : (A 1 p : Int32) = 3
      · refine go_tp e6_3 ?_
        refine go_tableIn (off := 47) (tgt := 53) dX12_roomOf_6 (by decide) (by decide) (by decide) (by decide) ?_
        refine go_iconst (v := 5) dX12_roomOf_53 rfl ?_
        exact go_iret dX12_roomOf_54 rfl (Nat.le_of_ble_eq_true rfl) (Nat.le_of_ble_eq_true rfl) ((hQ9 ▸ ⟨rd_i (a := 5) (by simp [roomS, e6_1, e6_2, e6_3]), rfl, rfl⟩))
      · by_cases e6_4 : (A 1 p : Int32) = 4
        · refine go_tp e6_4 ?_
          refine go_tableIn (off := 45) (tgt := 51) dX12_roomOf_6 (by decide) (by decide) (by decide) (by decide) ?_
          refine go_iconst (v := 3) dX12_roomOf_51 rfl ?_
          exact go_iret dX12_roomOf_52 rfl (Nat.le_of_ble_eq_true rfl) (Nat.le_of_ble_eq_true rfl) ((hQ9 ▸ ⟨rd_i (a := 3) (by simp [roomS, e6_1, e6_2, e6_3, e6_4]), rfl, rfl⟩))
        · by_cases e6_5 : (A 1 p : Int32) = 5
          · refine go_tp e6_5 ?_
            refine go_tableIn (off := 42) (tgt := 48) dX12_roomOf_6 (by decide) (by decide) (by decide) (by decide) ?_
            refine go_bipush (v := 6) dX12_roomOf_48 rfl ?_
            exact go_iret dX12_roomOf_50 rfl (Nat.le_of_ble_eq_true rfl) (Nat.le_of_ble_eq_true rfl) ((hQ9 ▸ ⟨rd_i (a := 6) (by simp [roomS, e6_1, e6_2, e6_3, e6_4, e6_5]), rfl, rfl⟩))
          · by_cases e6_6 : (A 1 p : Int32) = 6
            · refine go_tp e6_6 ?_
              refine go_tableIn (off := 45) (tgt := 51) dX12_roomOf_6 (by decide) (by decide) (by decide) (by decide) ?_
              refine go_iconst (v := 3) dX12_roomOf_51 rfl ?_
              exact go_iret dX12_roomOf_52 rfl (Nat.le_of_ble_eq_true rfl) (Nat.le_of_ble_eq_true rfl) ((hQ9 ▸ ⟨rd_i (a := 3) (by simp [roomS, e6_1, e6_2, e6_3, e6_4, e6_5, e6_6]), rfl, rfl⟩))
            · by_cases e6_7 : (A 1 p : Int32) = 7
              · refine go_tp e6_7 ?_
                refine go_tableIn (off := 49) (tgt := 55) dX12_roomOf_6 (by decide) (by decide) (by decide) (by decide) ?_
                refine go_bipush (v := 10) dX12_roomOf_55 rfl ?_
                exact go_iret dX12_roomOf_57 rfl (Nat.le_of_ble_eq_true rfl) (Nat.le_of_ble_eq_true rfl) ((hQ9 ▸ ⟨rd_i (a := 10) (by simp [roomS, e6_1, e6_2, e6_3, e6_4, e6_5, e6_6, e6_7]), rfl, rfl⟩))
              · refine go_tableOut dX12_roomOf_6 (tgt := 58) (by have := i32_ne (v := 1) (k := 1) rfl e6_1; have := i32_ne (v := 2) (k := 2) rfl e6_2; have := i32_ne (v := 3) (k := 3) rfl e6_3; have := i32_ne (v := 4) (k := 4) rfl e6_4; have := i32_ne (v := 5) (k := 5) rfl e6_5; have := i32_ne (v := 6) (k := 6) rfl e6_6; have := i32_ne (v := 7) (k := 7) rfl e6_7; omega) (by decide) ?_
                refine go_iconst (v := 4) dX12_roomOf_58 rfl ?_
                exact go_iret dX12_roomOf_59 rfl (Nat.le_of_ble_eq_true rfl) (Nat.le_of_ble_eq_true rfl) ((hQ9 ▸ ⟨rd_i (a := 4) (by simp [roomS, e6_1, e6_2, e6_3, e6_4, e6_5, e6_6, e6_7]), rfl, rfl⟩))
set_option maxHeartbeats 4000000 in
set_option maxRecDepth 100000 in
theorem e_X12_bearsOf (hq : G.2.1 ≤ q) (hn : q + 25 ≤ n) {a b : Nat} (ha : a < 8) (hb8 : b < 8) : Ev G mX12_bearsOf 2 0 0 [.ref q, .int (nI a), .int (nI b)] (mo G m0 q F A L K) n (RD (.int (bearS (A 1 a) (A 2 a) (A 1 b) (A 2 b))) (mo G m0 q F A L K) n) := by
  generalize hQ9 : (RD (.int (bearS (A 1 a) (A 2 a) (A 1 b) (A 2 b))) (mo G m0 q F A L K) n : RQ) = Q9
  refine ev_of (by decide) (Nat.le_of_ble_eq_true rfl) (ls := [some (.ref q), some (.int (nI a)), some (.int (nI b)), none, none, none]) rfl (fun hb => ?_)
  refine go_aload_n dX12_bearsOf_0 rfl ?_
  refine go_iload_n dX12_bearsOf_1 rfl ?_
  refine go_Vr [.int (nI b)] [] dX12_bearsOf_2 vl_X12_97 ⟨by decide, by decide⟩ (e_X12_dampOf (F := F) (A := A) (L := L) (K := K) hq hn (by omega)) mo_obj hq (by omega) rfl rfl (Nat.le_of_ble_eq_true rfl) (Nat.le_of_ble_eq_true rfl) (Nat.le_of_ble_eq_true rfl) ?_
  refine go_istore_n (ls' := [some (.ref q), some (.int (nI a)), some (.int (nI b)), some (.int (dampS (A 1 b))), none, none]) dX12_bearsOf_5 ⟨by decide, rfl, rfl⟩ ?_
  refine go_iconst (v := 0) dX12_bearsOf_6 rfl ?_
  refine go_bipush (v := 12) dX12_bearsOf_7 rfl ?_
  refine go_aload_n dX12_bearsOf_9 rfl ?_
  refine go_get dX12_bearsOf_10 fl_X12_13_12 mo_obj hq (by omega) rfl ?_
  refine go_iload_n dX12_bearsOf_13 rfl ?_
  refine go_iald dX12_bearsOf_14 (mo_arr 2 (by decide)) (by omega) (by omega) (vp_in_nI (n := a) (by show a < 8; omega) (by decide)) ?_
  refine go_tp (z := A 2 a) (by rw [nI_clamp (by omega)]) ?_
  refine go_aload_n dX12_bearsOf_15 rfl ?_
  refine go_get dX12_bearsOf_16 fl_X12_13_12 mo_obj hq (by omega) rfl ?_
  refine go_iload_n dX12_bearsOf_19 rfl ?_
  refine go_iald dX12_bearsOf_20 (mo_arr 2 (by decide)) (by omega) (by omega) (vp_in_nI (n := b) (by show b < 8; omega) (by decide)) ?_
  refine go_tp (z := A 2 b) (by rw [nI_clamp (by omega)]) ?_
  refine go_Sr [.int (A 2 a), .int (A 2 b)] [.int 12, .int 0] dX12_bearsOf_21 sl_X12_101 ⟨by decide, by decide⟩ (e_X12_apart) rfl rfl (Nat.le_of_ble_eq_true rfl) (Nat.le_of_ble_eq_true rfl) (Nat.le_of_ble_eq_true rfl) ?_
  refine go_isub dX12_bearsOf_24 ?_
  refine go_iload_n dX12_bearsOf_25 rfl ?_
  refine go_isub dX12_bearsOf_26 ?_
  refine go_Sr [.int 0, .int ((12 - (apS (A 2 a) (A 2 b))) - (dampS (A 1 b)))] [] dX12_bearsOf_27 sl_X12_105 ⟨by decide, by decide⟩ (e_X12_greater) rfl rfl (Nat.le_of_ble_eq_true rfl) (Nat.le_of_ble_eq_true rfl) (Nat.le_of_ble_eq_true rfl) ?_
  refine go_istore (ls' := [some (.ref q), some (.int (nI a)), some (.int (nI b)), some (.int (dampS (A 1 b))), some (.int (grS (0) ((12 - (apS (A 2 a) (A 2 b))) - (dampS (A 1 b))))), none]) dX12_bearsOf_30 ⟨by decide, rfl, rfl⟩ ?_
  refine go_iconst (v := 0) dX12_bearsOf_32 rfl ?_
  refine go_iload dX12_bearsOf_33 rfl ?_
  refine go_iload_n dX12_bearsOf_35 rfl ?_
  refine go_isub dX12_bearsOf_36 ?_
  refine go_Sr [.int 0, .int ((grS (0) ((12 - (apS (A 2 a) (A 2 b))) - (dampS (A 1 b)))) - (dampS (A 1 b)))] [] dX12_bearsOf_37 sl_X12_105 ⟨by decide, by decide⟩ (e_X12_greater) rfl rfl (Nat.le_of_ble_eq_true rfl) (Nat.le_of_ble_eq_true rfl) (Nat.le_of_ble_eq_true rfl) ?_
  refine go_istore (ls' := [some (.ref q), some (.int (nI a)), some (.int (nI b)), some (.int (dampS (A 1 b))), some (.int (grS (0) ((12 - (apS (A 2 a) (A 2 b))) - (dampS (A 1 b))))), some (.int (grS (0) ((grS (0) ((12 - (apS (A 2 a) (A 2 b))) - (dampS (A 1 b)))) - (dampS (A 1 b)))))]) dX12_bearsOf_40 ⟨by decide, rfl, rfl⟩ ?_
  refine go_aload_n dX12_bearsOf_42 rfl ?_
  refine go_get dX12_bearsOf_43 fl_X12_7_12 mo_obj hq (by omega) rfl ?_
  refine go_iload_n dX12_bearsOf_46 rfl ?_
  refine go_iald dX12_bearsOf_47 (mo_arr 1 (by decide)) (by omega) (by omega) (vp_in_nI (n := a) (by show a < 8; omega) (by decide)) ?_
  refine go_tp (z := A 1 a) (by rw [nI_clamp (by omega)]) ?_
  by_cases e48_1 : (A 1 a : Int32) = 1
  · refine go_tp e48_1 ?_
    refine go_tableIn (off := 44) (tgt := 92) dX12_bearsOf_48 (by decide) (by decide) (by decide) (by decide) ?_
    refine go_iload dX12_bearsOf_92 rfl ?_
    refine go_iload_n dX12_bearsOf_94 rfl ?_
    refine go_iadd dX12_bearsOf_95 ?_
    exact go_iret dX12_bearsOf_96 rfl (Nat.le_of_ble_eq_true rfl) (Nat.le_of_ble_eq_true rfl) ((hQ9 ▸ ⟨rd_i (a := (grS (0) ((12 - (apS (A 2 a) (A 2 b))) - (dampS (A 1 b)))) + (dampS (A 1 b))) (by simp [bearS, plainS, tidyS, e48_1]), rfl, rfl⟩))
  · by_cases e48_2 : (A 1 a : Int32) = 2
    · refine go_tp e48_2 ?_
      refine go_tableIn (off := 49) (tgt := 97) dX12_bearsOf_48 (by decide) (by decide) (by decide) (by decide) ?_
      refine go_iload dX12_bearsOf_97 rfl ?_
      exact go_iret dX12_bearsOf_99 rfl (Nat.le_of_ble_eq_true rfl) (Nat.le_of_ble_eq_true rfl) ((hQ9 ▸ ⟨rd_i (a := grS (0) ((grS (0) ((12 - (apS (A 2 a) (A 2 b))) - (dampS (A 1 b)))) - (dampS (A 1 b)))) (by simp [bearS, plainS, tidyS, e48_1, e48_2]), rfl, rfl⟩))
    · by_cases e48_3 : (A 1 a : Int32) = 3
      · refine go_tp e48_3 ?_
        refine go_tableIn (off := 52) (tgt := 100) dX12_bearsOf_48 (by decide) (by decide) (by decide) (by decide) ?_
        refine go_iload dX12_bearsOf_100 rfl ?_
        refine go_iconst (v := 2) dX12_bearsOf_102 rfl ?_
        refine go_iadd dX12_bearsOf_103 ?_
        exact go_iret dX12_bearsOf_104 rfl (Nat.le_of_ble_eq_true rfl) (Nat.le_of_ble_eq_true rfl) ((hQ9 ▸ ⟨rd_i (a := (grS (0) ((12 - (apS (A 2 a) (A 2 b))) - (dampS (A 1 b)))) + 2) (by simp [bearS, plainS, tidyS, e48_1, e48_2, e48_3]), rfl, rfl⟩))
      · by_cases e48_4 : (A 1 a : Int32) = 4
        · refine go_tp e48_4 ?_
          refine go_tableIn (off := 57) (tgt := 105) dX12_bearsOf_48 (by decide) (by decide) (by decide) (by decide) ?_
          refine go_iload dX12_bearsOf_105 rfl ?_
          refine go_iconst (v := 2) dX12_bearsOf_107 rfl ?_
          refine go_idiv dX12_bearsOf_108 (by decide) ?_
          exact go_iret dX12_bearsOf_109 rfl (Nat.le_of_ble_eq_true rfl) (Nat.le_of_ble_eq_true rfl) ((hQ9 ▸ ⟨rd_i (a := (grS (0) ((grS (0) ((12 - (apS (A 2 a) (A 2 b))) - (dampS (A 1 b)))) - (dampS (A 1 b)))) / (2)) (by simp [bearS, plainS, tidyS, e48_1, e48_2, e48_3, e48_4]), rfl, rfl⟩))
        · by_cases e48_5 : (A 1 a : Int32) = 5
          · refine go_tp e48_5 ?_
            refine go_tableIn (off := 44) (tgt := 92) dX12_bearsOf_48 (by decide) (by decide) (by decide) (by decide) ?_
            refine go_iload dX12_bearsOf_92 rfl ?_
            refine go_iload_n dX12_bearsOf_94 rfl ?_
            refine go_iadd dX12_bearsOf_95 ?_
            exact go_iret dX12_bearsOf_96 rfl (Nat.le_of_ble_eq_true rfl) (Nat.le_of_ble_eq_true rfl) ((hQ9 ▸ ⟨rd_i (a := (grS (0) ((12 - (apS (A 2 a) (A 2 b))) - (dampS (A 1 b)))) + (dampS (A 1 b))) (by simp [bearS, plainS, tidyS, e48_1, e48_2, e48_3, e48_4, e48_5]), rfl, rfl⟩))
          · by_cases e48_6 : (A 1 a : Int32) = 6
            · refine go_tp e48_6 ?_
              refine go_tableIn (off := 62) (tgt := 110) dX12_bearsOf_48 (by decide) (by decide) (by decide) (by decide) ?_
              refine go_iconst (v := 0) dX12_bearsOf_110 rfl ?_
              refine go_iload dX12_bearsOf_111 rfl ?_
              refine go_iconst (v := 3) dX12_bearsOf_113 rfl ?_
              refine go_isub dX12_bearsOf_114 ?_
              refine go_Sr [.int 0, .int ((grS (0) ((grS (0) ((12 - (apS (A 2 a) (A 2 b))) - (dampS (A 1 b)))) - (dampS (A 1 b)))) - 3)] [] dX12_bearsOf_115 sl_X12_105 ⟨by decide, by decide⟩ (e_X12_greater) rfl rfl (Nat.le_of_ble_eq_true rfl) (Nat.le_of_ble_eq_true rfl) (Nat.le_of_ble_eq_true rfl) ?_
              exact go_iret dX12_bearsOf_118 rfl (Nat.le_of_ble_eq_true rfl) (Nat.le_of_ble_eq_true rfl) ((hQ9 ▸ ⟨rd_i (a := grS (0) ((grS (0) ((grS (0) ((12 - (apS (A 2 a) (A 2 b))) - (dampS (A 1 b)))) - (dampS (A 1 b)))) - 3)) (by simp [bearS, plainS, tidyS, e48_1, e48_2, e48_3, e48_4, e48_5, e48_6]), rfl, rfl⟩))
            · by_cases e48_7 : (A 1 a : Int32) = 7
              · refine go_tp e48_7 ?_
                refine go_tableIn (off := 71) (tgt := 119) dX12_bearsOf_48 (by decide) (by decide) (by decide) (by decide) ?_
                refine go_iload dX12_bearsOf_119 rfl ?_
                refine go_iconst (v := 3) dX12_bearsOf_121 rfl ?_
                refine go_iadd dX12_bearsOf_122 ?_
                exact go_iret dX12_bearsOf_123 rfl (Nat.le_of_ble_eq_true rfl) (Nat.le_of_ble_eq_true rfl) ((hQ9 ▸ ⟨rd_i (a := (grS (0) ((12 - (apS (A 2 a) (A 2 b))) - (dampS (A 1 b)))) + 3) (by simp [bearS, plainS, tidyS, e48_1, e48_2, e48_3, e48_4, e48_5, e48_6, e48_7]), rfl, rfl⟩))
              · refine go_tableOut dX12_bearsOf_48 (tgt := 124) (by have := i32_ne (v := 1) (k := 1) rfl e48_1; have := i32_ne (v := 2) (k := 2) rfl e48_2; have := i32_ne (v := 3) (k := 3) rfl e48_3; have := i32_ne (v := 4) (k := 4) rfl e48_4; have := i32_ne (v := 5) (k := 5) rfl e48_5; have := i32_ne (v := 6) (k := 6) rfl e48_6; have := i32_ne (v := 7) (k := 7) rfl e48_7; omega) (by decide) ?_
                refine go_iload dX12_bearsOf_124 rfl ?_
                exact go_iret dX12_bearsOf_126 rfl (Nat.le_of_ble_eq_true rfl) (Nat.le_of_ble_eq_true rfl) ((hQ9 ▸ ⟨rd_i (a := grS (0) ((12 - (apS (A 2 a) (A 2 b))) - (dampS (A 1 b)))) (by simp [bearS, plainS, tidyS, e48_1, e48_2, e48_3, e48_4, e48_5, e48_6, e48_7]), rfl, rfl⟩))
set_option maxHeartbeats 4000000 in
set_option maxRecDepth 100000 in
theorem e_X12_troubleOf (hq : G.2.1 ≤ q) (hn : q + 25 ≤ n) {p l : Nat} (hp : p < 8) (hl : l < 5) : Ev G mX12_troubleOf 1 0 0 [.ref q, .int (nI p), .int (nI l)] (mo G m0 q F A L K) n (RD (.int (trouS (A 1 p) (A 5 l) (A 6 l))) (mo G m0 q F A L K) n) := by
  generalize hQ9 : (RD (.int (trouS (A 1 p) (A 5 l) (A 6 l))) (mo G m0 q F A L K) n : RQ) = Q9
  refine ev_of (by decide) (Nat.le_of_ble_eq_true rfl) (ls := [some (.ref q), some (.int (nI p)), some (.int (nI l)), none]) rfl (fun hb => ?_)
  refine go_aload_n dX12_troubleOf_0 rfl ?_
  refine go_get dX12_troubleOf_1 fl_X12_7_12 mo_obj hq (by omega) rfl ?_
  refine go_iload_n dX12_troubleOf_4 rfl ?_
  refine go_iald dX12_troubleOf_5 (mo_arr 1 (by decide)) (by omega) (by omega) (vp_in_nI (n := p) (by show p < 8; omega) (by decide)) ?_
  refine go_tp (z := A 1 p) (by rw [nI_clamp (by omega)]) ?_
  refine go_iconst (v := 3) dX12_troubleOf_6 rfl ?_
  refine go_icmp_eq dX12_troubleOf_7 (fun c7 => ?_) (fun c7 => ?_)
  · refine go_iconst (v := 1) dX12_troubleOf_21 rfl ?_
    refine go_goto dX12_troubleOf_22 ?_
    refine go_istore_n (ls' := [some (.ref q), some (.int (nI p)), some (.int (nI l)), some (.int 1)]) dX12_troubleOf_26 ⟨by decide, rfl, rfl⟩ ?_
    refine go_aload_n dX12_troubleOf_27 rfl ?_
    refine go_get dX12_troubleOf_28 fl_X12_22_12 mo_obj hq (by omega) rfl ?_
    refine go_iload_n dX12_troubleOf_31 rfl ?_
    refine go_iald dX12_troubleOf_32 (mo_arr 5 (by decide)) (by omega) (by omega) (vp_in_nI (n := l) (by show l < 5; omega) (by decide)) ?_
    refine go_tp (z := A 5 l) (by rw [nI_clamp (by omega)]) ?_
    refine go_iload_n dX12_troubleOf_33 rfl ?_
    refine go_if_eq dX12_troubleOf_34 (fun c34 => ?_) (fun c34 => ?_)
    · have c34n := (n0_eq (a := 1) (by omega)).mp c34
      first | exact absurd c34n (by decide) | exact absurd (by decide) c34n | exact absurd rfl c34n | omega
    · have c34n := mt (n0_eq (a := 1) (by omega)).mpr c34
      refine go_iconst (v := 3) dX12_troubleOf_37 rfl ?_
      refine go_iconst (v := 3) dX12_troubleOf_38 rfl ?_
      refine go_aload_n dX12_troubleOf_39 rfl ?_
      refine go_get dX12_troubleOf_40 fl_X12_25_12 mo_obj hq (by omega) rfl ?_
      refine go_iload_n dX12_troubleOf_43 rfl ?_
      refine go_iald dX12_troubleOf_44 (mo_arr 6 (by decide)) (by omega) (by omega) (vp_in_nI (n := l) (by show l < 5; omega) (by decide)) ?_
      refine go_tp (z := A 6 l) (by rw [nI_clamp (by omega)]) ?_
      refine go_imul dX12_troubleOf_45 ?_
      refine go_isub dX12_troubleOf_46 ?_
      refine go_goto dX12_troubleOf_47 ?_
      refine go_iadd dX12_troubleOf_58 ?_
      exact go_iret dX12_troubleOf_59 rfl (Nat.le_of_ble_eq_true rfl) (Nat.le_of_ble_eq_true rfl) ((hQ9 ▸ ⟨rd_i (a := (A 5 l) + (3 - (3 * (A 6 l)))) (by simp [trouS, c7]), rfl, rfl⟩))
  · refine go_aload_n dX12_troubleOf_10 rfl ?_
    refine go_get dX12_troubleOf_11 fl_X12_7_12 mo_obj hq (by omega) rfl ?_
    refine go_iload_n dX12_troubleOf_14 rfl ?_
    refine go_iald dX12_troubleOf_15 (mo_arr 1 (by decide)) (by omega) (by omega) (vp_in_nI (n := p) (by show p < 8; omega) (by decide)) ?_
    refine go_tp (z := A 1 p) (by rw [nI_clamp (by omega)]) ?_
    refine go_bipush (v := 7) dX12_troubleOf_16 rfl ?_
    refine go_icmp_ne dX12_troubleOf_18 (fun c18 => ?_) (fun c18 => ?_)
    · refine go_iconst (v := 0) dX12_troubleOf_25 rfl ?_
      refine go_istore_n (ls' := [some (.ref q), some (.int (nI p)), some (.int (nI l)), some (.int 0)]) dX12_troubleOf_26 ⟨by decide, rfl, rfl⟩ ?_
      refine go_aload_n dX12_troubleOf_27 rfl ?_
      refine go_get dX12_troubleOf_28 fl_X12_22_12 mo_obj hq (by omega) rfl ?_
      refine go_iload_n dX12_troubleOf_31 rfl ?_
      refine go_iald dX12_troubleOf_32 (mo_arr 5 (by decide)) (by omega) (by omega) (vp_in_nI (n := l) (by show l < 5; omega) (by decide)) ?_
      refine go_tp (z := A 5 l) (by rw [nI_clamp (by omega)]) ?_
      refine go_iload_n dX12_troubleOf_33 rfl ?_
      refine go_if_eq dX12_troubleOf_34 (fun c34 => ?_) (fun c34 => ?_)
      · have c34n := (n0_eq (a := 0) (by omega)).mp c34
        refine go_iconst (v := 2) dX12_troubleOf_50 rfl ?_
        refine go_aload_n dX12_troubleOf_51 rfl ?_
        refine go_get dX12_troubleOf_52 fl_X12_25_12 mo_obj hq (by omega) rfl ?_
        refine go_iload_n dX12_troubleOf_55 rfl ?_
        refine go_iald dX12_troubleOf_56 (mo_arr 6 (by decide)) (by omega) (by omega) (vp_in_nI (n := l) (by show l < 5; omega) (by decide)) ?_
        refine go_tp (z := A 6 l) (by rw [nI_clamp (by omega)]) ?_
        refine go_imul dX12_troubleOf_57 ?_
        refine go_iadd dX12_troubleOf_58 ?_
        exact go_iret dX12_troubleOf_59 rfl (Nat.le_of_ble_eq_true rfl) (Nat.le_of_ble_eq_true rfl) ((hQ9 ▸ ⟨rd_i (a := (A 5 l) + (2 * (A 6 l))) (by simp [trouS, c7, c18]), rfl, rfl⟩))
      · have c34n := mt (n0_eq (a := 0) (by omega)).mpr c34
        first | exact absurd c34n (by decide) | exact absurd (by decide) c34n | exact absurd rfl c34n | omega
    · refine go_iconst (v := 1) dX12_troubleOf_21 rfl ?_
      refine go_goto dX12_troubleOf_22 ?_
      refine go_istore_n (ls' := [some (.ref q), some (.int (nI p)), some (.int (nI l)), some (.int 1)]) dX12_troubleOf_26 ⟨by decide, rfl, rfl⟩ ?_
      refine go_aload_n dX12_troubleOf_27 rfl ?_
      refine go_get dX12_troubleOf_28 fl_X12_22_12 mo_obj hq (by omega) rfl ?_
      refine go_iload_n dX12_troubleOf_31 rfl ?_
      refine go_iald dX12_troubleOf_32 (mo_arr 5 (by decide)) (by omega) (by omega) (vp_in_nI (n := l) (by show l < 5; omega) (by decide)) ?_
      refine go_tp (z := A 5 l) (by rw [nI_clamp (by omega)]) ?_
      refine go_iload_n dX12_troubleOf_33 rfl ?_
      refine go_if_eq dX12_troubleOf_34 (fun c34 => ?_) (fun c34 => ?_)
      · have c34n := (n0_eq (a := 1) (by omega)).mp c34
        first | exact absurd c34n (by decide) | exact absurd (by decide) c34n | exact absurd rfl c34n | omega
      · have c34n := mt (n0_eq (a := 1) (by omega)).mpr c34
        refine go_iconst (v := 3) dX12_troubleOf_37 rfl ?_
        refine go_iconst (v := 3) dX12_troubleOf_38 rfl ?_
        refine go_aload_n dX12_troubleOf_39 rfl ?_
        refine go_get dX12_troubleOf_40 fl_X12_25_12 mo_obj hq (by omega) rfl ?_
        refine go_iload_n dX12_troubleOf_43 rfl ?_
        refine go_iald dX12_troubleOf_44 (mo_arr 6 (by decide)) (by omega) (by omega) (vp_in_nI (n := l) (by show l < 5; omega) (by decide)) ?_
        refine go_tp (z := A 6 l) (by rw [nI_clamp (by omega)]) ?_
        refine go_imul dX12_troubleOf_45 ?_
        refine go_isub dX12_troubleOf_46 ?_
        refine go_goto dX12_troubleOf_47 ?_
        refine go_iadd dX12_troubleOf_58 ?_
        exact go_iret dX12_troubleOf_59 rfl (Nat.le_of_ble_eq_true rfl) (Nat.le_of_ble_eq_true rfl) ((hQ9 ▸ ⟨rd_i (a := (A 5 l) + (3 - (3 * (A 6 l)))) (by simp [trouS, c7, c18]), rfl, rfl⟩))
def likS (A : Nat → Nat → Int32) (a b : Nat) : Int32 := bearS (A 1 a) (A 2 a) (A 1 b) (A 2 b) + bearS (A 1 b) (A 2 b) (A 1 a) (A 2 a)
set_option maxHeartbeats 4000000 in
set_option maxRecDepth 100000 in
theorem e_X12_likingOf (hq : G.2.1 ≤ q) (hn : q + 25 ≤ n) {a b : Nat} (ha : a < 8) (hb8 : b < 8) : Ev G mX12_likingOf 3 0 0 [.ref q, .int (nI a), .int (nI b)] (mo G m0 q F A L K) n (RD (.int (likS A a b)) (mo G m0 q F A L K) n) := by
  generalize hQ9 : (RD (.int (likS A a b)) (mo G m0 q F A L K) n : RQ) = Q9
  refine ev_of (by decide) (Nat.le_of_ble_eq_true rfl) (ls := [some (.ref q), some (.int (nI a)), some (.int (nI b))]) rfl (fun hb => ?_)
  refine go_aload_n dX12_likingOf_0 rfl ?_
  refine go_iload_n dX12_likingOf_1 rfl ?_
  refine go_iload_n dX12_likingOf_2 rfl ?_
  refine go_Vr [.int (nI a), .int (nI b)] [] dX12_likingOf_3 vl_X12_108 ⟨by decide, by decide⟩ (e_X12_bearsOf (F := F) (A := A) (L := L) (K := K) hq hn (by omega) (by omega)) mo_obj hq (by omega) rfl rfl (Nat.le_of_ble_eq_true rfl) (Nat.le_of_ble_eq_true rfl) (Nat.le_of_ble_eq_true rfl) ?_
  refine go_aload_n dX12_likingOf_6 rfl ?_
  refine go_iload_n dX12_likingOf_7 rfl ?_
  refine go_iload_n dX12_likingOf_8 rfl ?_
  refine go_Vr [.int (nI b), .int (nI a)] [.int (bearS (A 1 a) (A 2 a) (A 1 b) (A 2 b))] dX12_likingOf_9 vl_X12_108 ⟨by decide, by decide⟩ (e_X12_bearsOf (F := F) (A := A) (L := L) (K := K) hq hn (by omega) (by omega)) mo_obj hq (by omega) rfl rfl (Nat.le_of_ble_eq_true rfl) (Nat.le_of_ble_eq_true rfl) (Nat.le_of_ble_eq_true rfl) ?_
  refine go_iadd dX12_likingOf_12 ?_
  exact go_iret dX12_likingOf_13 rfl (Nat.le_of_ble_eq_true rfl) (Nat.le_of_ble_eq_true rfl) ((hQ9 ▸ ⟨rd_i (a := (bearS (A 1 a) (A 2 a) (A 1 b) (A 2 b)) + (bearS (A 1 b) (A 2 b) (A 1 a) (A 2 a))) (by simp [likS]), rfl, rfl⟩))
set_option maxHeartbeats 4000000 in
set_option maxRecDepth 100000 in
theorem e_X12_mateOf (hq : G.2.1 ≤ q) (hn : q + 25 ≤ n) (hN : F 0 = nI N) (hN8 : N ≤ 8) {p : Nat} (hp : p < 8) : Ev G mX12_mateOf 1 0 0 [.ref q, .int (nI p)] (mo G m0 q F A L K) n (RD (.int (mateS N (A 4) p)) (mo G m0 q F A L K) n) := by
  generalize hQ9 : (RD (.int (mateS N (A 4) p)) (mo G m0 q F A L K) n : RQ) = Q9
  refine ev_of (by decide) (Nat.le_of_ble_eq_true rfl) (ls := [some (.ref q), some (.int (nI p)), none, none]) rfl (fun hb => ?_)
  refine go_bipush (v := (-4)) dX12_mateOf_0 rfl ?_
  refine go_istore_n (ls' := [some (.ref q), some (.int (nI p)), some (.int (-4)), none]) dX12_mateOf_2 ⟨by decide, rfl, rfl⟩ ?_
  refine go_aload_n dX12_mateOf_3 rfl ?_
  refine go_get dX12_mateOf_4 fl_X12_87_12 mo_obj hq (by omega) rfl ?_
  refine go_tp (z := nI N) (hN) ?_
  refine go_iconst (v := 1) dX12_mateOf_7 rfl ?_
  refine go_isub dX12_mateOf_8 ?_
  refine go_istore_n (ls' := [some (.ref q), some (.int (nI p)), some (.int (-4)), some (.int ((nI N) - 1))]) dX12_mateOf_9 ⟨by decide, rfl, rfl⟩ ?_
  have lp0 : ∀ (μ_lp0 : Nat) (j : Nat) (x : Int32) (hj : j ≤ N) (hm : j + 1 ≤ μ_lp0) (hx : x = fsB (mateP (A 4) p) j (N - j)), Go G mX12_mateOf 1 0 0 Q9 0 0 10 [some (.ref q), some (.int (nI p)), some (.int x), some (.int (nI j - 1))] [] (mo G m0 q F A L K) n := by
    intro μ_lp0
    induction μ_lp0 with
    | zero =>
      intro j x hj hm hx
      exact absurd hm (by omega)
    | succ μ_lp0 ih_lp0 =>
      intro j x hj hm hx
      rcases j with _ | j
      · skip
        refine go_iload_n dX12_mateOf_10 rfl ?_
        refine go_if_lt dX12_mateOf_11 (fun c11 => ?_) (fun c11 => ?_)
        · refine go_iload_n dX12_mateOf_57 rfl ?_
          exact go_iret dX12_mateOf_58 rfl (Nat.le_of_ble_eq_true rfl) (Nat.le_of_ble_eq_true rfl) ((hQ9 ▸ ⟨rd_i (by rw [hx]; rfl), rfl, rfl⟩))
        · exact absurd (by decide) c11
      · refine go_ls (ls' := [some (.ref q), some (.int (nI p)), some (.int x), some (.int (nI j))]) (by rw [nI_pred]) ?_
        refine go_iload_n dX12_mateOf_10 rfl ?_
        refine go_if_lt dX12_mateOf_11 (fun c11 => ?_) (fun c11 => ?_)
        · have c11n := (n0_lt (a := j) (by omega)).mp c11
          first | exact absurd c11n (by decide) | exact absurd (by decide) c11n | exact absurd rfl c11n | omega
        · have c11n := mt (n0_lt (a := j) (by omega)).mpr c11
          refine go_iload_n dX12_mateOf_14 rfl ?_
          refine go_iload_n dX12_mateOf_15 rfl ?_
          refine go_icmp_eq dX12_mateOf_16 (fun c16 => ?_) (fun c16 => ?_)
          · have c16n := (nI_eq (a := j) (b := p) (by omega) (by omega)).mp c16
            refine go_iload_n dX12_mateOf_49 rfl ?_
            refine go_istore_n (ls' := [some (.ref q), some (.int (nI p)), some (.int x), some (.int (nI j))]) dX12_mateOf_50 ⟨by decide, rfl, rfl⟩ ?_
            refine go_iinc (v := (nI j) - 1) (ls' := [some (.ref q), some (.int (nI p)), some (.int x), some (.int ((nI j) - 1))]) dX12_mateOf_51 rfl (i32_m1 _) ⟨by decide, rfl, rfl⟩ ?_
            refine go_goto dX12_mateOf_54 ?_
            exact ih_lp0 j _ (by omega) (by omega) (by rw [fsB_d (by omega)]; first | (simp [mateP, hx, c16]; done) | (simp [mateP, hx, c16, c16n]; done))
          · have c16n := mt (nI_eq (a := j) (b := p) (by omega) (by omega)).mpr c16
            refine go_aload_n dX12_mateOf_19 rfl ?_
            refine go_get dX12_mateOf_20 fl_X12_19_12 mo_obj hq (by omega) rfl ?_
            refine go_iload_n dX12_mateOf_23 rfl ?_
            refine go_iald dX12_mateOf_24 (mo_arr 4 (by decide)) (by omega) (by omega) (vp_in_nI (n := p) (by show p < 8; omega) (by decide)) ?_
            refine go_tp (z := A 4 p) (by rw [nI_clamp (by omega)]) ?_
            refine go_bipush (v := 9) dX12_mateOf_25 rfl ?_
            refine go_icmp_eq dX12_mateOf_27 (fun c27 => ?_) (fun c27 => ?_)
            · refine go_iload_n dX12_mateOf_49 rfl ?_
              refine go_istore_n (ls' := [some (.ref q), some (.int (nI p)), some (.int x), some (.int (nI j))]) dX12_mateOf_50 ⟨by decide, rfl, rfl⟩ ?_
              refine go_iinc (v := (nI j) - 1) (ls' := [some (.ref q), some (.int (nI p)), some (.int x), some (.int ((nI j) - 1))]) dX12_mateOf_51 rfl (i32_m1 _) ⟨by decide, rfl, rfl⟩ ?_
              refine go_goto dX12_mateOf_54 ?_
              exact ih_lp0 j _ (by omega) (by omega) (by rw [fsB_d (by omega)]; simp [mateP, hx, c16, c16n, c27])
            · refine go_aload_n dX12_mateOf_30 rfl ?_
              refine go_get dX12_mateOf_31 fl_X12_19_12 mo_obj hq (by omega) rfl ?_
              refine go_iload_n dX12_mateOf_34 rfl ?_
              refine go_iald dX12_mateOf_35 (mo_arr 4 (by decide)) (by omega) (by omega) (vp_in_nI (n := j) (by show j < 8; omega) (by decide)) ?_
              refine go_tp (z := A 4 j) (by rw [nI_clamp (by omega)]) ?_
              refine go_aload_n dX12_mateOf_36 rfl ?_
              refine go_get dX12_mateOf_37 fl_X12_19_12 mo_obj hq (by omega) rfl ?_
              refine go_iload_n dX12_mateOf_40 rfl ?_
              refine go_iald dX12_mateOf_41 (mo_arr 4 (by decide)) (by omega) (by omega) (vp_in_nI (n := p) (by show p < 8; omega) (by decide)) ?_
              refine go_tp (z := A 4 p) (by rw [nI_clamp (by omega)]) ?_
              refine go_icmp_ne dX12_mateOf_42 (fun c42 => ?_) (fun c42 => ?_)
              · refine go_iload_n dX12_mateOf_49 rfl ?_
                refine go_istore_n (ls' := [some (.ref q), some (.int (nI p)), some (.int x), some (.int (nI j))]) dX12_mateOf_50 ⟨by decide, rfl, rfl⟩ ?_
                refine go_iinc (v := (nI j) - 1) (ls' := [some (.ref q), some (.int (nI p)), some (.int x), some (.int ((nI j) - 1))]) dX12_mateOf_51 rfl (i32_m1 _) ⟨by decide, rfl, rfl⟩ ?_
                refine go_goto dX12_mateOf_54 ?_
                exact ih_lp0 j _ (by omega) (by omega) (by rw [fsB_d (by omega)]; simp [mateP, hx, c16, c16n, c27, c42])
              · refine go_iload_n dX12_mateOf_45 rfl ?_
                refine go_goto dX12_mateOf_46 ?_
                refine go_istore_n (ls' := [some (.ref q), some (.int (nI p)), some (.int (nI j)), some (.int (nI j))]) dX12_mateOf_50 ⟨by decide, rfl, rfl⟩ ?_
                refine go_iinc (v := (nI j) - 1) (ls' := [some (.ref q), some (.int (nI p)), some (.int (nI j)), some (.int ((nI j) - 1))]) dX12_mateOf_51 rfl (i32_m1 _) ⟨by decide, rfl, rfl⟩ ?_
                refine go_goto dX12_mateOf_54 ?_
                exact ih_lp0 j _ (by omega) (by omega) (by rw [fsB_d (by omega)]; simp [mateP, hx, c16, c16n, c27, c42])
  exact lp0 (N + 1) N _ (Nat.le_refl N) (Nat.le_refl _) fsB_0.symm
end M1
