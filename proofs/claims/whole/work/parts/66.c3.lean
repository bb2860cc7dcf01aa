theorem okr_lt2 {x : Int32} (h : okr x 0 1 = true) : x < 2 := by
  have h1 := mt (i32_lt _ _).mpr (okr_i.mp h).2
  rw [i32_lt]
  have h2 : ((1 : Int32).toInt) = 1 := rfl
  have h3 : ((2 : Int32).toInt) = 2 := rfl
  omega
theorem sc_rows {G : GX} {m0 : Mem} {s : Nat} {F : Nat → Int32} {W : Nat → Option Nat} {A A' : Nat → Nat → Int32} {B : Nat → Int32} (h : ∀ r, 3 ≤ r → r ≤ 7 → A' r = A r) : sc G m0 s F W A B = sc G m0 s F W A' B := by
  unfold sc scE
  rw [h 3 (by decide) (by decide), h 4 (by decide) (by decide), h 5 (by decide) (by decide), h 6 (by decide) (by decide), h 7 (by decide) (by decide)]
/-- the least and the most troubled, as the class looks for them -/
def tlB (A : Nat → Nat → Int32) (w : Bool) : Nat → Int32
  | 0 => -4
  | k + 1 => if A 4 k = 9 then tlB A w k else if tlB A w k < 0 then nI k else if (if w then trN A k < trN A (tlB A w k).toNatClampNeg else trN A (tlB A w k).toNatClampNeg < trN A k) then nI k else tlB A w k
def fhB (N : Nat) (A : Nat → Nat → Int32) : Nat → Nat
  | 0 => 0
  | k + 1 => if wantS N A (fhB N A k) < wantS N A (k + 1) then k + 1 else fhB N A k
theorem fhB_le {N : Nat} {A : Nat → Nat → Int32} : ∀ k, fhB N A k ≤ k
  | 0 => Nat.le_refl _
  | k + 1 => by
    unfold fhB
    split
    · exact Nat.le_refl _
    · exact Nat.le_trans (fhB_le k) (Nat.le_succ k)
theorem pay_eq (x t b : Int32) : 12 - t - (b - t) = 12 - b := by
  simp only [Int32.sub_eq_add_neg, Int32.neg_add, Int32.neg_neg]
  rw [Int32.add_assoc, Int32.add_comm (-b) t, ← Int32.add_assoc (-t) t, Int32.add_left_neg, Int32.zero_add]
/-- what the lesser one pays; what one pays -/
def plS (A : Nat → Nat → Int32) (a b : Nat) (v law : Int32) : Int32 := if law = 1 then v * roomS (A 1 a) / (roomS (A 1 a) + roomS (A 1 b)) else if law = 2 ∧ ¬ brS A a b - brS A b a = 0 then (if brS A a b - brS A b a < 0 then v else 0) else (v + 1) / 2
def dpS (N : Nat) (A : Nat → Nat → Int32) (p : Nat) (v law : Int32) : Int32 := if mateS N (A 4) p < 0 then v else if p < (mateS N (A 4) p).toNatClampNeg then plS A p (mateS N (A 4) p).toNatClampNeg v law else v - plS A (mateS N (A 4) p).toNatClampNeg p v law
theorem mnS_nI {a b : Nat} (ha : a < 2 ^ 31) (hb : b < 2 ^ 31) : mnS (nI a) (nI b) = nI (if b < a then b else a) := by
  unfold mnS
  by_cases h : b < a
  · rw [if_pos h, if_pos ((nI_ltI hb ha).mpr h)]
  · rw [if_neg h, if_neg (mt (nI_ltI hb ha).mp h)]
theorem mxS_nI {a b : Nat} (ha : a < 2 ^ 31) (hb : b < 2 ^ 31) : mxS (nI a) (nI b) = nI (if a < b then b else a) := by
  unfold mxS
  by_cases h : a < b
  · rw [if_pos h, if_pos ((nI_ltI ha hb).mpr h)]
  · rw [if_neg h, if_neg (mt (nI_ltI ha hb).mp h)]
theorem room_pos (a b : Int32) : 0 < roomS a + roomS b := by
  rcases roomS_in a with h | h | h | h | h <;> rcases roomS_in b with g | g | g | g | g <;> rw [h, g] <;> decide

section C3
variable {G : GX} {m0 f : Mem} {s n N M : Nat} {F : Nat → Int32} {W : Nat → Option Nat} {A : Nat → Nat → Int32} {B : Nat → Int32}
set_option maxHeartbeats 4000000 in
set_option maxRecDepth 100000 in
theorem e_X11_isWithin {x lo hi : Int32} : Ev G mX11_isWithin 1 0 0 [.int x, .int lo, .int hi] f n (RD (.int (if okr x lo hi then 1 else 0)) f n) := by
  generalize hQ9 : (RD (.int (if okr x lo hi then 1 else 0)) f n : RQ) = Q9
  refine ev_of (by decide) (Nat.le_of_ble_eq_true rfl) (ls := [some (.int x), some (.int lo), some (.int hi)]) rfl (fun hb => ?_)
  refine go_iload_n dX11_isWithin_0 rfl ?_
  refine go_iload_n dX11_isWithin_1 rfl ?_
  refine go_icmp_lt dX11_isWithin_2 (fun c2 => ?_) (fun c2 => ?_)
  · refine go_iconst (v := 0) dX11_isWithin_14 rfl ?_
    exact go_zret dX11_isWithin_15 rfl (Nat.le_of_ble_eq_true rfl) (Nat.le_of_ble_eq_true rfl) (rfl) ((hQ9 ▸ ⟨rd_i (a := 0) (by simp [okr, c2]), rfl, rfl⟩))
  · refine go_iload_n dX11_isWithin_5 rfl ?_
    refine go_iload_n dX11_isWithin_6 rfl ?_
    refine go_icmp_gt dX11_isWithin_7 (fun c7 => ?_) (fun c7 => ?_)
    · refine go_iconst (v := 0) dX11_isWithin_14 rfl ?_
      exact go_zret dX11_isWithin_15 rfl (Nat.le_of_ble_eq_true rfl) (Nat.le_of_ble_eq_true rfl) (rfl) ((hQ9 ▸ ⟨rd_i (a := 0) (by simp [okr, c2, c7]), rfl, rfl⟩))
    · refine go_iconst (v := 1) dX11_isWithin_10 rfl ?_
      refine go_goto dX11_isWithin_11 ?_
      exact go_zret dX11_isWithin_15 rfl (Nat.le_of_ble_eq_true rfl) (Nat.le_of_ble_eq_true rfl) (rfl) ((hQ9 ▸ ⟨rd_i (a := 1) (by simp [okr, c2, c7]), rfl, rfl⟩))
set_option maxHeartbeats 4000000 in
set_option maxRecDepth 100000 in
theorem e_X5_stand (hq : G.2.1 ≤ s) (hn : s + 8 ≤ n) (hM : F 1 = nI M) (hM5 : M ≤ 5) {far ab : Int32} : Ev G mX5_stand 2 0 0 [.ref s, .int far, .int ab] (sc G m0 s F W A B) n (fun r f1 n1 => r = some (.int (stR M far ab)) ∧ f1 = (sc G m0 s (if stC M far ab then upd F 1 (nI (M + 1)) else F) W (if stC M far ab then lcA M A far ab else A) B) ∧ n1 = n) := by
  generalize hQ9 : (fun r f1 n1 => r = some (.int (stR M far ab)) ∧ f1 = (sc G m0 s (if stC M far ab then upd F 1 (nI (M + 1)) else F) W (if stC M far ab then lcA M A far ab else A) B) ∧ n1 = n : RQ) = Q9
  refine ev_of (by decide) (Nat.le_of_ble_eq_true rfl) (ls := [some (.ref s), some (.int far), some (.int ab), none]) rfl (fun hb => ?_)
  refine go_iload_n dX5_stand_0 rfl ?_
  refine go_iconst (v := 0) dX5_stand_1 rfl ?_
  refine go_bipush (v := 9) dX5_stand_2 rfl ?_
  refine go_Sr [.int far, .int 0, .int 9] [] dX5_stand_4 sl_X5_92 ⟨by decide, by decide⟩ (e_X11_isWithin) rfl rfl (Nat.le_of_ble_eq_true rfl) (Nat.le_of_ble_eq_true rfl) (Nat.le_of_ble_eq_true rfl) ?_
  refine go_if_eq dX5_stand_7 (fun c7 => ?_) (fun c7 => ?_)
  · have c7 := bz_f c7
    refine go_iconst (v := (-1)) dX5_stand_19 rfl ?_
    exact go_iret dX5_stand_20 rfl (Nat.le_of_ble_eq_true rfl) (Nat.le_of_ble_eq_true rfl) (hQ9 ▸ ⟨rd_i (a := (-1)) (by simp [stR, stC, lcC, lcA, c7]), by simp [stR, stC, lcC, lcA, c7], rfl⟩)
  · have c7 := bz_t c7
    refine go_iload_n dX5_stand_10 rfl ?_
    refine go_iconst (v := 0) dX5_stand_11 rfl ?_
    refine go_iconst (v := 1) dX5_stand_12 rfl ?_
    refine go_Sr [.int ab, .int 0, .int 1] [] dX5_stand_13 sl_X5_92 ⟨by decide, by decide⟩ (e_X11_isWithin) rfl rfl (Nat.le_of_ble_eq_true rfl) (Nat.le_of_ble_eq_true rfl) (Nat.le_of_ble_eq_true rfl) ?_
    refine go_if_ne dX5_stand_16 (fun c16 => ?_) (fun c16 => ?_)
    · have c16 := bz_t c16
      refine go_aload_n dX5_stand_21 rfl ?_
      refine go_get dX5_stand_22 fl_X5_15_5 sc_obj hq (by omega) rfl ?_
      refine go_tp (z := nI M) (hM) ?_
      refine go_iconst (v := 5) dX5_stand_25 rfl ?_
      refine go_icmp_lt dX5_stand_26 (fun c26 => ?_) (fun c26 => ?_)
      · have c26n := (nI_ltI (a := M) (b := 5) (by omega) (by omega)).mp c26
        refine go_aload_n dX5_stand_32 rfl ?_
        refine go_get dX5_stand_33 fl_X5_15_5 sc_obj hq (by omega) rfl ?_
        refine go_tp (z := nI M) (hM) ?_
        refine go_istore_n (ls' := [some (.ref s), some (.int far), some (.int ab), some (.int (nI M))]) dX5_stand_36 ⟨by decide, rfl, rfl⟩ ?_
        refine go_aload_n dX5_stand_37 rfl ?_
        refine go_dup dX5_stand_38 rfl ?_
        refine go_get dX5_stand_39 fl_X5_15_5 sc_obj hq (by omega) rfl ?_
        refine go_tp (z := nI M) (hM) ?_
        refine go_iconst (v := 1) dX5_stand_42 rfl ?_
        refine go_iadd dX5_stand_43 ?_
        refine go_tp (z := nI (M + 1)) (nI_add M 1) ?_
        refine go_put dX5_stand_44 fp_X5_15_5 (Or.inr (fun _ _ _ h => by cases h; rfl)) sc_obj hq (by omega) rfl rfl (Nat.le_of_ble_eq_true rfl) ?_
        refine go_mem (f' := (sc G m0 s (upd F 1 (nI (M + 1))) W A B)) (sc_setF rfl) ?_
        refine go_aload_n dX5_stand_47 rfl ?_
        refine go_get dX5_stand_48 fl_X5_37_5 sc_obj hq (by omega) rfl ?_
        refine go_iload_n dX5_stand_51 rfl ?_
        refine go_iload_n dX5_stand_52 rfl ?_
        refine go_iast dX5_stand_53 sc_5 (by omega) (by omega) (vp_in_nI (n := M) (by show M < 5; omega) (by decide)) ?_
        refine go_mem (sc_set5 _ _) ?_
        rw [nI_clamp (by omega)]
        refine go_aload_n dX5_stand_54 rfl ?_
        refine go_get dX5_stand_55 fl_X5_40_5 sc_obj hq (by omega) rfl ?_
        refine go_iload_n dX5_stand_58 rfl ?_
        refine go_iload_n dX5_stand_59 rfl ?_
        refine go_iast dX5_stand_60 sc_6 (by omega) (by omega) (vp_in_nI (n := M) (by show M < 5; omega) (by decide)) ?_
        refine go_mem (sc_set6 _ _) ?_
        rw [nI_clamp (by omega)]
        refine go_aload_n dX5_stand_61 rfl ?_
        refine go_get dX5_stand_62 fl_X5_43_5 sc_obj hq (by omega) rfl ?_
        refine go_iload_n dX5_stand_65 rfl ?_
        refine go_iconst (v := 2) dX5_stand_66 rfl ?_
        refine go_iast dX5_stand_67 sc_7 (by omega) (by omega) (vp_in_nI (n := M) (by show M < 5; omega) (by decide)) ?_
        refine go_mem (sc_set7 _ _) ?_
        rw [nI_clamp (by omega)]
        refine go_iload_n dX5_stand_68 rfl ?_
        exact go_iret dX5_stand_69 rfl (Nat.le_of_ble_eq_true rfl) (Nat.le_of_ble_eq_true rfl) (hQ9 ▸ ⟨rd_i (a := nI M) (by simp [stR, stC, lcC, lcA, c7, c16, c26, c26n, okr_lt2 c16]), by simp [stR, stC, lcC, lcA, c7, c16, c26, c26n, okr_lt2 c16], rfl⟩)
      · have c26n := mt (nI_ltI (a := M) (b := 5) (by omega) (by omega)).mpr c26
        refine go_bipush (v := (-2)) dX5_stand_29 rfl ?_
        exact go_iret dX5_stand_31 rfl (Nat.le_of_ble_eq_true rfl) (Nat.le_of_ble_eq_true rfl) (hQ9 ▸ ⟨rd_i (a := (-2)) (by simp [stR, stC, lcC, lcA, c7, c16, c26, c26n, okr_lt2 c16]), by simp [stR, stC, lcC, lcA, c7, c16, c26, c26n, okr_lt2 c16], rfl⟩)
    · have c16 := bz_f c16
      refine go_iconst (v := (-1)) dX5_stand_19 rfl ?_
      exact go_iret dX5_stand_20 rfl (Nat.le_of_ble_eq_true rfl) (Nat.le_of_ble_eq_true rfl) (hQ9 ▸ ⟨rd_i (a := (-1)) (by simp [stR, stC, lcC, lcA, c7, c16]), by simp [stR, stC, lcC, lcA, c7, c16], rfl⟩)
theorem plcS_i {M : Nat} {l : Int32} : plcS M l = true ↔ l = 9 ∨ okp M l = true := decide_eq_true_iff
set_option maxHeartbeats 4000000 in
set_option maxRecDepth 100000 in
theorem e_X5_move (hq : G.2.1 ≤ s) (hn : s + 8 ≤ n) (hN : F 0 = nI N) (hN8 : N ≤ 8) (hM : F 1 = nI M) (hM5 : M ≤ 5) {p l : Int32} : Ev G mX5_move 3 0 0 [.ref s, .int p, .int l] (sc G m0 s F W A B) n (fun r f1 n1 => r = some (.int (mvR N M A p l)) ∧ f1 = (sc G m0 s F W (mvA N M A p l) B) ∧ n1 = n) := by
  generalize hQ9 : (fun r f1 n1 => r = some (.int (mvR N M A p l)) ∧ f1 = (sc G m0 s F W (mvA N M A p l) B) ∧ n1 = n : RQ) = Q9
  refine ev_of (by decide) (Nat.le_of_ble_eq_true rfl) (ls := [some (.ref s), some (.int p), some (.int l), none]) rfl (fun hb => ?_)
  refine go_aload_n dX5_move_0 rfl ?_
  refine go_iload_n dX5_move_1 rfl ?_
  refine go_Vr [.int p] [] dX5_move_2 vl_X5_109 ⟨by decide, by decide⟩ (e_X5_hasPupil (F := F) (W := W) (A := A) (B := B) hq hn hN hN8) sc_obj hq (by omega) rfl rfl (Nat.le_of_ble_eq_true rfl) (Nat.le_of_ble_eq_true rfl) (Nat.le_of_ble_eq_true rfl) ?_
  refine go_if_eq dX5_move_5 (fun c5 => ?_) (fun c5 => ?_)
  · have c5 := bz_f c5
    refine go_iconst (v := (-1)) dX5_move_16 rfl ?_
    exact go_iret dX5_move_17 rfl (Nat.le_of_ble_eq_true rfl) (Nat.le_of_ble_eq_true rfl) (hQ9 ▸ ⟨rd_i (a := (-1)) (by simp [mvR, mvC, mmS, plcS, c5]), by simp [mvA, mvC, mmS, plcS, c5], rfl⟩)
  · have c5 := bz_t c5
    obtain ⟨jp, hjp, rfl⟩ := okp_nI c5 (by omega)
    have kjp : (nI jp).toNatClampNeg = jp := nI_clamp (by omega)
    refine go_aload_n dX5_move_8 rfl ?_
    refine go_iload_n dX5_move_9 rfl ?_
    refine go_Vr [.int l] [] dX5_move_10 vl_X5_112 ⟨by decide, by decide⟩ (e_X5_hasPlace (F := F) (W := W) (A := A) (B := B) hq hn hM hM5) sc_obj hq (by omega) rfl rfl (Nat.le_of_ble_eq_true rfl) (Nat.le_of_ble_eq_true rfl) (Nat.le_of_ble_eq_true rfl) ?_
    refine go_if_ne dX5_move_13 (fun c13 => ?_) (fun c13 => ?_)
    · have c13 := bz_t c13
      have hp13 := plcS_i.mp c13
      refine go_aload_n dX5_move_18 rfl ?_
      refine go_get dX5_move_19 fl_X5_31_5 sc_obj hq (by omega) rfl ?_
      refine go_iload_n dX5_move_22 rfl ?_
      refine go_iald dX5_move_23 sc_3 (by omega) (by omega) (vp_in_nI (n := jp) (by show jp < 8; omega) (by decide)) ?_
      refine go_tp (z := A 4 jp) (by rw [nI_clamp (by omega)]) ?_
      refine go_istore_n (ls' := [some (.ref s), some (.int (nI jp)), some (.int l), some (.int (A 4 jp))]) dX5_move_24 ⟨by decide, rfl, rfl⟩ ?_
      refine go_iload_n dX5_move_25 rfl ?_
      refine go_bipush (v := 9) dX5_move_26 rfl ?_
      refine go_icmp_eq dX5_move_28 (fun c28 => ?_) (fun c28 => ?_)
      · subst c28
        refine go_aload_n dX5_move_48 rfl ?_
        refine go_get dX5_move_49 fl_X5_31_5 sc_obj hq (by omega) rfl ?_
        refine go_iload_n dX5_move_52 rfl ?_
        refine go_iload_n dX5_move_53 rfl ?_
        refine go_iast dX5_move_54 sc_3 (by omega) (by omega) (vp_in_nI (n := jp) (by show jp < 8; omega) (by decide)) ?_
        refine go_mem (sc_set3 _ _) ?_
        rw [nI_clamp (by omega)]
        refine go_iload_n dX5_move_55 rfl ?_
        exact go_iret dX5_move_56 rfl (Nat.le_of_ble_eq_true rfl) (Nat.le_of_ble_eq_true rfl) (hQ9 ▸ ⟨rd_i (a := A 4 jp) (by simp [mvR, mvC, mmS, plcS, c5, kjp]), by simp [mvA, mvC, mmS, plcS, c5, kjp], rfl⟩)
      · have ho13 : okp M l = true := hp13.resolve_left c28
        refine go_iload_n dX5_move_31 rfl ?_
        refine go_iload_n dX5_move_32 rfl ?_
        refine go_icmp_eq dX5_move_33 (fun c33 => ?_) (fun c33 => ?_)
        · have hs33 := c33.symm
          refine go_aload_n dX5_move_48 rfl ?_
          refine go_get dX5_move_49 fl_X5_31_5 sc_obj hq (by omega) rfl ?_
          refine go_iload_n dX5_move_52 rfl ?_
          refine go_iload_n dX5_move_53 rfl ?_
          refine go_iast dX5_move_54 sc_3 (by omega) (by omega) (vp_in_nI (n := jp) (by show jp < 8; omega) (by decide)) ?_
          refine go_mem (sc_set3 _ _) ?_
          rw [nI_clamp (by omega)]
          refine go_iload_n dX5_move_55 rfl ?_
          exact go_iret dX5_move_56 rfl (Nat.le_of_ble_eq_true rfl) (Nat.le_of_ble_eq_true rfl) (hQ9 ▸ ⟨rd_i (a := A 4 jp) (by simp [mvR, mvC, mmS, plcS, c5, kjp, c28, ho13, hs33]), by simp [mvA, mvC, mmS, plcS, c5, kjp, c28, ho13, hs33], rfl⟩)
        · have hs33 : ¬ A 4 jp = l := fun z => c33 z.symm
          refine go_aload_n dX5_move_36 rfl ?_
          refine go_iload_n dX5_move_37 rfl ?_
          refine go_Vr [.int l] [] dX5_move_38 vl_X5_115 ⟨by decide, by decide⟩ (e_X5_howManyIn (F := F) (W := W) (A := A) (B := B) hq hn hN hN8) sc_obj hq (by omega) rfl rfl (Nat.le_of_ble_eq_true rfl) (Nat.le_of_ble_eq_true rfl) (Nat.le_of_ble_eq_true rfl) ?_
          refine go_iconst (v := 2) dX5_move_41 rfl ?_
          refine go_icmp_lt dX5_move_42 (fun c42 => ?_) (fun c42 => ?_)
          · refine go_aload_n dX5_move_48 rfl ?_
            refine go_get dX5_move_49 fl_X5_31_5 sc_obj hq (by omega) rfl ?_
            refine go_iload_n dX5_move_52 rfl ?_
            refine go_iload_n dX5_move_53 rfl ?_
            refine go_iast dX5_move_54 sc_3 (by omega) (by omega) (vp_in_nI (n := jp) (by show jp < 8; omega) (by decide)) ?_
            refine go_mem (sc_set3 _ _) ?_
            rw [nI_clamp (by omega)]
            refine go_iload_n dX5_move_55 rfl ?_
            exact go_iret dX5_move_56 rfl (Nat.le_of_ble_eq_true rfl) (Nat.le_of_ble_eq_true rfl) (hQ9 ▸ ⟨rd_i (a := A 4 jp) (by simp [mvR, mvC, mmS, plcS, c5, kjp, c28, c42, ho13, hs33]), by simp [mvA, mvC, mmS, plcS, c5, kjp, c28, c42, ho13, hs33], rfl⟩)
          · refine go_bipush (v := (-3)) dX5_move_45 rfl ?_
            exact go_iret dX5_move_47 rfl (Nat.le_of_ble_eq_true rfl) (Nat.le_of_ble_eq_true rfl) (hQ9 ▸ ⟨rd_i (a := (-3)) (by simp [mvR, mvC, mmS, plcS, c5, kjp, c28, c42, ho13, hs33]), by simp [mvA, mvC, mmS, plcS, c5, kjp, c28, c42, ho13, hs33], rfl⟩)
    · have c13 := bz_f c13
      have hn13 := mt plcS_i.mpr c13
      refine go_iconst (v := (-1)) dX5_move_16 rfl ?_
      exact go_iret dX5_move_17 rfl (Nat.le_of_ble_eq_true rfl) (Nat.le_of_ble_eq_true rfl) (hQ9 ▸ ⟨rd_i (a := (-1)) (by simp [mvR, mvC, mmS, plcS, c5, kjp, hn13]), by simp [mvA, mvC, mmS, plcS, c5, kjp, hn13], rfl⟩)
set_option maxHeartbeats 4000000 in
set_option maxRecDepth 100000 in
theorem e_X5_change (hq : G.2.1 ≤ s) (hn : s + 8 ≤ n) (hN : F 0 = nI N) (hN8 : N ≤ 8) {a b : Int32} : Ev G mX5_change 2 0 0 [.ref s, .int a, .int b] (sc G m0 s F W A B) n (fun r f1 n1 => r = some (.int (chR N A a b)) ∧ f1 = (sc G m0 s F W (chA N A a b) B) ∧ n1 = n) := by
  generalize hQ9 : (fun r f1 n1 => r = some (.int (chR N A a b)) ∧ f1 = (sc G m0 s F W (chA N A a b) B) ∧ n1 = n : RQ) = Q9
  refine ev_of (by decide) (Nat.le_of_ble_eq_true rfl) (ls := [some (.ref s), some (.int a), some (.int b), none]) rfl (fun hb => ?_)
  refine go_aload_n dX5_change_0 rfl ?_
  refine go_iload_n dX5_change_1 rfl ?_
  refine go_Vr [.int a] [] dX5_change_2 vl_X5_109 ⟨by decide, by decide⟩ (e_X5_hasPupil (F := F) (W := W) (A := A) (B := B) hq hn hN hN8) sc_obj hq (by omega) rfl rfl (Nat.le_of_ble_eq_true rfl) (Nat.le_of_ble_eq_true rfl) (Nat.le_of_ble_eq_true rfl) ?_
  refine go_if_eq dX5_change_5 (fun c5 => ?_) (fun c5 => ?_)
  · have c5 := bz_f c5
    refine go_iconst (v := (-1)) dX5_change_21 rfl ?_
    exact go_iret dX5_change_22 rfl (Nat.le_of_ble_eq_true rfl) (Nat.le_of_ble_eq_true rfl) (hQ9 ▸ ⟨rd_i (a := (-1)) (by simp [chR, twoS, c5]), by simp [chA, twoS, swS, c5], rfl⟩)
  · have c5 := bz_t c5
    obtain ⟨ja, hja, rfl⟩ := okp_nI c5 (by omega)
    have kja : (nI ja).toNatClampNeg = ja := nI_clamp (by omega)
    refine go_aload_n dX5_change_8 rfl ?_
    refine go_iload_n dX5_change_9 rfl ?_
    refine go_Vr [.int b] [] dX5_change_10 vl_X5_109 ⟨by decide, by decide⟩ (e_X5_hasPupil (F := F) (W := W) (A := A) (B := B) hq hn hN hN8) sc_obj hq (by omega) rfl rfl (Nat.le_of_ble_eq_true rfl) (Nat.le_of_ble_eq_true rfl) (Nat.le_of_ble_eq_true rfl) ?_
    refine go_if_eq dX5_change_13 (fun c13 => ?_) (fun c13 => ?_)
    · have c13 := bz_f c13
      refine go_iconst (v := (-1)) dX5_change_21 rfl ?_
      exact go_iret dX5_change_22 rfl (Nat.le_of_ble_eq_true rfl) (Nat.le_of_ble_eq_true rfl) (hQ9 ▸ ⟨rd_i (a := (-1)) (by simp [chR, twoS, c5, kja, c13]), by simp [chA, twoS, swS, c5, kja, c13], rfl⟩)
    · have c13 := bz_t c13
      obtain ⟨jb, hjb, rfl⟩ := okp_nI c13 (by omega)
      have kjb : (nI jb).toNatClampNeg = jb := nI_clamp (by omega)
      refine go_iload_n dX5_change_16 rfl ?_
      refine go_iload_n dX5_change_17 rfl ?_
      refine go_icmp_ne dX5_change_18 (fun c18 => ?_) (fun c18 => ?_)
      · have c18n := mt (nI_eq (a := ja) (b := jb) (by omega) (by omega)).mpr c18
        refine go_aload_n dX5_change_23 rfl ?_
        refine go_get dX5_change_24 fl_X5_31_5 sc_obj hq (by omega) rfl ?_
        refine go_iload_n dX5_change_27 rfl ?_
        refine go_iald dX5_change_28 sc_3 (by omega) (by omega) (vp_in_nI (n := ja) (by show ja < 8; omega) (by decide)) ?_
        refine go_tp (z := A 4 ja) (by rw [nI_clamp (by omega)]) ?_
        refine go_istore_n (ls' := [some (.ref s), some (.int (nI ja)), some (.int (nI jb)), some (.int (A 4 ja))]) dX5_change_29 ⟨by decide, rfl, rfl⟩ ?_
        refine go_aload_n dX5_change_30 rfl ?_
        refine go_get dX5_change_31 fl_X5_31_5 sc_obj hq (by omega) rfl ?_
        refine go_iload_n dX5_change_34 rfl ?_
        refine go_aload_n dX5_change_35 rfl ?_
        refine go_get dX5_change_36 fl_X5_31_5 sc_obj hq (by omega) rfl ?_
        refine go_iload_n dX5_change_39 rfl ?_
        refine go_iald dX5_change_40 sc_3 (by omega) (by omega) (vp_in_nI (n := jb) (by show jb < 8; omega) (by decide)) ?_
        refine go_tp (z := A 4 jb) (by rw [nI_clamp (by omega)]) ?_
        refine go_iast dX5_change_41 sc_3 (by omega) (by omega) (vp_in_nI (n := ja) (by show ja < 8; omega) (by decide)) ?_
        refine go_mem (sc_set3 _ _) ?_
        rw [nI_clamp (by omega)]
        refine go_aload_n dX5_change_42 rfl ?_
        refine go_get dX5_change_43 fl_X5_31_5 sc_obj hq (by omega) rfl ?_
        refine go_iload_n dX5_change_46 rfl ?_
        refine go_iload_n dX5_change_47 rfl ?_
        refine go_iast dX5_change_48 sc_3 (by omega) (by omega) (vp_in_nI (n := jb) (by show jb < 8; omega) (by decide)) ?_
        refine go_mem (sc_set3 _ _) ?_
        rw [nI_clamp (by omega)]
        refine go_aload_n dX5_change_49 rfl ?_
        refine go_get dX5_change_50 fl_X5_31_5 sc_obj hq (by omega) rfl ?_
        refine go_iload_n dX5_change_53 rfl ?_
        refine go_iald dX5_change_54 sc_3 (by omega) (by omega) (vp_in_nI (n := ja) (by show ja < 8; omega) (by decide)) ?_
        refine go_tp (z := (upA (upA A 4 ja (A 4 jb)) 4 jb (A 4 ja)) 4 ja) (by rw [nI_clamp (by omega)]) ?_
        refine go_tp (z := A 4 jb) (by rw [upA_at, if_neg (fun z => c18 (by rw [z.2])), upA_at, if_pos ⟨rfl, rfl⟩]) ?_
        refine go_iload_n dX5_change_55 rfl ?_
        refine go_icmp_ne dX5_change_56 (fun c56 => ?_) (fun c56 => ?_)
        · refine go_iconst (v := 1) dX5_change_63 rfl ?_
          exact go_iret dX5_change_64 rfl (Nat.le_of_ble_eq_true rfl) (Nat.le_of_ble_eq_true rfl) (hQ9 ▸ ⟨rd_i (a := 1) (by simp [chR, twoS, c5, kja, c13, kjb, c18, c18n, c56, eq_comm (a := A 4 ja)]), by simp [chA, twoS, swS, c5, kja, c13, kjb, c18, c18n, c56, eq_comm (a := A 4 ja)], rfl⟩)
        · refine go_iconst (v := 0) dX5_change_59 rfl ?_
          refine go_goto dX5_change_60 ?_
          exact go_iret dX5_change_64 rfl (Nat.le_of_ble_eq_true rfl) (Nat.le_of_ble_eq_true rfl) (hQ9 ▸ ⟨rd_i (a := 0) (by simp [chR, twoS, c5, kja, c13, kjb, c18, c18n, c56, eq_comm (a := A 4 ja)]), by simp [chA, twoS, swS, c5, kja, c13, kjb, c18, c18n, c56, eq_comm (a := A 4 ja)], rfl⟩)
      · have c18n := (nI_eq (a := ja) (b := jb) (by omega) (by omega)).mp c18
        refine go_iconst (v := (-1)) dX5_change_21 rfl ?_
        exact go_iret dX5_change_22 rfl (Nat.le_of_ble_eq_true rfl) (Nat.le_of_ble_eq_true rfl) (hQ9 ▸ ⟨rd_i (a := (-1)) (by first | (simp [chR, twoS, c5, kja, c13, kjb, c18]; done) | (simp [chR, twoS, c5, kja, c13, kjb, c18, c18n]; done)), by first | (simp [chA, twoS, swS, c5, kja, c13, kjb, c18]; done) | (simp [chA, twoS, swS, c5, kja, c13, kjb, c18, c18n]; done), rfl⟩)
set_option maxHeartbeats 4000000 in
set_option maxRecDepth 100000 in
theorem e_X5_lose (hq : G.2.1 ≤ s) (hn : s + 8 ≤ n) (hM : F 1 = nI M) (hM5 : M ≤ 5) (hky : kyOK M (A 7)) {l : Int32} : Ev G mX5_lose 2 0 0 [.ref s, .int l] (sc G m0 s F W A B) n (fun r f1 n1 => r = some (.int (loR M A l)) ∧ f1 = (sc G m0 s F W (loA M A l) B) ∧ n1 = n) := by
  generalize hQ9 : (fun r f1 n1 => r = some (.int (loR M A l)) ∧ f1 = (sc G m0 s F W (loA M A l) B) ∧ n1 = n : RQ) = Q9
  refine ev_of (by decide) (Nat.le_of_ble_eq_true rfl) (ls := [some (.ref s), some (.int l)]) rfl (fun hb => ?_)
  refine go_aload_n dX5_lose_0 rfl ?_
  refine go_iload_n dX5_lose_1 rfl ?_
  refine go_Vr [.int l] [] dX5_lose_2 vl_X5_55 ⟨by decide, by decide⟩ (e_X5_hasLocker (F := F) (W := W) (A := A) (B := B) hq hn hM hM5) sc_obj hq (by omega) rfl rfl (Nat.le_of_ble_eq_true rfl) (Nat.le_of_ble_eq_true rfl) (Nat.le_of_ble_eq_true rfl) ?_
  refine go_if_ne dX5_lose_5 (fun c5 => ?_) (fun c5 => ?_)
  · have c5 := bz_t c5
    obtain ⟨jl, hjl, rfl⟩ := okp_nI c5 (by omega)
    have kjl : (nI jl).toNatClampNeg = jl := nI_clamp (by omega)
    obtain ⟨ky, hky3, eky⟩ := hky jl hjl
    have hz7 : A 7 jl = 0 ↔ ¬ 0 < A 7 jl := by
      rw [eky, n0_eq (by omega), n0_gt (by omega)]
      omega
    refine go_aload_n dX5_lose_10 rfl ?_
    refine go_get dX5_lose_11 fl_X5_43_5 sc_obj hq (by omega) rfl ?_
    refine go_iload_n dX5_lose_14 rfl ?_
    refine go_iald dX5_lose_15 sc_7 (by omega) (by omega) (vp_in_nI (n := jl) (by show jl < 5; omega) (by decide)) ?_
    refine go_tp (z := A 7 jl) (by rw [nI_clamp (by omega)]) ?_
    refine go_if_gt dX5_lose_16 (fun c16 => ?_) (fun c16 => ?_)
    · refine go_aload_n dX5_lose_22 rfl ?_
      refine go_get dX5_lose_23 fl_X5_43_5 sc_obj hq (by omega) rfl ?_
      refine go_iload_n dX5_lose_26 rfl ?_
      refine go_dup2 dX5_lose_27 rfl rfl ?_
      refine go_iald dX5_lose_28 sc_7 (by omega) (by omega) (vp_in_nI (n := jl) (by show jl < 5; omega) (by decide)) ?_
      refine go_tp (z := A 7 jl) (by rw [nI_clamp (by omega)]) ?_
      refine go_iconst (v := 1) dX5_lose_29 rfl ?_
      refine go_isub dX5_lose_30 ?_
      refine go_iast dX5_lose_31 sc_7 (by omega) (by omega) (vp_in_nI (n := jl) (by show jl < 5; omega) (by decide)) ?_
      refine go_mem (sc_set7 _ _) ?_
      rw [nI_clamp (by omega)]
      refine go_aload_n dX5_lose_32 rfl ?_
      refine go_get dX5_lose_33 fl_X5_43_5 sc_obj hq (by omega) rfl ?_
      refine go_iload_n dX5_lose_36 rfl ?_
      refine go_iald dX5_lose_37 sc_7 (by omega) (by omega) (vp_in_nI (n := jl) (by show jl < 5; omega) (by decide)) ?_
      refine go_tp (z := (upA A 7 jl ((A 7 jl) - 1)) 7 jl) (by rw [nI_clamp (by omega)]) ?_
      exact go_iret dX5_lose_38 rfl (Nat.le_of_ble_eq_true rfl) (Nat.le_of_ble_eq_true rfl) (hQ9 ▸ ⟨rd_i (a := (upA A 7 jl ((A 7 jl) - 1)) 7 jl) (by simp [loR, upA, c5, kjl, c16, hz7]), by simp [loA, c5, kjl, c16, hz7], rfl⟩)
    · refine go_bipush (v := (-3)) dX5_lose_19 rfl ?_
      exact go_iret dX5_lose_21 rfl (Nat.le_of_ble_eq_true rfl) (Nat.le_of_ble_eq_true rfl) (hQ9 ▸ ⟨rd_i (a := (-3)) (by simp [loR, upA, c5, kjl, c16, hz7]), by simp [loA, c5, kjl, c16, hz7], rfl⟩)
  · have c5 := bz_f c5
    refine go_iconst (v := (-1)) dX5_lose_8 rfl ?_
    exact go_iret dX5_lose_9 rfl (Nat.le_of_ble_eq_true rfl) (Nat.le_of_ble_eq_true rfl) (hQ9 ▸ ⟨rd_i (a := (-1)) (by simp [loR, upA, c5]), by simp [loA, c5], rfl⟩)
set_option maxHeartbeats 4000000 in
set_option maxRecDepth 100000 in
theorem e_X5_make (hq : G.2.1 ≤ s) (hn : s + 8 ≤ n) (hM : F 1 = nI M) (hM5 : M ≤ 5) {P : Int32} (hP : F 2 = P) {l : Int32} : Ev G mX5_make 2 0 0 [.ref s, .int l] (sc G m0 s F W A B) n (fun r f1 n1 => r = some (.int (maR M P l)) ∧ f1 = (sc G m0 s (if mkC M P l then upd F 2 (P + 5) else F) W (if mkC M P l then mkA A l else A) B) ∧ n1 = n) := by
  generalize hQ9 : (fun r f1 n1 => r = some (.int (maR M P l)) ∧ f1 = (sc G m0 s (if mkC M P l then upd F 2 (P + 5) else F) W (if mkC M P l then mkA A l else A) B) ∧ n1 = n : RQ) = Q9
  refine ev_of (by decide) (Nat.le_of_ble_eq_true rfl) (ls := [some (.ref s), some (.int l)]) rfl (fun hb => ?_)
  refine go_aload_n dX5_make_0 rfl ?_
  refine go_iload_n dX5_make_1 rfl ?_
  refine go_Vr [.int l] [] dX5_make_2 vl_X5_55 ⟨by decide, by decide⟩ (e_X5_hasLocker (F := F) (W := W) (A := A) (B := B) hq hn hM hM5) sc_obj hq (by omega) rfl rfl (Nat.le_of_ble_eq_true rfl) (Nat.le_of_ble_eq_true rfl) (Nat.le_of_ble_eq_true rfl) ?_
  refine go_if_ne dX5_make_5 (fun c5 => ?_) (fun c5 => ?_)
  · have c5 := bz_t c5
    obtain ⟨jl, hjl, rfl⟩ := okp_nI c5 (by omega)
    have kjl : (nI jl).toNatClampNeg = jl := nI_clamp (by omega)
    refine go_aload_n dX5_make_10 rfl ?_
    refine go_get dX5_make_11 fl_X5_18_5 sc_obj hq (by omega) rfl ?_
    refine go_tp (z := P) (hP) ?_
    refine go_iconst (v := 5) dX5_make_14 rfl ?_
    refine go_iadd dX5_make_15 ?_
    refine go_sipush (v := 9999) dX5_make_16 rfl ?_
    refine go_icmp_le dX5_make_19 (fun c19 => ?_) (fun c19 => ?_)
    · have c19 := Int32.not_lt.mpr c19
      refine go_aload_n dX5_make_25 rfl ?_
      refine go_get dX5_make_26 fl_X5_43_5 sc_obj hq (by omega) rfl ?_
      refine go_iload_n dX5_make_29 rfl ?_
      refine go_iconst (v := 2) dX5_make_30 rfl ?_
      refine go_iast dX5_make_31 sc_7 (by omega) (by omega) (vp_in_nI (n := jl) (by show jl < 5; omega) (by decide)) ?_
      refine go_mem (sc_set7 _ _) ?_
      rw [nI_clamp (by omega)]
      refine go_aload_n dX5_make_32 rfl ?_
      refine go_dup dX5_make_33 rfl ?_
      refine go_get dX5_make_34 fl_X5_18_5 sc_obj hq (by omega) rfl ?_
      refine go_tp (z := P) (hP) ?_
      refine go_iconst (v := 5) dX5_make_37 rfl ?_
      refine go_iadd dX5_make_38 ?_
      refine go_put dX5_make_39 fp_X5_18_5 (Or.inr (fun _ _ _ h => by cases h; rfl)) sc_obj hq (by omega) rfl rfl (Nat.le_of_ble_eq_true rfl) ?_
      refine go_mem (f' := (sc G m0 s (upd F 2 (P + 5)) W (upA A 7 jl (2)) B)) (sc_setF rfl) ?_
      refine go_aload_n dX5_make_42 rfl ?_
      refine go_get dX5_make_43 fl_X5_18_5 sc_obj hq (by omega) rfl ?_
      refine go_tp (z := P + 5) (rfl) ?_
      exact go_iret dX5_make_46 rfl (Nat.le_of_ble_eq_true rfl) (Nat.le_of_ble_eq_true rfl) (hQ9 ▸ ⟨rd_i (a := P + 5) (by simp [maR, mkC, mkA, c5, kjl, c19]), by simp [maR, mkC, mkA, c5, kjl, c19], rfl⟩)
    · have c19 := Int32.not_le.mp c19
      refine go_bipush (v := (-3)) dX5_make_22 rfl ?_
      exact go_iret dX5_make_24 rfl (Nat.le_of_ble_eq_true rfl) (Nat.le_of_ble_eq_true rfl) (hQ9 ▸ ⟨rd_i (a := (-3)) (by simp [maR, mkC, mkA, c5, kjl, c19]), by simp [maR, mkC, mkA, c5, kjl, c19], rfl⟩)
  · have c5 := bz_f c5
    refine go_iconst (v := (-1)) dX5_make_8 rfl ?_
    exact go_iret dX5_make_9 rfl (Nat.le_of_ble_eq_true rfl) (Nat.le_of_ble_eq_true rfl) (hQ9 ▸ ⟨rd_i (a := (-1)) (by simp [maR, mkC, mkA, c5]), by simp [maR, mkC, mkA, c5], rfl⟩)
set_option maxHeartbeats 4000000 in
set_option maxRecDepth 100000 in
theorem e_X5_allKeys (hq : G.2.1 ≤ s) (hn : s + 8 ≤ n) (hM : F 1 = nI M) (hM5 : M ≤ 5) : Ev G mX5_allKeys 1 0 0 [.ref s] (sc G m0 s F W A B) n (RD (.int (smS (A 7) M)) (sc G m0 s F W A B) n) := by
  generalize hQ9 : (RD (.int (smS (A 7) M)) (sc G m0 s F W A B) n : RQ) = Q9
  refine ev_of (by decide) (Nat.le_of_ble_eq_true rfl) (ls := [some (.ref s), none, none]) rfl (fun hb => ?_)
  refine go_iconst (v := 0) dX5_allKeys_0 rfl ?_
  refine go_istore_n (ls' := [some (.ref s), some (.int 0), none]) dX5_allKeys_1 ⟨by decide, rfl, rfl⟩ ?_
  refine go_iconst (v := 0) dX5_allKeys_2 rfl ?_
  refine go_istore_n (ls' := [some (.ref s), some (.int 0), some (.int 0)]) dX5_allKeys_3 ⟨by decide, rfl, rfl⟩ ?_
  have lp0 : ∀ (μ_lp0 : Nat) (i : Nat) (x : Int32) (hi : i ≤ M) (hmi : M + 1 ≤ i + μ_lp0) (hx : x = smS (A 7) i), Go G mX5_allKeys 1 0 0 Q9 0 0 4 [some (.ref s), some (.int x), some (.int (nI i))] [] (sc G m0 s F W A B) n := by
    intro μ_lp0
    induction μ_lp0 with
    | zero =>
      intro i x hi hmi hx
      exact absurd hmi (by omega)
    | succ μ_lp0 ih_lp0 =>
      intro i x hi hmi hx
      refine go_iload_n dX5_allKeys_4 rfl ?_
      refine go_aload_n dX5_allKeys_5 rfl ?_
      refine go_get dX5_allKeys_6 fl_X5_15_5 sc_obj hq (by omega) rfl ?_
      refine go_tp (z := nI M) (hM) ?_
      refine go_icmp_ge dX5_allKeys_9 (fun c9 => ?_) (fun c9 => ?_)
      · have c9n := (nI_leI (a := M) (b := i) (by omega) (by omega)).mp c9
        have c9n := Nat.not_lt.mpr c9n
        have c9 := Int32.not_lt.mpr c9
        refine go_iload_n dX5_allKeys_27 rfl ?_
        exact go_iret dX5_allKeys_28 rfl (Nat.le_of_ble_eq_true rfl) (Nat.le_of_ble_eq_true rfl) (hQ9 ▸ ⟨rd_i (by rw [hx, show i = M by omega]), rfl, rfl⟩)
      · have c9n := mt (nI_leI (a := M) (b := i) (by omega) (by omega)).mpr c9
        have c9n := Nat.lt_of_not_le c9n
        have c9 := Int32.not_le.mp c9
        refine go_iload_n dX5_allKeys_12 rfl ?_
        refine go_aload_n dX5_allKeys_13 rfl ?_
        refine go_get dX5_allKeys_14 fl_X5_43_5 sc_obj hq (by omega) rfl ?_
        refine go_iload_n dX5_allKeys_17 rfl ?_
        refine go_iald dX5_allKeys_18 sc_7 (by omega) (by omega) (vp_in_nI (n := i) (by show i < 5; omega) (by decide)) ?_
        refine go_tp (z := A 7 i) (by rw [nI_clamp (by omega)]) ?_
        refine go_iadd dX5_allKeys_19 ?_
        refine go_istore_n (ls' := [some (.ref s), some (.int (x + (A 7 i))), some (.int (nI i))]) dX5_allKeys_20 ⟨by decide, rfl, rfl⟩ ?_
        refine go_iinc (v := nI (i + 1)) (ls' := [some (.ref s), some (.int (x + (A 7 i))), some (.int (nI (i + 1)))]) dX5_allKeys_21 rfl (nI_1 (i)) ⟨by decide, rfl, rfl⟩ ?_
        refine go_goto dX5_allKeys_24 ?_
        exact ih_lp0 (i + 1) _ (by omega) (by omega) (by simp [hx, smS, c9, c9n])
  exact lp0 (M + 1) 0 _ (Nat.zero_le _) (by omega) (rfl)
set_option maxHeartbeats 4000000 in
set_option maxRecDepth 100000 in
theorem e_X5_whoIsInNone (hq : G.2.1 ≤ s) (hn : s + 8 ≤ n) (hN : F 0 = nI N) (hN8 : N ≤ 8) : Ev G mX5_whoIsInNone 1 0 0 [.ref s] (sc G m0 s F W A B) n (RD (.int (btB (fun p => decide (A 4 p = 9)) N)) (sc G m0 s F W A B) n) := by
  generalize hQ9 : (RD (.int (btB (fun p => decide (A 4 p = 9)) N)) (sc G m0 s F W A B) n : RQ) = Q9
  refine ev_of (by decide) (Nat.le_of_ble_eq_true rfl) (ls := [some (.ref s), none, none]) rfl (fun hb => ?_)
  refine go_iconst (v := 0) dX5_whoIsInNone_0 rfl ?_
  refine go_istore_n (ls' := [some (.ref s), some (.int 0), none]) dX5_whoIsInNone_1 ⟨by decide, rfl, rfl⟩ ?_
  refine go_iconst (v := 0) dX5_whoIsInNone_2 rfl ?_
  refine go_istore_n (ls' := [some (.ref s), some (.int 0), some (.int 0)]) dX5_whoIsInNone_3 ⟨by decide, rfl, rfl⟩ ?_
  have lp0 : ∀ (μ_lp0 : Nat) (i : Nat) (x : Int32) (hi : i ≤ N) (hmi : N + 1 ≤ i + μ_lp0) (hx : x = btB (fun p => decide (A 4 p = 9)) i), Go G mX5_whoIsInNone 1 0 0 Q9 0 0 4 [some (.ref s), some (.int x), some (.int (nI i))] [] (sc G m0 s F W A B) n := by
    intro μ_lp0
    induction μ_lp0 with
    | zero =>
      intro i x hi hmi hx
      exact absurd hmi (by omega)
    | succ μ_lp0 ih_lp0 =>
      intro i x hi hmi hx
      refine go_iload_n dX5_whoIsInNone_4 rfl ?_
      refine go_aload_n dX5_whoIsInNone_5 rfl ?_
      refine go_get dX5_whoIsInNone_6 fl_X5_9_5 sc_obj hq (by omega) rfl ?_
      refine go_tp (z := nI N) (hN) ?_
      refine go_icmp_ge dX5_whoIsInNone_9 (fun c9 => ?_) (fun c9 => ?_)
      · have c9n := (nI_leI (a := N) (b := i) (by omega) (by omega)).mp c9
        have c9n := Nat.not_lt.mpr c9n
        have c9 := Int32.not_lt.mpr c9
        refine go_iload_n dX5_whoIsInNone_35 rfl ?_
        exact go_iret dX5_whoIsInNone_36 rfl (Nat.le_of_ble_eq_true rfl) (Nat.le_of_ble_eq_true rfl) (hQ9 ▸ ⟨rd_i (by rw [hx, show i = N by omega]), rfl, rfl⟩)
      · have c9n := mt (nI_leI (a := N) (b := i) (by omega) (by omega)).mpr c9
        have c9n := Nat.lt_of_not_le c9n
        have c9 := Int32.not_le.mp c9
        refine go_aload_n dX5_whoIsInNone_12 rfl ?_
        refine go_get dX5_whoIsInNone_13 fl_X5_31_5 sc_obj hq (by omega) rfl ?_
        refine go_iload_n dX5_whoIsInNone_16 rfl ?_
        refine go_iald dX5_whoIsInNone_17 sc_3 (by omega) (by omega) (vp_in_nI (n := i) (by show i < 8; omega) (by decide)) ?_
        refine go_tp (z := A 4 i) (by rw [nI_clamp (by omega)]) ?_
        refine go_bipush (v := 9) dX5_whoIsInNone_18 rfl ?_
        refine go_icmp_ne dX5_whoIsInNone_20 (fun c20 => ?_) (fun c20 => ?_)
        · refine go_iinc (v := nI (i + 1)) (ls' := [some (.ref s), some (.int x), some (.int (nI (i + 1)))]) dX5_whoIsInNone_29 rfl (nI_1 (i)) ⟨by decide, rfl, rfl⟩ ?_
          refine go_goto dX5_whoIsInNone_32 ?_
          exact ih_lp0 (i + 1) _ (by omega) (by omega) (by simp [hx, btB, c9, c9n, c20])
        · refine go_iload_n dX5_whoIsInNone_23 rfl ?_
          refine go_iconst (v := 1) dX5_whoIsInNone_24 rfl ?_
          refine go_iload_n dX5_whoIsInNone_25 rfl ?_
          refine go_ishl dX5_whoIsInNone_26 ?_
          refine go_ior dX5_whoIsInNone_27 ?_
          refine go_istore_n (ls' := [some (.ref s), some (.int (x ||| ((1) <<< ((nI i) &&& 31)))), some (.int (nI i))]) dX5_whoIsInNone_28 ⟨by decide, rfl, rfl⟩ ?_
          refine go_iinc (v := nI (i + 1)) (ls' := [some (.ref s), some (.int (x ||| ((1) <<< ((nI i) &&& 31)))), some (.int (nI (i + 1)))]) dX5_whoIsInNone_29 rfl (nI_1 (i)) ⟨by decide, rfl, rfl⟩ ?_
          refine go_goto dX5_whoIsInNone_32 ?_
          exact ih_lp0 (i + 1) _ (by omega) (by omega) (by simp [hx, btB, c9, c9n, c20])
  exact lp0 (N + 1) 0 _ (Nat.zero_le _) (by omega) (rfl)
set_option maxHeartbeats 4000000 in
set_option maxRecDepth 100000 in
theorem e_X5_allRoom (hq : G.2.1 ≤ s) (hn : s + 8 ≤ n) (hN : F 0 = nI N) (hN8 : N ≤ 8) (hw : whoOK G m0 s n W A) : Ev G mX5_allRoom 4 0 0 [.ref s] (sc G m0 s F W A B) n (RD (.int (smS (fun p => roomS (A 1 p)) N)) (sc G m0 s F W A B) n) := by
  generalize hQ9 : (RD (.int (smS (fun p => roomS (A 1 p)) N)) (sc G m0 s F W A B) n : RQ) = Q9
  refine ev_of (by decide) (Nat.le_of_ble_eq_true rfl) (ls := [some (.ref s), none, none]) rfl (fun hb => ?_)
  refine go_iconst (v := 0) dX5_allRoom_0 rfl ?_
  refine go_istore_n (ls' := [some (.ref s), some (.int 0), none]) dX5_allRoom_1 ⟨by decide, rfl, rfl⟩ ?_
  refine go_iconst (v := 0) dX5_allRoom_2 rfl ?_
  refine go_istore_n (ls' := [some (.ref s), some (.int 0), some (.int 0)]) dX5_allRoom_3 ⟨by decide, rfl, rfl⟩ ?_
  have lp0 : ∀ (μ_lp0 : Nat) (i : Nat) (x : Int32) (hi : i ≤ N) (hmi : N + 1 ≤ i + μ_lp0) (hx : x = smS (fun p => roomS (A 1 p)) i), Go G mX5_allRoom 4 0 0 Q9 0 0 4 [some (.ref s), some (.int x), some (.int (nI i))] [] (sc G m0 s F W A B) n := by
    intro μ_lp0
    induction μ_lp0 with
    | zero =>
      intro i x hi hmi hx
      exact absurd hmi (by omega)
    | succ μ_lp0 ih_lp0 =>
      intro i x hi hmi hx
      refine go_iload_n dX5_allRoom_4 rfl ?_
      refine go_aload_n dX5_allRoom_5 rfl ?_
      refine go_get dX5_allRoom_6 fl_X5_9_5 sc_obj hq (by omega) rfl ?_
      refine go_tp (z := nI N) (hN) ?_
      refine go_icmp_ge dX5_allRoom_9 (fun c9 => ?_) (fun c9 => ?_)
      · have c9n := (nI_leI (a := N) (b := i) (by omega) (by omega)).mp c9
        have c9n := Nat.not_lt.mpr c9n
        have c9 := Int32.not_lt.mpr c9
        refine go_iload_n dX5_allRoom_30 rfl ?_
        exact go_iret dX5_allRoom_31 rfl (Nat.le_of_ble_eq_true rfl) (Nat.le_of_ble_eq_true rfl) (hQ9 ▸ ⟨rd_i (by rw [hx, show i = N by omega]), rfl, rfl⟩)
      · have c9n := mt (nI_leI (a := N) (b := i) (by omega) (by omega)).mpr c9
        have c9n := Nat.lt_of_not_le c9n
        have c9 := Int32.not_le.mp c9
        refine go_iload_n dX5_allRoom_12 rfl ?_
        refine go_aload_n dX5_allRoom_13 rfl ?_
        refine go_get dX5_allRoom_14 fl_X5_23_5 sc_obj hq (by omega) rfl ?_
        refine go_iload_n dX5_allRoom_17 rfl ?_
        obtain ⟨w18, ew18, hw18⟩ := who_at hw i (by omega)
        refine go_oald dX5_allRoom_18 sc_1 (by omega) (by omega) (vp_in_nI (n := i) (by show i < 8; omega) (by decide)) ?_
        refine go_tv (w := .ref w18) (by rw [nI_clamp (by omega), ew18]; rfl) ?_
        refine go1_X5_room hw18 dX5_allRoom_19 rfl (by omega) (Nat.le_of_ble_eq_true rfl) (Nat.le_of_ble_eq_true rfl) (Nat.le_of_ble_eq_true rfl) ?_
        refine go_iadd dX5_allRoom_22 ?_
        refine go_istore_n (ls' := [some (.ref s), some (.int (x + (roomS (A 1 i)))), some (.int (nI i))]) dX5_allRoom_23 ⟨by decide, rfl, rfl⟩ ?_
        refine go_iinc (v := nI (i + 1)) (ls' := [some (.ref s), some (.int (x + (roomS (A 1 i)))), some (.int (nI (i + 1)))]) dX5_allRoom_24 rfl (nI_1 (i)) ⟨by decide, rfl, rfl⟩ ?_
        refine go_goto dX5_allRoom_27 ?_
        exact ih_lp0 (i + 1) _ (by omega) (by omega) (by simp [hx, smS, c9, c9n])
  exact lp0 (N + 1) 0 _ (Nat.zero_le _) (by omega) (rfl)
set_option maxHeartbeats 4000000 in
set_option maxRecDepth 100000 in
theorem e_X5_lockersWith (hq : G.2.1 ≤ s) (hn : s + 8 ≤ n) (hN : F 0 = nI N) (hN8 : N ≤ 8) (hM : F 1 = nI M) (hM5 : M ≤ 5) {z : Int32} : Ev G mX5_lockersWith 2 0 0 [.ref s, .int z] (sc G m0 s F W A B) n (RD (.int (btB (fun l => decide (inS N (A 4) (nI l) = z)) M)) (sc G m0 s F W A B) n) := by
  generalize hQ9 : (RD (.int (btB (fun l => decide (inS N (A 4) (nI l) = z)) M)) (sc G m0 s F W A B) n : RQ) = Q9
  refine ev_of (by decide) (Nat.le_of_ble_eq_true rfl) (ls := [some (.ref s), some (.int z), none, none]) rfl (fun hb => ?_)
  refine go_iconst (v := 0) dX5_lockersWith_0 rfl ?_
  refine go_istore_n (ls' := [some (.ref s), some (.int z), some (.int 0), none]) dX5_lockersWith_1 ⟨by decide, rfl, rfl⟩ ?_
  refine go_iconst (v := 0) dX5_lockersWith_2 rfl ?_
  refine go_istore_n (ls' := [some (.ref s), some (.int z), some (.int 0), some (.int 0)]) dX5_lockersWith_3 ⟨by decide, rfl, rfl⟩ ?_
  have lp0 : ∀ (μ_lp0 : Nat) (i : Nat) (x : Int32) (hi : i ≤ M) (hmi : M + 1 ≤ i + μ_lp0) (hx : x = btB (fun l => decide (inS N (A 4) (nI l) = z)) i), Go G mX5_lockersWith 2 0 0 Q9 0 0 4 [some (.ref s), some (.int z), some (.int x), some (.int (nI i))] [] (sc G m0 s F W A B) n := by
    intro μ_lp0
    induction μ_lp0 with
    | zero =>
      intro i x hi hmi hx
      exact absurd hmi (by omega)
    | succ μ_lp0 ih_lp0 =>
      intro i x hi hmi hx
      refine go_iload_n dX5_lockersWith_4 rfl ?_
      refine go_aload_n dX5_lockersWith_5 rfl ?_
      refine go_get dX5_lockersWith_6 fl_X5_15_5 sc_obj hq (by omega) rfl ?_
      refine go_tp (z := nI M) (hM) ?_
      refine go_icmp_ge dX5_lockersWith_9 (fun c9 => ?_) (fun c9 => ?_)
      · have c9n := (nI_leI (a := M) (b := i) (by omega) (by omega)).mp c9
        have c9n := Nat.not_lt.mpr c9n
        have c9 := Int32.not_lt.mpr c9
        refine go_iload_n dX5_lockersWith_33 rfl ?_
        exact go_iret dX5_lockersWith_34 rfl (Nat.le_of_ble_eq_true rfl) (Nat.le_of_ble_eq_true rfl) (hQ9 ▸ ⟨rd_i (by rw [hx, show i = M by omega]), rfl, rfl⟩)
      · have c9n := mt (nI_leI (a := M) (b := i) (by omega) (by omega)).mpr c9
        have c9n := Nat.lt_of_not_le c9n
        have c9 := Int32.not_le.mp c9
        refine go_aload_n dX5_lockersWith_12 rfl ?_
        refine go_iload_n dX5_lockersWith_13 rfl ?_
        refine go_Vr [.int (nI i)] [] dX5_lockersWith_14 vl_X5_115 ⟨by decide, by decide⟩ (e_X5_howManyIn (F := F) (W := W) (A := A) (B := B) hq hn hN hN8) sc_obj hq (by omega) rfl rfl (Nat.le_of_ble_eq_true rfl) (Nat.le_of_ble_eq_true rfl) (Nat.le_of_ble_eq_true rfl) ?_
        refine go_iload_n dX5_lockersWith_17 rfl ?_
        refine go_icmp_ne dX5_lockersWith_18 (fun c18 => ?_) (fun c18 => ?_)
        · refine go_iinc (v := nI (i + 1)) (ls' := [some (.ref s), some (.int z), some (.int x), some (.int (nI (i + 1)))]) dX5_lockersWith_27 rfl (nI_1 (i)) ⟨by decide, rfl, rfl⟩ ?_
          refine go_goto dX5_lockersWith_30 ?_
          exact ih_lp0 (i + 1) _ (by omega) (by omega) (by simp [hx, btB, c9, c9n, c18])
        · refine go_iload_n dX5_lockersWith_21 rfl ?_
          refine go_iconst (v := 1) dX5_lockersWith_22 rfl ?_
          refine go_iload_n dX5_lockersWith_23 rfl ?_
          refine go_ishl dX5_lockersWith_24 ?_
          refine go_ior dX5_lockersWith_25 ?_
          refine go_istore_n (ls' := [some (.ref s), some (.int z), some (.int (x ||| ((1) <<< ((nI i) &&& 31)))), some (.int (nI i))]) dX5_lockersWith_26 ⟨by decide, rfl, rfl⟩ ?_
          refine go_iinc (v := nI (i + 1)) (ls' := [some (.ref s), some (.int z), some (.int (x ||| ((1) <<< ((nI i) &&& 31)))), some (.int (nI (i + 1)))]) dX5_lockersWith_27 rfl (nI_1 (i)) ⟨by decide, rfl, rfl⟩ ?_
          refine go_goto dX5_lockersWith_30 ?_
          exact ih_lp0 (i + 1) _ (by omega) (by omega) (by simp [hx, btB, c9, c9n, c18])
  exact lp0 (M + 1) 0 _ (Nat.zero_le _) (by omega) (rfl)
set_option maxHeartbeats 4000000 in
set_option maxRecDepth 100000 in
theorem e_X5_lockersWanted (hq : G.2.1 ≤ s) (hn : s + 8 ≤ n) (hN : F 0 = nI N) (hN8 : N ≤ 8) {h : Nat} (hh : h < 6) : Ev G mX5_lockersWanted 1 0 0 [.ref s, .int (nI h)] (sc G m0 s F W A B) n (RD (.int (wantS N A h)) (sc G m0 s F W A B) n) := by
  generalize hQ9 : (RD (.int (wantS N A h)) (sc G m0 s F W A B) n : RQ) = Q9
  refine ev_of (by decide) (Nat.le_of_ble_eq_true rfl) (ls := [some (.ref s), some (.int (nI h)), none, none]) rfl (fun hb => ?_)
  refine go_iconst (v := 0) dX5_lockersWanted_0 rfl ?_
  refine go_istore_n (ls' := [some (.ref s), some (.int (nI h)), some (.int 0), none]) dX5_lockersWanted_1 ⟨by decide, rfl, rfl⟩ ?_
  refine go_iconst (v := 0) dX5_lockersWanted_2 rfl ?_
  refine go_istore_n (ls' := [some (.ref s), some (.int (nI h)), some (.int 0), some (.int 0)]) dX5_lockersWanted_3 ⟨by decide, rfl, rfl⟩ ?_
  have lp0 : ∀ (μ_lp0 : Nat) (i j : Nat) (hi : i ≤ N) (hmi : N + 1 ≤ i + μ_lp0) (hji : j ≤ i) (hx : nI j = cnS (fun p => decide (A 3 p = nI h)) i), Go G mX5_lockersWanted 1 0 0 Q9 0 0 4 [some (.ref s), some (.int (nI h)), some (.int (nI j)), some (.int (nI i))] [] (sc G m0 s F W A B) n := by
    intro μ_lp0
    induction μ_lp0 with
    | zero =>
      intro i j hi hmi hji hx
      exact absurd hmi (by omega)
    | succ μ_lp0 ih_lp0 =>
      intro i j hi hmi hji hx
      refine go_iload_n dX5_lockersWanted_4 rfl ?_
      refine go_aload_n dX5_lockersWanted_5 rfl ?_
      refine go_get dX5_lockersWanted_6 fl_X5_9_5 sc_obj hq (by omega) rfl ?_
      refine go_tp (z := nI N) (hN) ?_
      refine go_icmp_ge dX5_lockersWanted_9 (fun c9 => ?_) (fun c9 => ?_)
      · have c9n := (nI_leI (a := N) (b := i) (by omega) (by omega)).mp c9
        have c9n := Nat.not_lt.mpr c9n
        have c9 := Int32.not_lt.mpr c9
        refine go_iload_n dX5_lockersWanted_31 rfl ?_
        refine go_iconst (v := 2) dX5_lockersWanted_32 rfl ?_
        refine go_iadd dX5_lockersWanted_33 ?_
        refine go_tp (z := nI (j + 2)) (nI_add j 2) ?_
        refine go_iconst (v := 1) dX5_lockersWanted_34 rfl ?_
        refine go_isub dX5_lockersWanted_35 ?_
        refine go_tp (z := nI (j + 1)) (nI_pred (j + 1)) ?_
        refine go_iconst (v := 2) dX5_lockersWanted_36 rfl ?_
        refine go_idiv dX5_lockersWanted_37 (by decide) ?_
        refine go_tp (z := nI ((j + 1) / 2)) (pk_div (a := j + 1) (d := 2) (by omega) (by omega) (by omega)) ?_
        exact go_iret dX5_lockersWanted_38 rfl (Nat.le_of_ble_eq_true rfl) (Nat.le_of_ble_eq_true rfl) (hQ9 ▸ ⟨rd_i (by unfold wantS; rw [show N = i by omega, ← hx, nI_1]; exact (pk_div (a := j + 1) (d := 2) (by omega) (by omega) (by omega)).symm), rfl, rfl⟩)
      · have c9n := mt (nI_leI (a := N) (b := i) (by omega) (by omega)).mpr c9
        have c9n := Nat.lt_of_not_le c9n
        have c9 := Int32.not_le.mp c9
        refine go_aload_n dX5_lockersWanted_12 rfl ?_
        refine go_get dX5_lockersWanted_13 fl_X5_27_5 sc_obj hq (by omega) rfl ?_
        refine go_iload_n dX5_lockersWanted_16 rfl ?_
        refine go_iald dX5_lockersWanted_17 sc_2 (by omega) (by omega) (vp_in_nI (n := i) (by show i < 8; omega) (by decide)) ?_
        refine go_tp (z := A 3 i) (by rw [nI_clamp (by omega)]) ?_
        refine go_iload_n dX5_lockersWanted_18 rfl ?_
        refine go_icmp_ne dX5_lockersWanted_19 (fun c19 => ?_) (fun c19 => ?_)
        · refine go_iinc (v := nI (i + 1)) (ls' := [some (.ref s), some (.int (nI h)), some (.int (nI j)), some (.int (nI (i + 1)))]) dX5_lockersWanted_25 rfl (nI_1 (i)) ⟨by decide, rfl, rfl⟩ ?_
          refine go_goto dX5_lockersWanted_28 ?_
          exact ih_lp0 (i + 1) j (by omega) (by omega) (by omega) (by unfold cnS; rw [← hx]; simp [c19])
        · refine go_iinc (v := nI (j + 1)) (ls' := [some (.ref s), some (.int (nI h)), some (.int (nI (j + 1))), some (.int (nI i))]) dX5_lockersWanted_22 rfl (nI_1 (j)) ⟨by decide, rfl, rfl⟩ ?_
          refine go_iinc (v := nI (i + 1)) (ls' := [some (.ref s), some (.int (nI h)), some (.int (nI (j + 1))), some (.int (nI (i + 1)))]) dX5_lockersWanted_25 rfl (nI_1 (i)) ⟨by decide, rfl, rfl⟩ ?_
          refine go_goto dX5_lockersWanted_28 ?_
          exact ih_lp0 (i + 1) (j + 1) (by omega) (by omega) (by omega) (by unfold cnS; rw [← hx]; simp [c19, ← nI_1])
  exact lp0 (N + 1) 0 0 (Nat.zero_le _) (by omega) (Nat.zero_le _) rfl
set_option maxHeartbeats 4000000 in
set_option maxRecDepth 100000 in
theorem e_X5_fullestHour (hq : G.2.1 ≤ s) (hn : s + 8 ≤ n) (hN : F 0 = nI N) (hN8 : N ≤ 8) : Ev G mX5_fullestHour 2 0 0 [.ref s] (sc G m0 s F W A B) n (RD (.int (nI (fhB N A 5))) (sc G m0 s F W A B) n) := by
  generalize hQ9 : (RD (.int (nI (fhB N A 5))) (sc G m0 s F W A B) n : RQ) = Q9
  refine ev_of (by decide) (Nat.le_of_ble_eq_true rfl) (ls := [some (.ref s), none, none]) rfl (fun hb => ?_)
  refine go_iconst (v := 0) dX5_fullestHour_0 rfl ?_
  refine go_istore_n (ls' := [some (.ref s), some (.int 0), none]) dX5_fullestHour_1 ⟨by decide, rfl, rfl⟩ ?_
  refine go_iconst (v := 1) dX5_fullestHour_2 rfl ?_
  refine go_istore_n (ls' := [some (.ref s), some (.int 0), some (.int 1)]) dX5_fullestHour_3 ⟨by decide, rfl, rfl⟩ ?_
  have lp0 : ∀ (μ_lp0 : Nat) (i : Nat) (h0 : 1 ≤ i) (hi : i ≤ 6) (hmi : 7 ≤ i + μ_lp0), Go G mX5_fullestHour 2 0 0 Q9 0 0 4 [some (.ref s), some (.int (nI (fhB N A (i - 1)))), some (.int (nI i))] [] (sc G m0 s F W A B) n := by
    intro μ_lp0
    induction μ_lp0 with
    | zero =>
      intro i h0 hi hmi
      exact absurd hmi (by omega)
    | succ μ_lp0 ih_lp0 =>
      intro i h0 hi hmi
      have hfl := fhB_le (N := N) (A := A) (i - 1)
      refine go_iload_n dX5_fullestHour_4 rfl ?_
      refine go_iconst (v := 5) dX5_fullestHour_5 rfl ?_
      refine go_icmp_gt dX5_fullestHour_6 (fun c6 => ?_) (fun c6 => ?_)
      · have c6n := (nI_ltI (a := 5) (b := i) (by omega) (by omega)).mp c6
        refine go_iload_n dX5_fullestHour_30 rfl ?_
        exact go_iret dX5_fullestHour_31 rfl (Nat.le_of_ble_eq_true rfl) (Nat.le_of_ble_eq_true rfl) (hQ9 ▸ ⟨rd_i (by rw [show i = 6 by omega]), rfl, rfl⟩)
      · have c6n := mt (nI_ltI (a := 5) (b := i) (by omega) (by omega)).mpr c6
        refine go_aload_n dX5_fullestHour_9 rfl ?_
        refine go_iload_n dX5_fullestHour_10 rfl ?_
        refine go_Vr [.int (nI i)] [] dX5_fullestHour_11 vl_X5_158 ⟨by decide, by decide⟩ (e_X5_lockersWanted (F := F) (W := W) (A := A) (B := B) hq hn hN hN8 (by omega)) sc_obj hq (by omega) rfl rfl (Nat.le_of_ble_eq_true rfl) (Nat.le_of_ble_eq_true rfl) (Nat.le_of_ble_eq_true rfl) ?_
        refine go_aload_n dX5_fullestHour_14 rfl ?_
        refine go_iload_n dX5_fullestHour_15 rfl ?_
        refine go_Vr [.int (nI (fhB N A (i - 1)))] [.int (wantS N A i)] dX5_fullestHour_16 vl_X5_158 ⟨by decide, by decide⟩ (e_X5_lockersWanted (F := F) (W := W) (A := A) (B := B) hq hn hN hN8 (by omega)) sc_obj hq (by omega) rfl rfl (Nat.le_of_ble_eq_true rfl) (Nat.le_of_ble_eq_true rfl) (Nat.le_of_ble_eq_true rfl) ?_
        refine go_icmp_le dX5_fullestHour_19 (fun c19 => ?_) (fun c19 => ?_)
        · have c19 := Int32.not_lt.mpr c19
          refine go_iinc (v := nI (i + 1)) (ls' := [some (.ref s), some (.int (nI (fhB N A (i - 1)))), some (.int (nI (i + 1)))]) dX5_fullestHour_24 rfl (nI_1 (i)) ⟨by decide, rfl, rfl⟩ ?_
          refine go_goto dX5_fullestHour_27 ?_
          obtain ⟨g, rfl⟩ : ∃ g, i = g + 1 := ⟨i - 1, by omega⟩
          have hfs : fhB N A (g + 1) = fhB N A g := by
            show (if wantS N A (fhB N A g) < wantS N A (g + 1) then g + 1 else fhB N A g) = _
            exact if_neg c19
          refine go_ls (ls' := [some (.ref s), some (.int (nI (fhB N A (g + 1 + 1 - 1)))), some (.int (nI (g + 1 + 1)))]) (by rw [show fhB N A (g + 1 + 1 - 1) = fhB N A g from hfs]; try rfl) ?_
          exact ih_lp0 (g + 1 + 1) (by omega) (by omega) (by omega)
        · have c19 := Int32.not_le.mp c19
          refine go_iload_n dX5_fullestHour_22 rfl ?_
          refine go_istore_n (ls' := [some (.ref s), some (.int (nI i)), some (.int (nI i))]) dX5_fullestHour_23 ⟨by decide, rfl, rfl⟩ ?_
          refine go_iinc (v := nI (i + 1)) (ls' := [some (.ref s), some (.int (nI i)), some (.int (nI (i + 1)))]) dX5_fullestHour_24 rfl (nI_1 (i)) ⟨by decide, rfl, rfl⟩ ?_
          refine go_goto dX5_fullestHour_27 ?_
          obtain ⟨g, rfl⟩ : ∃ g, i = g + 1 := ⟨i - 1, by omega⟩
          have hfs : fhB N A (g + 1) = g + 1 := by
            show (if wantS N A (fhB N A g) < wantS N A (g + 1) then g + 1 else fhB N A g) = _
            exact if_pos c19
          refine go_ls (ls' := [some (.ref s), some (.int (nI (fhB N A (g + 1 + 1 - 1)))), some (.int (nI (g + 1 + 1)))]) (by rw [show fhB N A (g + 1 + 1 - 1) = g + 1 from hfs]; try rfl) ?_
          exact ih_lp0 (g + 1 + 1) (by omega) (by omega) (by omega)
  exact lp0 6 1 (by omega) (by omega) (by omega)
theorem enS_i {N : Nat} {A : Nat → Nat → Int32} {p o : Nat} : enS N A p o = true ↔ ctS N A p < cpS A p (A 4 o) (mateS N (A 4) o) := decide_eq_true_iff
set_option maxHeartbeats 4000000 in
set_option maxRecDepth 100000 in
theorem e_X5_envyOf (hq : G.2.1 ≤ s) (hn : s + 8 ≤ n) (hN : F 0 = nI N) (hN8 : N ≤ 8) (hM : F 1 = nI M) (hM5 : M ≤ 5) (hbe : ∀ a b, a < N → b < N → B (a * 8 + b) = brS A a b) (hw : whoOK G m0 s n W A) (hab : ∀ l, l < M → A 6 l = 0 ∨ A 6 l = 1) (hI : insOK N M (A 4)) {p : Nat} (hp : p < N) : Ev G mX5_envyOf 5 0 0 [.ref s, .int (nI p)] (sc G m0 s F W A B) n (RD (.int (evS N A p)) (sc G m0 s F W A B) n) := by
  generalize hQ9 : (RD (.int (evS N A p)) (sc G m0 s F W A B) n : RQ) = Q9
  refine ev_of (by decide) (Nat.le_of_ble_eq_true rfl) (ls := [some (.ref s), some (.int (nI p)), none, none, none]) rfl (fun hb => ?_)
  refine go_aload_n dX5_envyOf_0 rfl ?_
  refine go_iload_n dX5_envyOf_1 rfl ?_
  refine go_Vr [.int (nI p)] [] dX5_envyOf_2 vl_X5_124 ⟨by decide, by decide⟩ (e_X5_mateOf (F := F) (W := W) (A := A) (B := B) hq hn hN hN8 (by omega)) sc_obj hq (by omega) rfl rfl (Nat.le_of_ble_eq_true rfl) (Nat.le_of_ble_eq_true rfl) (Nat.le_of_ble_eq_true rfl) ?_
  refine go_istore_n (ls' := [some (.ref s), some (.int (nI p)), some (.int (mateS N (A 4) p)), none, none]) dX5_envyOf_5 ⟨by decide, rfl, rfl⟩ ?_
  refine go_iconst (v := 0) dX5_envyOf_6 rfl ?_
  refine go_istore_n (ls' := [some (.ref s), some (.int (nI p)), some (.int (mateS N (A 4) p)), some (.int 0), none]) dX5_envyOf_7 ⟨by decide, rfl, rfl⟩ ?_
  refine go_iconst (v := 0) dX5_envyOf_8 rfl ?_
  refine go_istore (ls' := [some (.ref s), some (.int (nI p)), some (.int (mateS N (A 4) p)), some (.int 0), some (.int 0)]) dX5_envyOf_9 ⟨by decide, rfl, rfl⟩ ?_
  have lp0 : ∀ (μ_lp0 : Nat) (i j : Nat) (hi : i ≤ N) (hmi : N + 1 ≤ i + μ_lp0) (hji : j ≤ i) (hx : nI j = cnS (evP N A p) i), Go G mX5_envyOf 5 0 0 Q9 0 0 11 [some (.ref s), some (.int (nI p)), some (.int (mateS N (A 4) p)), some (.int (nI j)), some (.int (nI i))] [] (sc G m0 s F W A B) n := by
    intro μ_lp0
    induction μ_lp0 with
    | zero =>
      intro i j hi hmi hji hx
      exact absurd hmi (by omega)
    | succ μ_lp0 ih_lp0 =>
      intro i j hi hmi hji hx
      refine go_iload dX5_envyOf_11 rfl ?_
      refine go_aload_n dX5_envyOf_13 rfl ?_
      refine go_get dX5_envyOf_14 fl_X5_9_5 sc_obj hq (by omega) rfl ?_
      refine go_tp (z := nI N) (hN) ?_
      refine go_icmp_ge dX5_envyOf_17 (fun c17 => ?_) (fun c17 => ?_)
      · have c17n := (nI_leI (a := N) (b := i) (by omega) (by omega)).mp c17
        have c17n := Nat.not_lt.mpr c17n
        have c17 := Int32.not_lt.mpr c17
        refine go_iload_n dX5_envyOf_51 rfl ?_
        exact go_iret dX5_envyOf_52 rfl (Nat.le_of_ble_eq_true rfl) (Nat.le_of_ble_eq_true rfl) (hQ9 ▸ ⟨rd_i (by rw [hx, show i = N by omega]; rfl), rfl, rfl⟩)
      · have c17n := mt (nI_leI (a := N) (b := i) (by omega) (by omega)).mpr c17
        have c17n := Nat.lt_of_not_le c17n
        have c17 := Int32.not_le.mp c17
        refine go_iload dX5_envyOf_20 rfl ?_
        refine go_iload_n dX5_envyOf_22 rfl ?_
        refine go_icmp_eq dX5_envyOf_23 (fun c23 => ?_) (fun c23 => ?_)
        · have c23n := (nI_eq (a := i) (b := p) (by omega) (by omega)).mp c23
          refine go_iinc (v := nI (i + 1)) (ls' := [some (.ref s), some (.int (nI p)), some (.int (mateS N (A 4) p)), some (.int (nI j)), some (.int (nI (i + 1)))]) dX5_envyOf_45 rfl (nI_1 (i)) ⟨by decide, rfl, rfl⟩ ?_
          refine go_goto dX5_envyOf_48 ?_
          exact ih_lp0 (i + 1) j (by omega) (by omega) (by omega) (by unfold cnS; rw [← hx]; first | (simp [evP, c17, c17n, c23]; done) | (simp [evP, c17, c17n, c23, c23n]; done))
        · have c23n := mt (nI_eq (a := i) (b := p) (by omega) (by omega)).mpr c23
          refine go_iload dX5_envyOf_26 rfl ?_
          refine go_iload_n dX5_envyOf_28 rfl ?_
          refine go_icmp_eq dX5_envyOf_29 (fun c29 => ?_) (fun c29 => ?_)
          · refine go_iinc (v := nI (i + 1)) (ls' := [some (.ref s), some (.int (nI p)), some (.int (mateS N (A 4) p)), some (.int (nI j)), some (.int (nI (i + 1)))]) dX5_envyOf_45 rfl (nI_1 (i)) ⟨by decide, rfl, rfl⟩ ?_
            refine go_goto dX5_envyOf_48 ?_
            exact ih_lp0 (i + 1) j (by omega) (by omega) (by omega) (by unfold cnS; rw [← hx]; simp [evP, c17, c17n, c23, c23n, c29])
          · refine go_aload_n dX5_envyOf_32 rfl ?_
            refine go_iload_n dX5_envyOf_33 rfl ?_
            refine go_iload dX5_envyOf_34 rfl ?_
            refine go_Vr [.int (nI p), .int (nI i)] [] dX5_envyOf_36 vl_X5_144 ⟨by decide, by decide⟩ (e_X5_envies (F := F) (W := W) (A := A) (B := B) hq hn hN hN8 hM hM5 hbe hw hab hI (by omega) (by omega)) sc_obj hq (by omega) rfl rfl (Nat.le_of_ble_eq_true rfl) (Nat.le_of_ble_eq_true rfl) (Nat.le_of_ble_eq_true rfl) ?_
            refine go_if_eq dX5_envyOf_39 (fun c39 => ?_) (fun c39 => ?_)
            · have c39 := bz_f c39
              refine go_iinc (v := nI (i + 1)) (ls' := [some (.ref s), some (.int (nI p)), some (.int (mateS N (A 4) p)), some (.int (nI j)), some (.int (nI (i + 1)))]) dX5_envyOf_45 rfl (nI_1 (i)) ⟨by decide, rfl, rfl⟩ ?_
              refine go_goto dX5_envyOf_48 ?_
              exact ih_lp0 (i + 1) j (by omega) (by omega) (by omega) (by unfold cnS; rw [← hx]; simp [evP, c17, c17n, c23, c23n, c29, mt enS_i.mpr c39])
            · have c39 := bz_t c39
              refine go_iinc (v := nI (j + 1)) (ls' := [some (.ref s), some (.int (nI p)), some (.int (mateS N (A 4) p)), some (.int (nI (j + 1))), some (.int (nI i))]) dX5_envyOf_42 rfl (nI_1 (j)) ⟨by decide, rfl, rfl⟩ ?_
              refine go_iinc (v := nI (i + 1)) (ls' := [some (.ref s), some (.int (nI p)), some (.int (mateS N (A 4) p)), some (.int (nI (j + 1))), some (.int (nI (i + 1)))]) dX5_envyOf_45 rfl (nI_1 (i)) ⟨by decide, rfl, rfl⟩ ?_
              refine go_goto dX5_envyOf_48 ?_
              exact ih_lp0 (i + 1) (j + 1) (by omega) (by omega) (by omega) (by unfold cnS; rw [← hx]; simp [evP, c17, c17n, c23, c23n, c29, enS_i.mp c39, ← nI_1])
  exact lp0 (N + 1) 0 0 (Nat.zero_le _) (by omega) (Nat.zero_le _) rfl
set_option maxHeartbeats 4000000 in
set_option maxRecDepth 100000 in
theorem e_X5_envyOfAll (hq : G.2.1 ≤ s) (hn : s + 8 ≤ n) (hN : F 0 = nI N) (hN8 : N ≤ 8) (hM : F 1 = nI M) (hM5 : M ≤ 5) (hbe : ∀ a b, a < N → b < N → B (a * 8 + b) = brS A a b) (hw : whoOK G m0 s n W A) (hab : ∀ l, l < M → A 6 l = 0 ∨ A 6 l = 1) (hI : insOK N M (A 4)) : Ev G mX5_envyOfAll 6 0 0 [.ref s] (sc G m0 s F W A B) n (RD (.int (smS (evS N A) N)) (sc G m0 s F W A B) n) := by
  generalize hQ9 : (RD (.int (smS (evS N A) N)) (sc G m0 s F W A B) n : RQ) = Q9
  refine ev_of (by decide) (Nat.le_of_ble_eq_true rfl) (ls := [some (.ref s), none, none]) rfl (fun hb => ?_)
  refine go_iconst (v := 0) dX5_envyOfAll_0 rfl ?_
  refine go_istore_n (ls' := [some (.ref s), some (.int 0), none]) dX5_envyOfAll_1 ⟨by decide, rfl, rfl⟩ ?_
  refine go_iconst (v := 0) dX5_envyOfAll_2 rfl ?_
  refine go_istore_n (ls' := [some (.ref s), some (.int 0), some (.int 0)]) dX5_envyOfAll_3 ⟨by decide, rfl, rfl⟩ ?_
  have lp0 : ∀ (μ_lp0 : Nat) (i : Nat) (x : Int32) (hi : i ≤ N) (hmi : N + 1 ≤ i + μ_lp0) (hx : x = smS (evS N A) i), Go G mX5_envyOfAll 6 0 0 Q9 0 0 4 [some (.ref s), some (.int x), some (.int (nI i))] [] (sc G m0 s F W A B) n := by
    intro μ_lp0
    induction μ_lp0 with
    | zero =>
      intro i x hi hmi hx
      exact absurd hmi (by omega)
    | succ μ_lp0 ih_lp0 =>
      intro i x hi hmi hx
      refine go_iload_n dX5_envyOfAll_4 rfl ?_
      refine go_aload_n dX5_envyOfAll_5 rfl ?_
      refine go_get dX5_envyOfAll_6 fl_X5_9_5 sc_obj hq (by omega) rfl ?_
      refine go_tp (z := nI N) (hN) ?_
      refine go_icmp_ge dX5_envyOfAll_9 (fun c9 => ?_) (fun c9 => ?_)
      · have c9n := (nI_leI (a := N) (b := i) (by omega) (by omega)).mp c9
        have c9n := Nat.not_lt.mpr c9n
        have c9 := Int32.not_lt.mpr c9
        refine go_iload_n dX5_envyOfAll_26 rfl ?_
        exact go_iret dX5_envyOfAll_27 rfl (Nat.le_of_ble_eq_true rfl) (Nat.le_of_ble_eq_true rfl) (hQ9 ▸ ⟨rd_i (by rw [hx, show i = N by omega]), rfl, rfl⟩)
      · have c9n := mt (nI_leI (a := N) (b := i) (by omega) (by omega)).mpr c9
        have c9n := Nat.lt_of_not_le c9n
        have c9 := Int32.not_le.mp c9
        refine go_iload_n dX5_envyOfAll_12 rfl ?_
        refine go_aload_n dX5_envyOfAll_13 rfl ?_
        refine go_iload_n dX5_envyOfAll_14 rfl ?_
        refine go_Vr [.int (nI i)] [.int x] dX5_envyOfAll_15 vl_X5_161 ⟨by decide, by decide⟩ (e_X5_envyOf (F := F) (W := W) (A := A) (B := B) hq hn hN hN8 hM hM5 hbe hw hab hI (by omega)) sc_obj hq (by omega) rfl rfl (Nat.le_of_ble_eq_true rfl) (Nat.le_of_ble_eq_true rfl) (Nat.le_of_ble_eq_true rfl) ?_
        refine go_iadd dX5_envyOfAll_18 ?_
        refine go_istore_n (ls' := [some (.ref s), some (.int (x + (evS N A i))), some (.int (nI i))]) dX5_envyOfAll_19 ⟨by decide, rfl, rfl⟩ ?_
        refine go_iinc (v := nI (i + 1)) (ls' := [some (.ref s), some (.int (x + (evS N A i))), some (.int (nI (i + 1)))]) dX5_envyOfAll_20 rfl (nI_1 (i)) ⟨by decide, rfl, rfl⟩ ?_
        refine go_goto dX5_envyOfAll_23 ?_
        exact ih_lp0 (i + 1) _ (by omega) (by omega) (by simp [hx, smS, c9, c9n])
  exact lp0 (N + 1) 0 _ (Nat.zero_le _) (by omega) (rfl)
set_option maxHeartbeats 4000000 in
set_option maxRecDepth 100000 in
theorem e_X5_howManyPay (hq : G.2.1 ≤ s) (hn : s + 8 ≤ n) (hN : F 0 = nI N) (hN8 : N ≤ 8) (hM : F 1 = nI M) (hM5 : M ≤ 5) (hbe : ∀ a b, a < N → b < N → B (a * 8 + b) = brS A a b) (hw : whoOK G m0 s n W A) (hab : ∀ l, l < M → A 6 l = 0 ∨ A 6 l = 1) (hI : insOK N M (A 4)) {z : Int32} : Ev G mX5_howManyPay 4 0 0 [.ref s, .int z] (sc G m0 s F W A B) n (RD (.int (wpS N A z)) (sc G m0 s F W A B) n) := by
  generalize hQ9 : (RD (.int (wpS N A z)) (sc G m0 s F W A B) n : RQ) = Q9
  refine ev_of (by decide) (Nat.le_of_ble_eq_true rfl) (ls := [some (.ref s), some (.int z), none, none, none]) rfl (fun hb => ?_)
  refine go_iconst (v := 0) dX5_howManyPay_0 rfl ?_
  refine go_istore_n (ls' := [some (.ref s), some (.int z), some (.int 0), none, none]) dX5_howManyPay_1 ⟨by decide, rfl, rfl⟩ ?_
  refine go_iconst (v := 0) dX5_howManyPay_2 rfl ?_
  refine go_istore_n (ls' := [some (.ref s), some (.int z), some (.int 0), some (.int 0), none]) dX5_howManyPay_3 ⟨by decide, rfl, rfl⟩ ?_
  have lp0 : ∀ (μ_lp0 : Nat) (i j : Nat) (hi : i ≤ N) (hmi : N + 1 ≤ i + μ_lp0) (hji : j ≤ i) (hx : nI j = cnS (wpP N A z) i), Go G mX5_howManyPay 4 0 0 Q9 0 0 4 [some (.ref s), some (.int z), some (.int (nI j)), some (.int (nI i)), none] [] (sc G m0 s F W A B) n := by
    intro μ_lp0
    induction μ_lp0 with
    | zero =>
      intro i j hi hmi hji hx
      exact absurd hmi (by omega)
    | succ μ_lp0 ih_lp0 =>
      intro i j hi hmi hji hx
      refine go_iload_n dX5_howManyPay_4 rfl ?_
      refine go_aload_n dX5_howManyPay_5 rfl ?_
      refine go_get dX5_howManyPay_6 fl_X5_9_5 sc_obj hq (by omega) rfl ?_
      refine go_tp (z := nI N) (hN) ?_
      refine go_icmp_ge dX5_howManyPay_9 (fun c9 => ?_) (fun c9 => ?_)
      · have c9n := (nI_leI (a := N) (b := i) (by omega) (by omega)).mp c9
        have c9n := Nat.not_lt.mpr c9n
        have c9 := Int32.not_lt.mpr c9
        refine go_iload_n dX5_howManyPay_56 rfl ?_
        exact go_iret dX5_howManyPay_57 rfl (Nat.le_of_ble_eq_true rfl) (Nat.le_of_ble_eq_true rfl) (hQ9 ▸ ⟨rd_i (by rw [hx, show i = N by omega]; rfl), rfl, rfl⟩)
      · have c9n := mt (nI_leI (a := N) (b := i) (by omega) (by omega)).mpr c9
        have c9n := Nat.lt_of_not_le c9n
        have c9 := Int32.not_le.mp c9
        refine go_aload_n dX5_howManyPay_12 rfl ?_
        refine go_iload_n dX5_howManyPay_13 rfl ?_
        refine go_Vr [.int (nI i)] [] dX5_howManyPay_14 vl_X5_124 ⟨by decide, by decide⟩ (e_X5_mateOf (F := F) (W := W) (A := A) (B := B) hq hn hN hN8 (by omega)) sc_obj hq (by omega) rfl rfl (Nat.le_of_ble_eq_true rfl) (Nat.le_of_ble_eq_true rfl) (Nat.le_of_ble_eq_true rfl) ?_
        refine go_istore (ls' := [some (.ref s), some (.int z), some (.int (nI j)), some (.int (nI i)), some (.int (mateS N (A 4) i))]) dX5_howManyPay_17 ⟨by decide, rfl, rfl⟩ ?_
        refine go_iload dX5_howManyPay_19 rfl ?_
        refine go_if_lt dX5_howManyPay_21 (fun c21 => ?_) (fun c21 => ?_)
        · refine go_iinc (v := nI (i + 1)) (ls' := [some (.ref s), some (.int z), some (.int (nI j)), some (.int (nI (i + 1))), some (.int (mateS N (A 4) i))]) dX5_howManyPay_50 rfl (nI_1 (i)) ⟨by decide, rfl, rfl⟩ ?_
          refine go_goto dX5_howManyPay_53 ?_
          refine go_weak (ls' := [some (.ref s), some (.int z), some (.int (nI j)), some (.int (nI (i + 1))), none]) ⟨rfl, rfl, rfl, rfl, trivial⟩ ?_
          exact ih_lp0 (i + 1) j (by omega) (by omega) (by omega) (by unfold cnS; rw [← hx]; simp [wpP, c21])
        · obtain ⟨o21, ho21, hno21, eo21⟩ := mateS_nI hN8 c21
          refine go_ls (ls' := [some (.ref s), some (.int z), some (.int (nI j)), some (.int (nI i)), some (.int (nI o21))]) (by rw [eo21]) ?_
          have ko21 : (mateS N (A 4) i).toNatClampNeg = o21 := by rw [eo21]; exact nI_clamp (by omega)
          obtain ⟨o2, ho2, hne2, eo2⟩ := mateS_nI hN8 c21
          obtain ⟨l2, hl2, el2⟩ := (hI i (by omega)).resolve_left (fun z => c21 (by rw [mate_none z]; decide))
          have hpay : cpS A i (A 4 i) (-4) - ctS N A i = 12 - brS A i (mateS N (A 4) i).toNatClampNeg := by
            unfold ctS
            rw [el2, eo2, cpS_al (by omega) (by decide), cpS_in (by omega) (by omega) rfl, nI_clamp (by omega)]
            exact pay_eq 0 _ _
          refine go_aload_n dX5_howManyPay_24 rfl ?_
          refine go_iload_n dX5_howManyPay_25 rfl ?_
          refine go_aload_n dX5_howManyPay_26 rfl ?_
          refine go_get dX5_howManyPay_27 fl_X5_31_5 sc_obj hq (by omega) rfl ?_
          refine go_iload_n dX5_howManyPay_30 rfl ?_
          refine go_iald dX5_howManyPay_31 sc_3 (by omega) (by omega) (vp_in_nI (n := i) (by show i < 8; omega) (by decide)) ?_
          refine go_tp (z := A 4 i) (by rw [nI_clamp (by omega)]) ?_
          refine go_bipush (v := (-4)) dX5_howManyPay_32 rfl ?_
          refine go_Vr [.int (nI i), .int (A 4 i), .int (-4)] [] dX5_howManyPay_34 vl_X5_127 ⟨by decide, by decide⟩ (e_X5_contentWith (F := F) (W := W) (A := A) (B := B) hq hn hM hM5 hbe hw hab (by omega) (hI i (by omega)) (Or.inl (by decide)) hN8) sc_obj hq (by omega) rfl rfl (Nat.le_of_ble_eq_true rfl) (Nat.le_of_ble_eq_true rfl) (Nat.le_of_ble_eq_true rfl) ?_
          refine go_aload_n dX5_howManyPay_37 rfl ?_
          refine go_iload_n dX5_howManyPay_38 rfl ?_
          refine go_Vr [.int (nI i)] [.int (cpS A i (A 4 i) ((-4)))] dX5_howManyPay_39 vl_X5_131 ⟨by decide, by decide⟩ (e_X5_contentOf (F := F) (W := W) (A := A) (B := B) hq hn hN hN8 hM hM5 hbe hw hab hI (by omega)) sc_obj hq (by omega) rfl rfl (Nat.le_of_ble_eq_true rfl) (Nat.le_of_ble_eq_true rfl) (Nat.le_of_ble_eq_true rfl) ?_
          refine go_isub dX5_howManyPay_42 ?_
          refine go_iload_n dX5_howManyPay_43 rfl ?_
          refine go_icmp_le dX5_howManyPay_44 (fun c44 => ?_) (fun c44 => ?_)
          · have c44 := Int32.not_lt.mpr c44
            refine go_iinc (v := nI (i + 1)) (ls' := [some (.ref s), some (.int z), some (.int (nI j)), some (.int (nI (i + 1))), some (.int (nI o21))]) dX5_howManyPay_50 rfl (nI_1 (i)) ⟨by decide, rfl, rfl⟩ ?_
            refine go_goto dX5_howManyPay_53 ?_
            refine go_weak (ls' := [some (.ref s), some (.int z), some (.int (nI j)), some (.int (nI (i + 1))), none]) ⟨rfl, rfl, rfl, rfl, trivial⟩ ?_
            exact ih_lp0 (i + 1) j (by omega) (by omega) (by omega) (by unfold cnS; rw [← hx]; simp [wpP, c21, hpay ▸ c44])
          · have c44 := Int32.not_le.mp c44
            refine go_iinc (v := nI (j + 1)) (ls' := [some (.ref s), some (.int z), some (.int (nI (j + 1))), some (.int (nI i)), some (.int (nI o21))]) dX5_howManyPay_47 rfl (nI_1 (j)) ⟨by decide, rfl, rfl⟩ ?_
            refine go_iinc (v := nI (i + 1)) (ls' := [some (.ref s), some (.int z), some (.int (nI (j + 1))), some (.int (nI (i + 1))), some (.int (nI o21))]) dX5_howManyPay_50 rfl (nI_1 (i)) ⟨by decide, rfl, rfl⟩ ?_
            refine go_goto dX5_howManyPay_53 ?_
            refine go_weak (ls' := [some (.ref s), some (.int z), some (.int (nI (j + 1))), some (.int (nI (i + 1))), none]) ⟨rfl, rfl, rfl, rfl, trivial⟩ ?_
            exact ih_lp0 (i + 1) (j + 1) (by omega) (by omega) (by omega) (by unfold cnS; rw [← hx]; simp [wpP, c21, hpay ▸ c44, ← nI_1])
  exact lp0 (N + 1) 0 0 (Nat.zero_le _) (by omega) (Nat.zero_le _) rfl
set_option maxHeartbeats 4000000 in
set_option maxRecDepth 100000 in
theorem e_X5_partOfLesser (hq : G.2.1 ≤ s) (hn : s + 8 ≤ n) (hbe : ∀ a b, a < N → b < N → B (a * 8 + b) = brS A a b) (hw : whoOK G m0 s n W A) {a b : Nat} {v law : Int32} (ha : a < N) (hb8 : b < N) (hN8 : N ≤ 8) : Ev G mX5_partOfLesser 4 0 0 [.ref s, .int (nI a), .int (nI b), .int v, .int law] (sc G m0 s F W A B) n (RD (.int (plS A a b v law)) (sc G m0 s F W A B) n) := by
  generalize hQ9 : (RD (.int (plS A a b v law)) (sc G m0 s F W A B) n : RQ) = Q9
  refine ev_of (by decide) (Nat.le_of_ble_eq_true rfl) (ls := [some (.ref s), some (.int (nI a)), some (.int (nI b)), some (.int v), some (.int law), none, none]) rfl (fun hb => ?_)
  refine go_aload_n dX5_partOfLesser_0 rfl ?_
  refine go_get dX5_partOfLesser_1 fl_X5_23_5 sc_obj hq (by omega) rfl ?_
  refine go_iload_n dX5_partOfLesser_4 rfl ?_
  obtain ⟨w5, ew5, hw5⟩ := who_at hw a (by omega)
  refine go_oald dX5_partOfLesser_5 sc_1 (by omega) (by omega) (vp_in_nI (n := a) (by show a < 8; omega) (by decide)) ?_
  refine go_tv (w := .ref w5) (by rw [nI_clamp (by omega), ew5]; rfl) ?_
  refine go1_X5_room hw5 dX5_partOfLesser_6 rfl (by omega) (Nat.le_of_ble_eq_true rfl) (Nat.le_of_ble_eq_true rfl) (Nat.le_of_ble_eq_true rfl) ?_
  refine go_aload_n dX5_partOfLesser_9 rfl ?_
  refine go_get dX5_partOfLesser_10 fl_X5_23_5 sc_obj hq (by omega) rfl ?_
  refine go_iload_n dX5_partOfLesser_13 rfl ?_
  obtain ⟨w14, ew14, hw14⟩ := who_at hw b (by omega)
  refine go_oald dX5_partOfLesser_14 sc_1 (by omega) (by omega) (vp_in_nI (n := b) (by show b < 8; omega) (by decide)) ?_
  refine go_tv (w := .ref w14) (by rw [nI_clamp (by omega), ew14]; rfl) ?_
  refine go1_X5_room hw14 dX5_partOfLesser_15 rfl (by omega) (Nat.le_of_ble_eq_true rfl) (Nat.le_of_ble_eq_true rfl) (Nat.le_of_ble_eq_true rfl) ?_
  refine go_iadd dX5_partOfLesser_18 ?_
  refine go_istore (ls' := [some (.ref s), some (.int (nI a)), some (.int (nI b)), some (.int v), some (.int law), some (.int ((roomS (A 1 a)) + (roomS (A 1 b)))), none]) dX5_partOfLesser_19 ⟨by decide, rfl, rfl⟩ ?_
  refine go_iload dX5_partOfLesser_21 rfl ?_
  refine go_iconst (v := 1) dX5_partOfLesser_23 rfl ?_
  refine go_icmp_ne dX5_partOfLesser_24 (fun c24 => ?_) (fun c24 => ?_)
  · refine go_aload_n dX5_partOfLesser_47 rfl ?_
    refine go_iload_n dX5_partOfLesser_48 rfl ?_
    refine go_iload_n dX5_partOfLesser_49 rfl ?_
    refine go_Vr [.int (nI a), .int (nI b)] [] dX5_partOfLesser_50 vl_X5_118 ⟨by decide, by decide⟩ (e_X5_bearingOf (F := F) (W := W) (A := A) (B := B) hq hn hbe (by omega) (by omega) hN8) sc_obj hq (by omega) rfl rfl (Nat.le_of_ble_eq_true rfl) (Nat.le_of_ble_eq_true rfl) (Nat.le_of_ble_eq_true rfl) ?_
    refine go_aload_n dX5_partOfLesser_53 rfl ?_
    refine go_iload_n dX5_partOfLesser_54 rfl ?_
    refine go_iload_n dX5_partOfLesser_55 rfl ?_
    refine go_Vr [.int (nI b), .int (nI a)] [.int (brS A a b)] dX5_partOfLesser_56 vl_X5_118 ⟨by decide, by decide⟩ (e_X5_bearingOf (F := F) (W := W) (A := A) (B := B) hq hn hbe (by omega) (by omega) hN8) sc_obj hq (by omega) rfl rfl (Nat.le_of_ble_eq_true rfl) (Nat.le_of_ble_eq_true rfl) (Nat.le_of_ble_eq_true rfl) ?_
    refine go_isub dX5_partOfLesser_59 ?_
    refine go_istore (ls' := [some (.ref s), some (.int (nI a)), some (.int (nI b)), some (.int v), some (.int law), some (.int ((roomS (A 1 a)) + (roomS (A 1 b)))), some (.int ((brS A a b) - (brS A b a)))]) dX5_partOfLesser_60 ⟨by decide, rfl, rfl⟩ ?_
    refine go_iload dX5_partOfLesser_62 rfl ?_
    refine go_iconst (v := 2) dX5_partOfLesser_64 rfl ?_
    refine go_icmp_ne dX5_partOfLesser_65 (fun c65 => ?_) (fun c65 => ?_)
    · refine go_iload_n dX5_partOfLesser_84 rfl ?_
      refine go_iconst (v := 1) dX5_partOfLesser_85 rfl ?_
      refine go_iadd dX5_partOfLesser_86 ?_
      refine go_iconst (v := 2) dX5_partOfLesser_87 rfl ?_
      refine go_idiv dX5_partOfLesser_88 (by decide) ?_
      exact go_iret dX5_partOfLesser_89 rfl (Nat.le_of_ble_eq_true rfl) (Nat.le_of_ble_eq_true rfl) (hQ9 ▸ ⟨rd_i (by simp [plS, c24, c65]), rfl, rfl⟩)
    · subst c65
      refine go_iload dX5_partOfLesser_68 rfl ?_
      refine go_if_eq dX5_partOfLesser_70 (fun c70 => ?_) (fun c70 => ?_)
      · refine go_iload_n dX5_partOfLesser_84 rfl ?_
        refine go_iconst (v := 1) dX5_partOfLesser_85 rfl ?_
        refine go_iadd dX5_partOfLesser_86 ?_
        refine go_iconst (v := 2) dX5_partOfLesser_87 rfl ?_
        refine go_idiv dX5_partOfLesser_88 (by decide) ?_
        exact go_iret dX5_partOfLesser_89 rfl (Nat.le_of_ble_eq_true rfl) (Nat.le_of_ble_eq_true rfl) (hQ9 ▸ ⟨rd_i (by simp [plS, c24, c70]), rfl, rfl⟩)
      · refine go_iload dX5_partOfLesser_73 rfl ?_
        refine go_if_ge dX5_partOfLesser_75 (fun c75 => ?_) (fun c75 => ?_)
        · have c75 := Int32.not_lt.mpr c75
          refine go_iconst (v := 0) dX5_partOfLesser_82 rfl ?_
          exact go_iret dX5_partOfLesser_83 rfl (Nat.le_of_ble_eq_true rfl) (Nat.le_of_ble_eq_true rfl) (hQ9 ▸ ⟨rd_i (by simp [plS, c24, c70, c75]), rfl, rfl⟩)
        · have c75 := Int32.not_le.mp c75
          refine go_iload_n dX5_partOfLesser_78 rfl ?_
          refine go_goto dX5_partOfLesser_79 ?_
          exact go_iret dX5_partOfLesser_83 rfl (Nat.le_of_ble_eq_true rfl) (Nat.le_of_ble_eq_true rfl) (hQ9 ▸ ⟨rd_i (by simp [plS, c24, c70, c75]), rfl, rfl⟩)
  · subst c24
    refine go_iload dX5_partOfLesser_27 rfl ?_
    refine go_if_le dX5_partOfLesser_29 (fun c29 => ?_) (fun c29 => ?_)
    · have c29 := Int32.not_lt.mpr c29
      exact absurd (room_pos _ _) c29
    · have c29 := Int32.not_le.mp c29
      refine go_iload_n dX5_partOfLesser_32 rfl ?_
      refine go_aload_n dX5_partOfLesser_33 rfl ?_
      refine go_get dX5_partOfLesser_34 fl_X5_23_5 sc_obj hq (by omega) rfl ?_
      refine go_iload_n dX5_partOfLesser_37 rfl ?_
      obtain ⟨w38, ew38, hw38⟩ := who_at hw a (by omega)
      refine go_oald dX5_partOfLesser_38 sc_1 (by omega) (by omega) (vp_in_nI (n := a) (by show a < 8; omega) (by decide)) ?_
      refine go_tv (w := .ref w38) (by rw [nI_clamp (by omega), ew38]; rfl) ?_
      refine go1_X5_room hw38 dX5_partOfLesser_39 rfl (by omega) (Nat.le_of_ble_eq_true rfl) (Nat.le_of_ble_eq_true rfl) (Nat.le_of_ble_eq_true rfl) ?_
      refine go_imul dX5_partOfLesser_42 ?_
      refine go_iload dX5_partOfLesser_43 rfl ?_
      refine go_idiv dX5_partOfLesser_45 (room_nz _ _) ?_
      exact go_iret dX5_partOfLesser_46 rfl (Nat.le_of_ble_eq_true rfl) (Nat.le_of_ble_eq_true rfl) (hQ9 ▸ ⟨rd_i (by simp [plS, ]), rfl, rfl⟩)
theorem go_st {y : MD} {d mc ms : Nat} {Q : RQ} {kc ks pc : Nat} {ls : List (Option Value)} {st st' : List Value} (h : st = st') (k : Go G y d mc ms Q kc ks pc ls st' f n) : Go G y d mc ms Q kc ks pc ls st f n := h ▸ k
set_option maxHeartbeats 4000000 in
set_option maxRecDepth 100000 in
theorem e_X5_dentPaid (hq : G.2.1 ≤ s) (hn : s + 8 ≤ n) (hN : F 0 = nI N) (hN8 : N ≤ 8) (hbe : ∀ a b, a < N → b < N → B (a * 8 + b) = brS A a b) (hw : whoOK G m0 s n W A) {p : Nat} {v law : Int32} (hp : p < N) : Ev G mX5_dentPaid 5 0 0 [.ref s, .int (nI p), .int v, .int law] (sc G m0 s F W A B) n (RD (.int (dpS N A p v law)) (sc G m0 s F W A B) n) := by
  generalize hQ9 : (RD (.int (dpS N A p v law)) (sc G m0 s F W A B) n : RQ) = Q9
  refine ev_of (by decide) (Nat.le_of_ble_eq_true rfl) (ls := [some (.ref s), some (.int (nI p)), some (.int v), some (.int law), none, none]) rfl (fun hb => ?_)
  refine go_aload_n dX5_dentPaid_0 rfl ?_
  refine go_iload_n dX5_dentPaid_1 rfl ?_
  refine go_Vr [.int (nI p)] [] dX5_dentPaid_2 vl_X5_124 ⟨by decide, by decide⟩ (e_X5_mateOf (F := F) (W := W) (A := A) (B := B) hq hn hN hN8 (by omega)) sc_obj hq (by omega) rfl rfl (Nat.le_of_ble_eq_true rfl) (Nat.le_of_ble_eq_true rfl) (Nat.le_of_ble_eq_true rfl) ?_
  refine go_istore (ls' := [some (.ref s), some (.int (nI p)), some (.int v), some (.int law), some (.int (mateS N (A 4) p)), none]) dX5_dentPaid_5 ⟨by decide, rfl, rfl⟩ ?_
  refine go_iload dX5_dentPaid_7 rfl ?_
  refine go_if_ge dX5_dentPaid_9 (fun c9 => ?_) (fun c9 => ?_)
  · have c9 := Int32.not_lt.mpr c9
    obtain ⟨o9, ho9, hno9, eo9⟩ := mateS_nI hN8 c9
    refine go_ls (ls' := [some (.ref s), some (.int (nI p)), some (.int v), some (.int law), some (.int (nI o9)), none]) (by rw [eo9]) ?_
    have ko9 : (mateS N (A 4) p).toNatClampNeg = o9 := by rw [eo9]; exact nI_clamp (by omega)
    have hpo9 : p ≠ o9 := fun z => hno9 z.symm
    refine go_aload_n dX5_dentPaid_14 rfl ?_
    refine go_iload_n dX5_dentPaid_15 rfl ?_
    refine go_iload dX5_dentPaid_16 rfl ?_
    refine go_Sr [.int (nI p), .int (nI o9)] [.ref s] dX5_dentPaid_18 sl_X5_164 ⟨by decide, by decide⟩ (e_J9_min) rfl rfl (Nat.le_of_ble_eq_true rfl) (Nat.le_of_ble_eq_true rfl) (Nat.le_of_ble_eq_true rfl) ?_
    refine go_tp (z := nI (if o9 < p then o9 else p)) (mnS_nI (by omega) (by omega)) ?_
    refine go_iload_n dX5_dentPaid_21 rfl ?_
    refine go_iload dX5_dentPaid_22 rfl ?_
    refine go_Sr [.int (nI p), .int (nI o9)] [.int (nI (if o9 < p then o9 else p)), .ref s] dX5_dentPaid_24 sl_X5_169 ⟨by decide, by decide⟩ (e_J9_max) rfl rfl (Nat.le_of_ble_eq_true rfl) (Nat.le_of_ble_eq_true rfl) (Nat.le_of_ble_eq_true rfl) ?_
    refine go_tp (z := nI (if p < o9 then o9 else p)) (mxS_nI (by omega) (by omega)) ?_
    refine go_iload_n dX5_dentPaid_27 rfl ?_
    refine go_iload_n dX5_dentPaid_28 rfl ?_
    rcases Nat.lt_or_ge p o9 with hpo | hpo
    · refine go_st (st' := [.int law, .int v, .int (nI o9), .int (nI p), .ref s]) (by rw [if_neg (show ¬ o9 < p by omega), if_pos (show p < o9 by omega)]) ?_
      refine go_Vr [.int (nI p), .int (nI o9), .int v, .int law] [] dX5_dentPaid_29 vl_X5_172 ⟨by decide, by decide⟩ (e_X5_partOfLesser (F := F) (W := W) (A := A) (B := B) hq hn hbe hw (by omega) (by omega) hN8) sc_obj hq (by omega) rfl rfl (Nat.le_of_ble_eq_true rfl) (Nat.le_of_ble_eq_true rfl) (Nat.le_of_ble_eq_true rfl) ?_
      refine go_istore (ls' := [some (.ref s), some (.int (nI p)), some (.int v), some (.int law), some (.int (nI o9)), some (.int (plS A p o9 (v) (law)))]) dX5_dentPaid_32 ⟨by decide, rfl, rfl⟩ ?_
      refine go_iload_n dX5_dentPaid_34 rfl ?_
      refine go_iload dX5_dentPaid_35 rfl ?_
      refine go_icmp_ge dX5_dentPaid_37 (fun c37 => ?_) (fun c37 => ?_)
      · have c37n := (nI_leI (a := o9) (b := p) (by omega) (by omega)).mp c37
        have c37n := Nat.not_lt.mpr c37n
        have c37 := Int32.not_lt.mpr c37
        omega
      · have c37n := mt (nI_leI (a := o9) (b := p) (by omega) (by omega)).mpr c37
        have c37n := Nat.lt_of_not_le c37n
        have c37 := Int32.not_le.mp c37
        refine go_iload dX5_dentPaid_40 rfl ?_
        refine go_goto dX5_dentPaid_42 ?_
        exact go_iret dX5_dentPaid_49 rfl (Nat.le_of_ble_eq_true rfl) (Nat.le_of_ble_eq_true rfl) (hQ9 ▸ ⟨rd_i (by unfold dpS; rw [if_neg c9, ko9]; simp [c37n]), rfl, rfl⟩)
    · refine go_st (st' := [.int law, .int v, .int (nI p), .int (nI o9), .ref s]) (by rw [if_pos (show o9 < p by omega), if_neg (show ¬ p < o9 by omega)]) ?_
      refine go_Vr [.int (nI o9), .int (nI p), .int v, .int law] [] dX5_dentPaid_29 vl_X5_172 ⟨by decide, by decide⟩ (e_X5_partOfLesser (F := F) (W := W) (A := A) (B := B) hq hn hbe hw (by omega) (by omega) hN8) sc_obj hq (by omega) rfl rfl (Nat.le_of_ble_eq_true rfl) (Nat.le_of_ble_eq_true rfl) (Nat.le_of_ble_eq_true rfl) ?_
      refine go_istore (ls' := [some (.ref s), some (.int (nI p)), some (.int v), some (.int law), some (.int (nI o9)), some (.int (plS A o9 p (v) (law)))]) dX5_dentPaid_32 ⟨by decide, rfl, rfl⟩ ?_
      refine go_iload_n dX5_dentPaid_34 rfl ?_
      refine go_iload dX5_dentPaid_35 rfl ?_
      refine go_icmp_ge dX5_dentPaid_37 (fun c37 => ?_) (fun c37 => ?_)
      · have c37n := (nI_leI (a := o9) (b := p) (by omega) (by omega)).mp c37
        have c37n := Nat.not_lt.mpr c37n
        have c37 := Int32.not_lt.mpr c37
        refine go_iload_n dX5_dentPaid_45 rfl ?_
        refine go_iload dX5_dentPaid_46 rfl ?_
        refine go_isub dX5_dentPaid_48 ?_
        exact go_iret dX5_dentPaid_49 rfl (Nat.le_of_ble_eq_true rfl) (Nat.le_of_ble_eq_true rfl) (hQ9 ▸ ⟨rd_i (by unfold dpS; rw [if_neg c9, ko9]; simp [c37n]), rfl, rfl⟩)
      · have c37n := mt (nI_leI (a := o9) (b := p) (by omega) (by omega)).mpr c37
        have c37n := Nat.lt_of_not_le c37n
        have c37 := Int32.not_le.mp c37
        omega
  · have c9 := Int32.not_le.mp c9
    refine go_iload_n dX5_dentPaid_12 rfl ?_
    exact go_iret dX5_dentPaid_13 rfl (Nat.le_of_ble_eq_true rfl) (Nat.le_of_ble_eq_true rfl) (hQ9 ▸ ⟨rd_i (by unfold dpS; rw [if_pos c9]), rfl, rfl⟩)
set_option maxHeartbeats 4000000 in
set_option maxRecDepth 100000 in
theorem e_X5_troubleNow (hq : G.2.1 ≤ s) (hn : s + 8 ≤ n) (hw : whoOK G m0 s n W A) (hab : ∀ l, l < M → A 6 l = 0 ∨ A 6 l = 1) (hM5 : M ≤ 5) (hI : insOK N M (A 4)) {p : Nat} (hp : p < N) (h9 : ¬ A 4 p = 9) (hN8 : N ≤ 8) : Ev G mX5_troubleNow 3 0 0 [.ref s, .int (nI p)] (sc G m0 s F W A B) n (RD (.int (trN A p)) (sc G m0 s F W A B) n) := by
  generalize hQ9 : (RD (.int (trN A p)) (sc G m0 s F W A B) n : RQ) = Q9
  refine ev_of (by decide) (Nat.le_of_ble_eq_true rfl) (ls := [some (.ref s), some (.int (nI p))]) rfl (fun hb => ?_)
  obtain ⟨l9, hl9, el9⟩ := (hI p hp).resolve_left h9
  have kl9 : (A 4 p).toNatClampNeg = l9 := by rw [el9]; exact nI_clamp (by omega)
  refine go_aload_n dX5_troubleNow_0 rfl ?_
  refine go_iload_n dX5_troubleNow_1 rfl ?_
  refine go_aload_n dX5_troubleNow_2 rfl ?_
  refine go_get dX5_troubleNow_3 fl_X5_31_5 sc_obj hq (by omega) rfl ?_
  refine go_iload_n dX5_troubleNow_6 rfl ?_
  refine go_iald dX5_troubleNow_7 sc_3 (by omega) (by omega) (vp_in_nI (n := p) (by show p < 8; omega) (by decide)) ?_
  refine go_tp (z := A 4 p) (by rw [nI_clamp (by omega)]) ?_
  refine go_tp (z := nI l9) (el9) ?_
  refine go_Vr [.int (nI p), .int (nI l9)] [] dX5_troubleNow_8 vl_X5_182 ⟨by decide, by decide⟩ (e_X5_troubleOf (F := F) (W := W) (A := A) (B := B) hq hn hw hab (by omega) (by omega) hM5) sc_obj hq (by omega) rfl rfl (Nat.le_of_ble_eq_true rfl) (Nat.le_of_ble_eq_true rfl) (Nat.le_of_ble_eq_true rfl) ?_
  exact go_iret dX5_troubleNow_11 rfl (Nat.le_of_ble_eq_true rfl) (Nat.le_of_ble_eq_true rfl) (hQ9 ▸ ⟨rd_i (by unfold trN; rw [kl9]), rfl, rfl⟩)
set_option maxHeartbeats 4000000 in
set_option maxRecDepth 100000 in
theorem e_X5_leastTroubled (hq : G.2.1 ≤ s) (hn : s + 8 ≤ n) (hN : F 0 = nI N) (hN8 : N ≤ 8) (hM : F 1 = nI M) (hM5 : M ≤ 5) (hw : whoOK G m0 s n W A) (hab : ∀ l, l < M → A 6 l = 0 ∨ A 6 l = 1) (hI : insOK N M (A 4)) : Ev G mX5_leastTroubled 4 0 0 [.ref s] (sc G m0 s F W A B) n (RD (.int (tlB A true N)) (sc G m0 s F W A B) n) := by
  generalize hQ9 : (RD (.int (tlB A true N)) (sc G m0 s F W A B) n : RQ) = Q9
  refine ev_of (by decide) (Nat.le_of_ble_eq_true rfl) (ls := [some (.ref s), none, none]) rfl (fun hb => ?_)
  refine go_bipush (v := (-4)) dX5_leastTroubled_0 rfl ?_
  refine go_istore_n (ls' := [some (.ref s), some (.int (-4)), none]) dX5_leastTroubled_2 ⟨by decide, rfl, rfl⟩ ?_
  refine go_iconst (v := 0) dX5_leastTroubled_3 rfl ?_
  refine go_istore_n (ls' := [some (.ref s), some (.int (-4)), some (.int 0)]) dX5_leastTroubled_4 ⟨by decide, rfl, rfl⟩ ?_
  have lp0 : ∀ (μ_lp0 : Nat) (i : Nat) (x : Int32) (hi : i ≤ N) (hmi : N + 1 ≤ i + μ_lp0) (hx : x = tlB A true i) (hxx : x < 0 ∨ ∃ b, b < N ∧ x = nI b ∧ ¬ A 4 b = 9), Go G mX5_leastTroubled 4 0 0 Q9 0 0 5 [some (.ref s), some (.int x), some (.int (nI i))] [] (sc G m0 s F W A B) n := by
    intro μ_lp0
    induction μ_lp0 with
    | zero =>
      intro i x hi hmi hx hxx
      exact absurd hmi (by omega)
    | succ μ_lp0 ih_lp0 =>
      intro i x hi hmi hx hxx
      refine go_iload_n dX5_leastTroubled_5 rfl ?_
      refine go_aload_n dX5_leastTroubled_6 rfl ?_
      refine go_get dX5_leastTroubled_7 fl_X5_9_5 sc_obj hq (by omega) rfl ?_
      refine go_tp (z := nI N) (hN) ?_
      refine go_icmp_ge dX5_leastTroubled_10 (fun c10 => ?_) (fun c10 => ?_)
      · have c10n := (nI_leI (a := N) (b := i) (by omega) (by omega)).mp c10
        have c10n := Nat.not_lt.mpr c10n
        have c10 := Int32.not_lt.mpr c10
        refine go_iload_n dX5_leastTroubled_51 rfl ?_
        exact go_iret dX5_leastTroubled_52 rfl (Nat.le_of_ble_eq_true rfl) (Nat.le_of_ble_eq_true rfl) (hQ9 ▸ ⟨rd_i (by rw [hx, show i = N by omega]), rfl, rfl⟩)
      · have c10n := mt (nI_leI (a := N) (b := i) (by omega) (by omega)).mpr c10
        have c10n := Nat.lt_of_not_le c10n
        have c10 := Int32.not_le.mp c10
        refine go_aload_n dX5_leastTroubled_13 rfl ?_
        refine go_aload_n dX5_leastTroubled_14 rfl ?_
        refine go_get dX5_leastTroubled_15 fl_X5_31_5 sc_obj hq (by omega) rfl ?_
        refine go_iload_n dX5_leastTroubled_18 rfl ?_
        refine go_iald dX5_leastTroubled_19 sc_3 (by omega) (by omega) (vp_in_nI (n := i) (by show i < 8; omega) (by decide)) ?_
        refine go_tp (z := A 4 i) (by rw [nI_clamp (by omega)]) ?_
        refine go_Vr [.int (A 4 i)] [] dX5_leastTroubled_20 vl_X5_55 ⟨by decide, by decide⟩ (e_X5_hasLocker (F := F) (W := W) (A := A) (B := B) hq hn hM hM5) sc_obj hq (by omega) rfl rfl (Nat.le_of_ble_eq_true rfl) (Nat.le_of_ble_eq_true rfl) (Nat.le_of_ble_eq_true rfl) ?_
        refine go_if_eq dX5_leastTroubled_23 (fun c23 => ?_) (fun c23 => ?_)
        · have c23 := bz_f c23
          have h9e : A 4 i = 9 := (hI i (by omega)).resolve_right (fun ⟨k, hk, e⟩ => c23 (e ▸ okp_of hk (by omega)))
          refine go_iinc (v := nI (i + 1)) (ls' := [some (.ref s), some (.int x), some (.int (nI (i + 1)))]) dX5_leastTroubled_45 rfl (nI_1 (i)) ⟨by decide, rfl, rfl⟩ ?_
          refine go_goto dX5_leastTroubled_48 ?_
          exact ih_lp0 (i + 1) _ (by omega) (by omega) (by unfold tlB; rw [← hx]; simp [h9e])  (hxx)
        · have c23 := bz_t c23
          have h9i : ¬ A 4 i = 9 := fun z => by rw [z] at c23; have := okp_lt (N := M) (i := 9) c23 (by omega) (by omega); omega
          refine go_iload_n dX5_leastTroubled_26 rfl ?_
          refine go_if_lt dX5_leastTroubled_27 (fun c27 => ?_) (fun c27 => ?_)
          · refine go_iload_n dX5_leastTroubled_43 rfl ?_
            refine go_istore_n (ls' := [some (.ref s), some (.int (nI i)), some (.int (nI i))]) dX5_leastTroubled_44 ⟨by decide, rfl, rfl⟩ ?_
            refine go_iinc (v := nI (i + 1)) (ls' := [some (.ref s), some (.int (nI i)), some (.int (nI (i + 1)))]) dX5_leastTroubled_45 rfl (nI_1 (i)) ⟨by decide, rfl, rfl⟩ ?_
            refine go_goto dX5_leastTroubled_48 ?_
            exact ih_lp0 (i + 1) _ (by omega) (by omega) (by unfold tlB; rw [← hx]; simp [h9i, c27])  (Or.inr ⟨i, by omega, rfl, h9i⟩)
          · obtain ⟨b, hb1, rfl, hb3⟩ := hxx.resolve_left c27
            have kb : (nI b).toNatClampNeg = b := nI_clamp (by omega)
            refine go_aload_n dX5_leastTroubled_30 rfl ?_
            refine go_iload_n dX5_leastTroubled_31 rfl ?_
            refine go_Vr [.int (nI i)] [] dX5_leastTroubled_32 vl_X5_179 ⟨by decide, by decide⟩ (e_X5_troubleNow (F := F) (W := W) (A := A) (B := B) hq hn hw hab hM5 hI (by omega) h9i hN8) sc_obj hq (by omega) rfl rfl (Nat.le_of_ble_eq_true rfl) (Nat.le_of_ble_eq_true rfl) (Nat.le_of_ble_eq_true rfl) ?_
            refine go_aload_n dX5_leastTroubled_35 rfl ?_
            refine go_iload_n dX5_leastTroubled_36 rfl ?_
            refine go_Vr [.int (nI b)] [.int (trN A i)] dX5_leastTroubled_37 vl_X5_179 ⟨by decide, by decide⟩ (e_X5_troubleNow (F := F) (W := W) (A := A) (B := B) hq hn hw hab hM5 hI (by omega) hb3 hN8) sc_obj hq (by omega) rfl rfl (Nat.le_of_ble_eq_true rfl) (Nat.le_of_ble_eq_true rfl) (Nat.le_of_ble_eq_true rfl) ?_
            refine go_icmp_ge dX5_leastTroubled_40 (fun c40 => ?_) (fun c40 => ?_)
            · have c40 := Int32.not_lt.mpr c40
              refine go_iinc (v := nI (i + 1)) (ls' := [some (.ref s), some (.int (nI b)), some (.int (nI (i + 1)))]) dX5_leastTroubled_45 rfl (nI_1 (i)) ⟨by decide, rfl, rfl⟩ ?_
              refine go_goto dX5_leastTroubled_48 ?_
              exact ih_lp0 (i + 1) _ (by omega) (by omega) (by unfold tlB; rw [← hx]; simp [h9i, c27, c40, kb])  (Or.inr ⟨b, hb1, rfl, hb3⟩)
            · have c40 := Int32.not_le.mp c40
              refine go_iload_n dX5_leastTroubled_43 rfl ?_
              refine go_istore_n (ls' := [some (.ref s), some (.int (nI i)), some (.int (nI i))]) dX5_leastTroubled_44 ⟨by decide, rfl, rfl⟩ ?_
              refine go_iinc (v := nI (i + 1)) (ls' := [some (.ref s), some (.int (nI i)), some (.int (nI (i + 1)))]) dX5_leastTroubled_45 rfl (nI_1 (i)) ⟨by decide, rfl, rfl⟩ ?_
              refine go_goto dX5_leastTroubled_48 ?_
              exact ih_lp0 (i + 1) _ (by omega) (by omega) (by unfold tlB; rw [← hx]; simp [h9i, c27, c40, kb])  (Or.inr ⟨i, by omega, rfl, h9i⟩)
  exact lp0 (N + 1) 0 _ (Nat.zero_le _) (by omega) rfl (Or.inl (by decide))
set_option maxHeartbeats 4000000 in
set_option maxRecDepth 100000 in
theorem e_X5_mostTroubled (hq : G.2.1 ≤ s) (hn : s + 8 ≤ n) (hN : F 0 = nI N) (hN8 : N ≤ 8) (hM : F 1 = nI M) (hM5 : M ≤ 5) (hw : whoOK G m0 s n W A) (hab : ∀ l, l < M → A 6 l = 0 ∨ A 6 l = 1) (hI : insOK N M (A 4)) : Ev G mX5_mostTroubled 4 0 0 [.ref s] (sc G m0 s F W A B) n (RD (.int (tlB A false N)) (sc G m0 s F W A B) n) := by
  generalize hQ9 : (RD (.int (tlB A false N)) (sc G m0 s F W A B) n : RQ) = Q9
  refine ev_of (by decide) (Nat.le_of_ble_eq_true rfl) (ls := [some (.ref s), none, none]) rfl (fun hb => ?_)
  refine go_bipush (v := (-4)) dX5_mostTroubled_0 rfl ?_
  refine go_istore_n (ls' := [some (.ref s), some (.int (-4)), none]) dX5_mostTroubled_2 ⟨by decide, rfl, rfl⟩ ?_
  refine go_iconst (v := 0) dX5_mostTroubled_3 rfl ?_
  refine go_istore_n (ls' := [some (.ref s), some (.int (-4)), some (.int 0)]) dX5_mostTroubled_4 ⟨by decide, rfl, rfl⟩ ?_
  have lp0 : ∀ (μ_lp0 : Nat) (i : Nat) (x : Int32) (hi : i ≤ N) (hmi : N + 1 ≤ i + μ_lp0) (hx : x = tlB A false i) (hxx : x < 0 ∨ ∃ b, b < N ∧ x = nI b ∧ ¬ A 4 b = 9), Go G mX5_mostTroubled 4 0 0 Q9 0 0 5 [some (.ref s), some (.int x), some (.int (nI i))] [] (sc G m0 s F W A B) n := by
    intro μ_lp0
    induction μ_lp0 with
    | zero =>
      intro i x hi hmi hx hxx
      exact absurd hmi (by omega)
    | succ μ_lp0 ih_lp0 =>
      intro i x hi hmi hx hxx
      refine go_iload_n dX5_mostTroubled_5 rfl ?_
      refine go_aload_n dX5_mostTroubled_6 rfl ?_
      refine go_get dX5_mostTroubled_7 fl_X5_9_5 sc_obj hq (by omega) rfl ?_
      refine go_tp (z := nI N) (hN) ?_
      refine go_icmp_ge dX5_mostTroubled_10 (fun c10 => ?_) (fun c10 => ?_)
      · have c10n := (nI_leI (a := N) (b := i) (by omega) (by omega)).mp c10
        have c10n := Nat.not_lt.mpr c10n
        have c10 := Int32.not_lt.mpr c10
        refine go_iload_n dX5_mostTroubled_51 rfl ?_
        exact go_iret dX5_mostTroubled_52 rfl (Nat.le_of_ble_eq_true rfl) (Nat.le_of_ble_eq_true rfl) (hQ9 ▸ ⟨rd_i (by rw [hx, show i = N by omega]), rfl, rfl⟩)
      · have c10n := mt (nI_leI (a := N) (b := i) (by omega) (by omega)).mpr c10
        have c10n := Nat.lt_of_not_le c10n
        have c10 := Int32.not_le.mp c10
        refine go_aload_n dX5_mostTroubled_13 rfl ?_
        refine go_aload_n dX5_mostTroubled_14 rfl ?_
        refine go_get dX5_mostTroubled_15 fl_X5_31_5 sc_obj hq (by omega) rfl ?_
        refine go_iload_n dX5_mostTroubled_18 rfl ?_
        refine go_iald dX5_mostTroubled_19 sc_3 (by omega) (by omega) (vp_in_nI (n := i) (by show i < 8; omega) (by decide)) ?_
        refine go_tp (z := A 4 i) (by rw [nI_clamp (by omega)]) ?_
        refine go_Vr [.int (A 4 i)] [] dX5_mostTroubled_20 vl_X5_55 ⟨by decide, by decide⟩ (e_X5_hasLocker (F := F) (W := W) (A := A) (B := B) hq hn hM hM5) sc_obj hq (by omega) rfl rfl (Nat.le_of_ble_eq_true rfl) (Nat.le_of_ble_eq_true rfl) (Nat.le_of_ble_eq_true rfl) ?_
        refine go_if_eq dX5_mostTroubled_23 (fun c23 => ?_) (fun c23 => ?_)
        · have c23 := bz_f c23
          have h9e : A 4 i = 9 := (hI i (by omega)).resolve_right (fun ⟨k, hk, e⟩ => c23 (e ▸ okp_of hk (by omega)))
          refine go_iinc (v := nI (i + 1)) (ls' := [some (.ref s), some (.int x), some (.int (nI (i + 1)))]) dX5_mostTroubled_45 rfl (nI_1 (i)) ⟨by decide, rfl, rfl⟩ ?_
          refine go_goto dX5_mostTroubled_48 ?_
          exact ih_lp0 (i + 1) _ (by omega) (by omega) (by unfold tlB; rw [← hx]; simp [h9e])  (hxx)
        · have c23 := bz_t c23
          have h9i : ¬ A 4 i = 9 := fun z => by rw [z] at c23; have := okp_lt (N := M) (i := 9) c23 (by omega) (by omega); omega
          refine go_iload_n dX5_mostTroubled_26 rfl ?_
          refine go_if_lt dX5_mostTroubled_27 (fun c27 => ?_) (fun c27 => ?_)
          · refine go_iload_n dX5_mostTroubled_43 rfl ?_
            refine go_istore_n (ls' := [some (.ref s), some (.int (nI i)), some (.int (nI i))]) dX5_mostTroubled_44 ⟨by decide, rfl, rfl⟩ ?_
            refine go_iinc (v := nI (i + 1)) (ls' := [some (.ref s), some (.int (nI i)), some (.int (nI (i + 1)))]) dX5_mostTroubled_45 rfl (nI_1 (i)) ⟨by decide, rfl, rfl⟩ ?_
            refine go_goto dX5_mostTroubled_48 ?_
            exact ih_lp0 (i + 1) _ (by omega) (by omega) (by unfold tlB; rw [← hx]; simp [h9i, c27])  (Or.inr ⟨i, by omega, rfl, h9i⟩)
          · obtain ⟨b, hb1, rfl, hb3⟩ := hxx.resolve_left c27
            have kb : (nI b).toNatClampNeg = b := nI_clamp (by omega)
            refine go_aload_n dX5_mostTroubled_30 rfl ?_
            refine go_iload_n dX5_mostTroubled_31 rfl ?_
            refine go_Vr [.int (nI i)] [] dX5_mostTroubled_32 vl_X5_179 ⟨by decide, by decide⟩ (e_X5_troubleNow (F := F) (W := W) (A := A) (B := B) hq hn hw hab hM5 hI (by omega) h9i hN8) sc_obj hq (by omega) rfl rfl (Nat.le_of_ble_eq_true rfl) (Nat.le_of_ble_eq_true rfl) (Nat.le_of_ble_eq_true rfl) ?_
            refine go_aload_n dX5_mostTroubled_35 rfl ?_
            refine go_iload_n dX5_mostTroubled_36 rfl ?_
            refine go_Vr [.int (nI b)] [.int (trN A i)] dX5_mostTroubled_37 vl_X5_179 ⟨by decide, by decide⟩ (e_X5_troubleNow (F := F) (W := W) (A := A) (B := B) hq hn hw hab hM5 hI (by omega) hb3 hN8) sc_obj hq (by omega) rfl rfl (Nat.le_of_ble_eq_true rfl) (Nat.le_of_ble_eq_true rfl) (Nat.le_of_ble_eq_true rfl) ?_
            refine go_icmp_le dX5_mostTroubled_40 (fun c40 => ?_) (fun c40 => ?_)
            · have c40 := Int32.not_lt.mpr c40
              refine go_iinc (v := nI (i + 1)) (ls' := [some (.ref s), some (.int (nI b)), some (.int (nI (i + 1)))]) dX5_mostTroubled_45 rfl (nI_1 (i)) ⟨by decide, rfl, rfl⟩ ?_
              refine go_goto dX5_mostTroubled_48 ?_
              exact ih_lp0 (i + 1) _ (by omega) (by omega) (by unfold tlB; rw [← hx]; simp [h9i, c27, c40, kb])  (Or.inr ⟨b, hb1, rfl, hb3⟩)
            · have c40 := Int32.not_le.mp c40
              refine go_iload_n dX5_mostTroubled_43 rfl ?_
              refine go_istore_n (ls' := [some (.ref s), some (.int (nI i)), some (.int (nI i))]) dX5_mostTroubled_44 ⟨by decide, rfl, rfl⟩ ?_
              refine go_iinc (v := nI (i + 1)) (ls' := [some (.ref s), some (.int (nI i)), some (.int (nI (i + 1)))]) dX5_mostTroubled_45 rfl (nI_1 (i)) ⟨by decide, rfl, rfl⟩ ?_
              refine go_goto dX5_mostTroubled_48 ?_
              exact ih_lp0 (i + 1) _ (by omega) (by omega) (by unfold tlB; rw [← hx]; simp [h9i, c27, c40, kb])  (Or.inr ⟨i, by omega, rfl, h9i⟩)
  exact lp0 (N + 1) 0 _ (Nat.zero_le _) (by omega) rfl (Or.inl (by decide))
end C3
