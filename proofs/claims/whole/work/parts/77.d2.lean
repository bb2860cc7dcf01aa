/-! the face: what changes now, and what asks the ways -/
def xwK (G : GX) (m1 : Mem) (x s i t w os rs n : Nat) (b : Int32) : Prop := m1 x = ob 11 (xfs s i t w os rs b) ∧ G.2.1 ≤ x ∧ x < n ∧ (x < s ∨ s + 8 ≤ x) ∧ (x < w ∨ w + 5 ≤ x)
theorem xwK.at {G : GX} {m1 : Mem} {x s i t w os rs n : Nat} {b : Int32} {F : Nat → Int32} {W : Nat → Option Nat} {A : Nat → Nat → Int32} {B : Nat → Int32} {V C Mt T : Nat → Int32} {Wl : Nat → Int64} (h : xwK G m1 x s i t w os rs n b) : sc G (wy G m1 w V C Mt Wl T) s F W A B x = ob 11 (xfs s i t w os rs b) := (sc_out h.2.2.2.1).trans ((wy_out h.2.2.2.2).trans h.1)
def ttR (N : Nat) (A : Nat → Nat → Int32) (rs : Bool) (C Mt : Nat → Int32) : RS := pairS N A rs (N + 1) 0 0 (frN 8 Mt) (-1, 0, C)
def cbeS (N : Nat) (A : Nat → Nat → Int32) (C Mt : Nat → Int32) (i : Int32) : Int32 := if i = -1 then (ttR N A false C Mt).1 else if okp N i = true then (ttR N A false C Mt).2.2 i.toNatClampNeg else -1
def creS (N : Nat) (A : Nat → Nat → Int32) (C Mt : Nat → Int32) (i : Int32) : Int32 := if i = -1 then (ttR N A true C Mt).2.1 else if okp N i = true then (if (ttR N A true C Mt).2.1 = 0 then -5 else (ttR N A true C Mt).2.2 i.toNatClampNeg) else -1
def cpaS (N M : Nat) (A : Nat → Nat → Int32) (i : Int32) : Int32 := if okp N i = true then plnS (plcW N M A) i.toNatClampNeg else -1
section D2
variable {G : GX} {m1 m0 f : Mem} {x s i0 t w os rs n N M : Nat} {F V : Nat → Int32} {W : Nat → Option Nat} {A : Nat → Nat → Int32} {B C Mt T : Nat → Int32} {Wl : Nat → Int64} {b : Int32}
set_option maxHeartbeats 4000000 in
set_option maxRecDepth 100000 in
theorem e_X11_stands (hX : xoK G m0 x s i0 t w os rs n b) (hq : G.2.1 ≤ s) (hn : s + 8 ≤ n) (hM : F 1 = nI M) (hM5 : M ≤ 5) {far ab : Int32} : Ev G mX11_stands 7 0 0 [.ref x, .int far, .int ab] (sc G m0 s F W A B) n (fun r f1 n1 => r = some (.int (stR M far ab)) ∧ f1 = (sc G m0 s (if stC M far ab then upd F 1 (nI (M + 1)) else F) W (if stC M far ab then lcA M A far ab else A) B) ∧ n1 = n) := by
  generalize hQ9 : (fun r f1 n1 => r = some (.int (stR M far ab)) ∧ f1 = (sc G m0 s (if stC M far ab then upd F 1 (nI (M + 1)) else F) W (if stC M far ab then lcA M A far ab else A) B) ∧ n1 = n : RQ) = Q9
  refine ev_of (by decide) (Nat.le_of_ble_eq_true rfl) (ls := [some (.ref x), some (.int far), some (.int ab)]) rfl (fun hb => ?_)
  refine go_aload_n dX11_stands_0 rfl ?_
  refine go_get dX11_stands_1 fl_X11_10_11 hX.at hX.2.1 hX.2.2.1 rfl ?_
  refine go_iload_n dX11_stands_4 rfl ?_
  refine go_iload_n dX11_stands_5 rfl ?_
  refine go_V [.int far, .int ab] [] dX11_stands_6 vl_X11_137 ⟨by decide, by decide⟩ (e_X5_stand (F := F) (W := W) (A := A) (B := B) hq hn hM hM5) sc_obj hq (by omega) rfl rfl (Nat.le_of_ble_eq_true rfl) (Nat.le_of_ble_eq_true rfl) (Nat.le_of_ble_eq_true rfl) (fun r6 f6 n6 h6 => ?_)
  obtain ⟨rfl, rfl, hn6⟩ := h6
  subst n6
  exact go_iret dX11_stands_9 rfl (Nat.le_of_ble_eq_true rfl) (Nat.le_of_ble_eq_true rfl) (hQ9 ▸ ⟨rfl, rfl, rfl⟩)
set_option maxHeartbeats 4000000 in
set_option maxRecDepth 100000 in
theorem e_X11_moves (hX : xoK G m0 x s i0 t w os rs n b) (hq : G.2.1 ≤ s) (hn : s + 8 ≤ n) (hN : F 0 = nI N) (hN8 : N ≤ 8) (hM : F 1 = nI M) (hM5 : M ≤ 5) {p l : Int32} : Ev G mX11_moves 7 0 0 [.ref x, .int p, .int l] (sc G m0 s F W A B) n (fun r f1 n1 => r = some (.int (mvR N M A p l)) ∧ f1 = (sc G m0 s F W (mvA N M A p l) B) ∧ n1 = n) := by
  generalize hQ9 : (fun r f1 n1 => r = some (.int (mvR N M A p l)) ∧ f1 = (sc G m0 s F W (mvA N M A p l) B) ∧ n1 = n : RQ) = Q9
  refine ev_of (by decide) (Nat.le_of_ble_eq_true rfl) (ls := [some (.ref x), some (.int p), some (.int l)]) rfl (fun hb => ?_)
  refine go_aload_n dX11_moves_0 rfl ?_
  refine go_get dX11_moves_1 fl_X11_10_11 hX.at hX.2.1 hX.2.2.1 rfl ?_
  refine go_iload_n dX11_moves_4 rfl ?_
  refine go_iload_n dX11_moves_5 rfl ?_
  refine go_V [.int p, .int l] [] dX11_moves_6 vl_X11_141 ⟨by decide, by decide⟩ (e_X5_move (F := F) (W := W) (A := A) (B := B) hq hn hN hN8 hM hM5) sc_obj hq (by omega) rfl rfl (Nat.le_of_ble_eq_true rfl) (Nat.le_of_ble_eq_true rfl) (Nat.le_of_ble_eq_true rfl) (fun r6 f6 n6 h6 => ?_)
  obtain ⟨rfl, rfl, hn6⟩ := h6
  subst n6
  exact go_iret dX11_moves_9 rfl (Nat.le_of_ble_eq_true rfl) (Nat.le_of_ble_eq_true rfl) (hQ9 ▸ ⟨rfl, rfl, rfl⟩)
set_option maxHeartbeats 4000000 in
set_option maxRecDepth 100000 in
theorem e_X11_changes (hX : xoK G m0 x s i0 t w os rs n b) (hq : G.2.1 ≤ s) (hn : s + 8 ≤ n) (hN : F 0 = nI N) (hN8 : N ≤ 8) {a z : Int32} : Ev G mX11_changes 7 0 0 [.ref x, .int a, .int z] (sc G m0 s F W A B) n (fun r f1 n1 => r = some (.int (chR N A a z)) ∧ f1 = (sc G m0 s F W (chA N A a z) B) ∧ n1 = n) := by
  generalize hQ9 : (fun r f1 n1 => r = some (.int (chR N A a z)) ∧ f1 = (sc G m0 s F W (chA N A a z) B) ∧ n1 = n : RQ) = Q9
  refine ev_of (by decide) (Nat.le_of_ble_eq_true rfl) (ls := [some (.ref x), some (.int a), some (.int z)]) rfl (fun hb => ?_)
  refine go_aload_n dX11_changes_0 rfl ?_
  refine go_get dX11_changes_1 fl_X11_10_11 hX.at hX.2.1 hX.2.2.1 rfl ?_
  refine go_iload_n dX11_changes_4 rfl ?_
  refine go_iload_n dX11_changes_5 rfl ?_
  refine go_V [.int a, .int z] [] dX11_changes_6 vl_X11_144 ⟨by decide, by decide⟩ (e_X5_change (F := F) (W := W) (A := A) (B := B) hq hn hN hN8) sc_obj hq (by omega) rfl rfl (Nat.le_of_ble_eq_true rfl) (Nat.le_of_ble_eq_true rfl) (Nat.le_of_ble_eq_true rfl) (fun r6 f6 n6 h6 => ?_)
  obtain ⟨rfl, rfl, hn6⟩ := h6
  subst n6
  exact go_iret dX11_changes_9 rfl (Nat.le_of_ble_eq_true rfl) (Nat.le_of_ble_eq_true rfl) (hQ9 ▸ ⟨rfl, rfl, rfl⟩)
set_option maxHeartbeats 4000000 in
set_option maxRecDepth 100000 in
theorem e_X11_loses (hX : xoK G m0 x s i0 t w os rs n b) (hq : G.2.1 ≤ s) (hn : s + 8 ≤ n) (hM : F 1 = nI M) (hM5 : M ≤ 5) (hky : kyOK M (A 7)) {l : Int32} : Ev G mX11_loses 7 0 0 [.ref x, .int l] (sc G m0 s F W A B) n (fun r f1 n1 => r = some (.int (loR M A l)) ∧ f1 = (sc G m0 s F W (loA M A l) B) ∧ n1 = n) := by
  generalize hQ9 : (fun r f1 n1 => r = some (.int (loR M A l)) ∧ f1 = (sc G m0 s F W (loA M A l) B) ∧ n1 = n : RQ) = Q9
  refine ev_of (by decide) (Nat.le_of_ble_eq_true rfl) (ls := [some (.ref x), some (.int l)]) rfl (fun hb => ?_)
  refine go_aload_n dX11_loses_0 rfl ?_
  refine go_get dX11_loses_1 fl_X11_10_11 hX.at hX.2.1 hX.2.2.1 rfl ?_
  refine go_iload_n dX11_loses_4 rfl ?_
  refine go_V [.int l] [] dX11_loses_5 vl_X11_147 ⟨by decide, by decide⟩ (e_X5_lose (F := F) (W := W) (A := A) (B := B) hq hn hM hM5 hky) sc_obj hq (by omega) rfl rfl (Nat.le_of_ble_eq_true rfl) (Nat.le_of_ble_eq_true rfl) (Nat.le_of_ble_eq_true rfl) (fun r5 f5 n5 h5 => ?_)
  obtain ⟨rfl, rfl, hn5⟩ := h5
  subst n5
  exact go_iret dX11_loses_8 rfl (Nat.le_of_ble_eq_true rfl) (Nat.le_of_ble_eq_true rfl) (hQ9 ▸ ⟨rfl, rfl, rfl⟩)
set_option maxHeartbeats 4000000 in
set_option maxRecDepth 100000 in
theorem e_X11_makes (hX : xoK G m0 x s i0 t w os rs n b) (hq : G.2.1 ≤ s) (hn : s + 8 ≤ n) (hM : F 1 = nI M) (hM5 : M ≤ 5) {P : Int32} (hP : F 2 = P) {l : Int32} : Ev G mX11_makes 7 0 0 [.ref x, .int l] (sc G m0 s F W A B) n (fun r f1 n1 => r = some (.int (maR M P l)) ∧ f1 = (sc G m0 s (if mkC M P l then upd F 2 (P + 5) else F) W (if mkC M P l then mkA A l else A) B) ∧ n1 = n) := by
  generalize hQ9 : (fun r f1 n1 => r = some (.int (maR M P l)) ∧ f1 = (sc G m0 s (if mkC M P l then upd F 2 (P + 5) else F) W (if mkC M P l then mkA A l else A) B) ∧ n1 = n : RQ) = Q9
  refine ev_of (by decide) (Nat.le_of_ble_eq_true rfl) (ls := [some (.ref x), some (.int l)]) rfl (fun hb => ?_)
  refine go_aload_n dX11_makes_0 rfl ?_
  refine go_get dX11_makes_1 fl_X11_10_11 hX.at hX.2.1 hX.2.2.1 rfl ?_
  refine go_iload_n dX11_makes_4 rfl ?_
  refine go_V [.int l] [] dX11_makes_5 vl_X11_150 ⟨by decide, by decide⟩ (e_X5_make (F := F) (W := W) (A := A) (B := B) hq hn hM hM5 hP) sc_obj hq (by omega) rfl rfl (Nat.le_of_ble_eq_true rfl) (Nat.le_of_ble_eq_true rfl) (Nat.le_of_ble_eq_true rfl) (fun r5 f5 n5 h5 => ?_)
  obtain ⟨rfl, rfl, hn5⟩ := h5
  subst n5
  exact go_iret dX11_makes_8 rfl (Nat.le_of_ble_eq_true rfl) (Nat.le_of_ble_eq_true rfl) (hQ9 ▸ ⟨rfl, rfl, rfl⟩)
set_option maxHeartbeats 4000000 in
set_option maxRecDepth 100000 in
theorem e_X11_best (hX : xwK G m1 x s i0 t w os rs n b) (hq : G.2.1 ≤ s) (hn : s + 8 ≤ n) (hqw : G.2.1 ≤ w) (hnw : w + 5 ≤ n) (hdw : w + 5 ≤ s ∨ s + 8 ≤ w) (hN : F 0 = nI N) (hN8 : N ≤ 8) (hbe : ∀ a b, a < N → b < N → B (a * 8 + b) = brS A a b) {i : Int32} : Ev G mX11_best 25 0 0 [.ref x, .int i] (sc G (wy G m1 w V C Mt Wl T) s F W A B) n (fun r f1 n1 => r = some (.int (cbeS N A C Mt i)) ∧ (f1 = (sc G (wy G m1 w V C Mt Wl T) s F W A B) ∨ f1 = (sc G (wy G m1 w (wV (ttR N A false C Mt) (if false then 1 else 0) (V 2)) (ttR N A false C Mt).2.2 (frN 8 Mt) Wl T) s F W A B)) ∧ n1 = n) := by
  generalize hQ9 : (fun r f1 n1 => r = some (.int (cbeS N A C Mt i)) ∧ (f1 = (sc G (wy G m1 w V C Mt Wl T) s F W A B) ∨ f1 = (sc G (wy G m1 w (wV (ttR N A false C Mt) (if false then 1 else 0) (V 2)) (ttR N A false C Mt).2.2 (frN 8 Mt) Wl T) s F W A B)) ∧ n1 = n : RQ) = Q9
  refine ev_of (by decide) (Nat.le_of_ble_eq_true rfl) (ls := [some (.ref x), some (.int i)]) rfl (fun hb => ?_)
  refine go_iload_n dX11_best_0 rfl ?_
  refine go_iconst (v := (-1)) dX11_best_1 rfl ?_
  refine go_icmp_eq dX11_best_2 (fun c2 => ?_) (fun c2 => ?_)
  · subst c2
    refine go_aload_n dX11_best_18 rfl ?_
    refine go_get dX11_best_19 fl_X11_25_11 hX.at hX.2.1 hX.2.2.1 rfl ?_
    refine go_aload_n dX11_best_22 rfl ?_
    refine go_get dX11_best_23 fl_X11_10_11 hX.at hX.2.1 hX.2.2.1 rfl ?_
    refine go_iconst (v := 0) dX11_best_26 rfl ?_
    refine go_V [.ref s, .int 0] [] dX11_best_27 vl_X11_177 ⟨by decide, by decide⟩ (e_X9_tryTwos (V := V) (C := C) (Mt := Mt) (Wl := Wl) (T := T) (F := F) (W := W) (A := A) (B := B) hq hn hqw hnw hdw hN hN8 hbe (rs := false)) ((sc_out (by omega)).trans wy_obj) hqw (by omega) rfl rfl (Nat.le_of_ble_eq_true rfl) (Nat.le_of_ble_eq_true rfl) (Nat.le_of_ble_eq_true rfl) (fun r27 f27 n27 h27 => ?_)
    obtain ⟨rfl, rfl, hn27⟩ := h27
    subst n27
    refine go_mem (f' := (sc G (wy G m1 w (wV (ttR N A false C Mt) (if false then 1 else 0) (V 2)) (ttR N A false C Mt).2.2 (frN 8 Mt) Wl T) s F W A B)) rfl ?_
    refine go_iload_n dX11_best_30 rfl ?_
    refine go_iconst (v := (-1)) dX11_best_31 rfl ?_
    refine go_icmp_ne dX11_best_32 (fun c32 => ?_) (fun c32 => ?_)
    · first | exact absurd c32 (by decide) | exact absurd (by decide) c32 | exact absurd rfl c32 | omega
    · refine go_aload_n dX11_best_35 rfl ?_
      refine go_get dX11_best_36 fl_X11_25_11 hX.at hX.2.1 hX.2.2.1 rfl ?_
      refine go_get dX11_best_39 fl_X11_181_9 ((sc_out (by omega)).trans wy_obj) hqw (by omega) rfl ?_
      refine go_tp (z := (ttR N A false C Mt).1) rfl ?_
      refine go_goto dX11_best_42 ?_
      exact go_iret dX11_best_54 rfl (Nat.le_of_ble_eq_true rfl) (Nat.le_of_ble_eq_true rfl) (hQ9 ▸ ⟨rd_i (a := (ttR N A false C Mt).1) (by simp [cbeS]), Or.inr rfl, rfl⟩)
  · refine go_aload_n dX11_best_5 rfl ?_
    refine go_get dX11_best_6 fl_X11_10_11 hX.at hX.2.1 hX.2.2.1 rfl ?_
    refine go_iload_n dX11_best_9 rfl ?_
    refine go_Vr [.int i] [] dX11_best_10 vl_X11_79 ⟨by decide, by decide⟩ (e_X5_hasPupil (F := F) (W := W) (A := A) (B := B) hq hn hN hN8) sc_obj hq (by omega) rfl rfl (Nat.le_of_ble_eq_true rfl) (Nat.le_of_ble_eq_true rfl) (Nat.le_of_ble_eq_true rfl) ?_
    refine go_if_ne dX11_best_13 (fun c13 => ?_) (fun c13 => ?_)
    · have c13 := bz_t c13
      obtain ⟨ji, hji, rfl⟩ := okp_nI c13 (by omega)
      have kji : (nI ji).toNatClampNeg = ji := nI_clamp (by omega)
      refine go_aload_n dX11_best_18 rfl ?_
      refine go_get dX11_best_19 fl_X11_25_11 hX.at hX.2.1 hX.2.2.1 rfl ?_
      refine go_aload_n dX11_best_22 rfl ?_
      refine go_get dX11_best_23 fl_X11_10_11 hX.at hX.2.1 hX.2.2.1 rfl ?_
      refine go_iconst (v := 0) dX11_best_26 rfl ?_
      refine go_V [.ref s, .int 0] [] dX11_best_27 vl_X11_177 ⟨by decide, by decide⟩ (e_X9_tryTwos (V := V) (C := C) (Mt := Mt) (Wl := Wl) (T := T) (F := F) (W := W) (A := A) (B := B) hq hn hqw hnw hdw hN hN8 hbe (rs := false)) ((sc_out (by omega)).trans wy_obj) hqw (by omega) rfl rfl (Nat.le_of_ble_eq_true rfl) (Nat.le_of_ble_eq_true rfl) (Nat.le_of_ble_eq_true rfl) (fun r27 f27 n27 h27 => ?_)
      obtain ⟨rfl, rfl, hn27⟩ := h27
      subst n27
      refine go_mem (f' := (sc G (wy G m1 w (wV (ttR N A false C Mt) (if false then 1 else 0) (V 2)) (ttR N A false C Mt).2.2 (frN 8 Mt) Wl T) s F W A B)) rfl ?_
      refine go_iload_n dX11_best_30 rfl ?_
      refine go_iconst (v := (-1)) dX11_best_31 rfl ?_
      refine go_icmp_ne dX11_best_32 (fun c32 => ?_) (fun c32 => ?_)
      · refine go_aload_n dX11_best_45 rfl ?_
        refine go_get dX11_best_46 fl_X11_25_11 hX.at hX.2.1 hX.2.2.1 rfl ?_
        refine go_get dX11_best_49 fl_X11_184_9 ((sc_out (by omega)).trans wy_obj) hqw (by omega) rfl ?_
        refine go_iload_n dX11_best_52 rfl ?_
        refine go_iald dX11_best_53 ((sc_out (by omega)).trans wy_1) (by omega) (by omega) (vp_in_nI (n := ji) (by show ji < 8; omega) (by decide)) ?_
        refine go_tp (z := (ttR N A false C Mt).2.2 ji) (by rw [nI_clamp (by omega)]) ?_
        exact go_iret dX11_best_54 rfl (Nat.le_of_ble_eq_true rfl) (Nat.le_of_ble_eq_true rfl) (hQ9 ▸ ⟨rd_i (a := (ttR N A false C Mt).2.2 ji) (by simp [cbeS, c2, c13, kji, c32]), Or.inr rfl, rfl⟩)
      · refine go_aload_n dX11_best_35 rfl ?_
        refine go_get dX11_best_36 fl_X11_25_11 hX.at hX.2.1 hX.2.2.1 rfl ?_
        refine go_get dX11_best_39 fl_X11_181_9 ((sc_out (by omega)).trans wy_obj) hqw (by omega) rfl ?_
        refine go_tp (z := (ttR N A false C Mt).1) rfl ?_
        refine go_goto dX11_best_42 ?_
        exact go_iret dX11_best_54 rfl (Nat.le_of_ble_eq_true rfl) (Nat.le_of_ble_eq_true rfl) (hQ9 ▸ ⟨rd_i (a := (ttR N A false C Mt).1) (by simp [cbeS, c2, c13, kji, c32]), Or.inr rfl, rfl⟩)
    · have c13 := bz_f c13
      refine go_iconst (v := (-1)) dX11_best_16 rfl ?_
      exact go_iret dX11_best_17 rfl (Nat.le_of_ble_eq_true rfl) (Nat.le_of_ble_eq_true rfl) (hQ9 ▸ ⟨rd_i (a := (-1)) (by simp [cbeS, c2, c13]), Or.inl rfl, rfl⟩)
set_option maxHeartbeats 4000000 in
set_option maxRecDepth 100000 in
theorem e_X11_rests (hX : xwK G m1 x s i0 t w os rs n b) (hq : G.2.1 ≤ s) (hn : s + 8 ≤ n) (hqw : G.2.1 ≤ w) (hnw : w + 5 ≤ n) (hdw : w + 5 ≤ s ∨ s + 8 ≤ w) (hN : F 0 = nI N) (hN8 : N ≤ 8) (hbe : ∀ a b, a < N → b < N → B (a * 8 + b) = brS A a b) {i : Int32} : Ev G mX11_rests 25 0 0 [.ref x, .int i] (sc G (wy G m1 w V C Mt Wl T) s F W A B) n (fun r f1 n1 => r = some (.int (creS N A C Mt i)) ∧ (f1 = (sc G (wy G m1 w V C Mt Wl T) s F W A B) ∨ f1 = (sc G (wy G m1 w (wV (ttR N A true C Mt) (if true then 1 else 0) (V 2)) (ttR N A true C Mt).2.2 (frN 8 Mt) Wl T) s F W A B)) ∧ n1 = n) := by
  generalize hQ9 : (fun r f1 n1 => r = some (.int (creS N A C Mt i)) ∧ (f1 = (sc G (wy G m1 w V C Mt Wl T) s F W A B) ∨ f1 = (sc G (wy G m1 w (wV (ttR N A true C Mt) (if true then 1 else 0) (V 2)) (ttR N A true C Mt).2.2 (frN 8 Mt) Wl T) s F W A B)) ∧ n1 = n : RQ) = Q9
  refine ev_of (by decide) (Nat.le_of_ble_eq_true rfl) (ls := [some (.ref x), some (.int i)]) rfl (fun hb => ?_)
  refine go_iload_n dX11_rests_0 rfl ?_
  refine go_iconst (v := (-1)) dX11_rests_1 rfl ?_
  refine go_icmp_eq dX11_rests_2 (fun c2 => ?_) (fun c2 => ?_)
  · subst c2
    refine go_aload_n dX11_rests_18 rfl ?_
    refine go_get dX11_rests_19 fl_X11_25_11 hX.at hX.2.1 hX.2.2.1 rfl ?_
    refine go_aload_n dX11_rests_22 rfl ?_
    refine go_get dX11_rests_23 fl_X11_10_11 hX.at hX.2.1 hX.2.2.1 rfl ?_
    refine go_iconst (v := 1) dX11_rests_26 rfl ?_
    refine go_V [.ref s, .int 1] [] dX11_rests_27 vl_X11_177 ⟨by decide, by decide⟩ (e_X9_tryTwos (V := V) (C := C) (Mt := Mt) (Wl := Wl) (T := T) (F := F) (W := W) (A := A) (B := B) hq hn hqw hnw hdw hN hN8 hbe (rs := true)) ((sc_out (by omega)).trans wy_obj) hqw (by omega) rfl rfl (Nat.le_of_ble_eq_true rfl) (Nat.le_of_ble_eq_true rfl) (Nat.le_of_ble_eq_true rfl) (fun r27 f27 n27 h27 => ?_)
    obtain ⟨rfl, rfl, hn27⟩ := h27
    subst n27
    refine go_mem (f' := (sc G (wy G m1 w (wV (ttR N A true C Mt) (if true then 1 else 0) (V 2)) (ttR N A true C Mt).2.2 (frN 8 Mt) Wl T) s F W A B)) rfl ?_
    refine go_iload_n dX11_rests_30 rfl ?_
    refine go_iconst (v := (-1)) dX11_rests_31 rfl ?_
    refine go_icmp_ne dX11_rests_32 (fun c32 => ?_) (fun c32 => ?_)
    · first | exact absurd c32 (by decide) | exact absurd (by decide) c32 | exact absurd rfl c32 | omega
    · refine go_aload_n dX11_rests_35 rfl ?_
      refine go_get dX11_rests_36 fl_X11_25_11 hX.at hX.2.1 hX.2.2.1 rfl ?_
      refine go_get dX11_rests_39 fl_X11_187_9 ((sc_out (by omega)).trans wy_obj) hqw (by omega) rfl ?_
      refine go_tp (z := (ttR N A true C Mt).2.1) rfl ?_
      exact go_iret dX11_rests_42 rfl (Nat.le_of_ble_eq_true rfl) (Nat.le_of_ble_eq_true rfl) (hQ9 ▸ ⟨rd_i (a := (ttR N A true C Mt).2.1) (by simp [creS]), Or.inr rfl, rfl⟩)
  · refine go_aload_n dX11_rests_5 rfl ?_
    refine go_get dX11_rests_6 fl_X11_10_11 hX.at hX.2.1 hX.2.2.1 rfl ?_
    refine go_iload_n dX11_rests_9 rfl ?_
    refine go_Vr [.int i] [] dX11_rests_10 vl_X11_79 ⟨by decide, by decide⟩ (e_X5_hasPupil (F := F) (W := W) (A := A) (B := B) hq hn hN hN8) sc_obj hq (by omega) rfl rfl (Nat.le_of_ble_eq_true rfl) (Nat.le_of_ble_eq_true rfl) (Nat.le_of_ble_eq_true rfl) ?_
    refine go_if_ne dX11_rests_13 (fun c13 => ?_) (fun c13 => ?_)
    · have c13 := bz_t c13
      obtain ⟨ji, hji, rfl⟩ := okp_nI c13 (by omega)
      have kji : (nI ji).toNatClampNeg = ji := nI_clamp (by omega)
      refine go_aload_n dX11_rests_18 rfl ?_
      refine go_get dX11_rests_19 fl_X11_25_11 hX.at hX.2.1 hX.2.2.1 rfl ?_
      refine go_aload_n dX11_rests_22 rfl ?_
      refine go_get dX11_rests_23 fl_X11_10_11 hX.at hX.2.1 hX.2.2.1 rfl ?_
      refine go_iconst (v := 1) dX11_rests_26 rfl ?_
      refine go_V [.ref s, .int 1] [] dX11_rests_27 vl_X11_177 ⟨by decide, by decide⟩ (e_X9_tryTwos (V := V) (C := C) (Mt := Mt) (Wl := Wl) (T := T) (F := F) (W := W) (A := A) (B := B) hq hn hqw hnw hdw hN hN8 hbe (rs := true)) ((sc_out (by omega)).trans wy_obj) hqw (by omega) rfl rfl (Nat.le_of_ble_eq_true rfl) (Nat.le_of_ble_eq_true rfl) (Nat.le_of_ble_eq_true rfl) (fun r27 f27 n27 h27 => ?_)
      obtain ⟨rfl, rfl, hn27⟩ := h27
      subst n27
      refine go_mem (f' := (sc G (wy G m1 w (wV (ttR N A true C Mt) (if true then 1 else 0) (V 2)) (ttR N A true C Mt).2.2 (frN 8 Mt) Wl T) s F W A B)) rfl ?_
      refine go_iload_n dX11_rests_30 rfl ?_
      refine go_iconst (v := (-1)) dX11_rests_31 rfl ?_
      refine go_icmp_ne dX11_rests_32 (fun c32 => ?_) (fun c32 => ?_)
      · refine go_aload_n dX11_rests_43 rfl ?_
        refine go_get dX11_rests_44 fl_X11_25_11 hX.at hX.2.1 hX.2.2.1 rfl ?_
        refine go_get dX11_rests_47 fl_X11_187_9 ((sc_out (by omega)).trans wy_obj) hqw (by omega) rfl ?_
        refine go_tp (z := (ttR N A true C Mt).2.1) rfl ?_
        refine go_if_ne dX11_rests_50 (fun c50 => ?_) (fun c50 => ?_)
        · refine go_aload_n dX11_rests_58 rfl ?_
          refine go_get dX11_rests_59 fl_X11_25_11 hX.at hX.2.1 hX.2.2.1 rfl ?_
          refine go_get dX11_rests_62 fl_X11_184_9 ((sc_out (by omega)).trans wy_obj) hqw (by omega) rfl ?_
          refine go_iload_n dX11_rests_65 rfl ?_
          refine go_iald dX11_rests_66 ((sc_out (by omega)).trans wy_1) (by omega) (by omega) (vp_in_nI (n := ji) (by show ji < 8; omega) (by decide)) ?_
          refine go_tp (z := (ttR N A true C Mt).2.2 ji) (by rw [nI_clamp (by omega)]) ?_
          exact go_iret dX11_rests_67 rfl (Nat.le_of_ble_eq_true rfl) (Nat.le_of_ble_eq_true rfl) (hQ9 ▸ ⟨rd_i (a := (ttR N A true C Mt).2.2 ji) (by simp [creS, c2, c13, kji, c32, c50]), Or.inr rfl, rfl⟩)
        · refine go_bipush (v := (-5)) dX11_rests_53 rfl ?_
          refine go_goto dX11_rests_55 ?_
          exact go_iret dX11_rests_67 rfl (Nat.le_of_ble_eq_true rfl) (Nat.le_of_ble_eq_true rfl) (hQ9 ▸ ⟨rd_i (a := (-5)) (by simp [creS, c2, c13, kji, c32, c50]), Or.inr rfl, rfl⟩)
      · refine go_aload_n dX11_rests_35 rfl ?_
        refine go_get dX11_rests_36 fl_X11_25_11 hX.at hX.2.1 hX.2.2.1 rfl ?_
        refine go_get dX11_rests_39 fl_X11_187_9 ((sc_out (by omega)).trans wy_obj) hqw (by omega) rfl ?_
        refine go_tp (z := (ttR N A true C Mt).2.1) rfl ?_
        exact go_iret dX11_rests_42 rfl (Nat.le_of_ble_eq_true rfl) (Nat.le_of_ble_eq_true rfl) (hQ9 ▸ ⟨rd_i (a := (ttR N A true C Mt).2.1) (by simp [creS, c2, c13, kji, c32]), Or.inr rfl, rfl⟩)
    · have c13 := bz_f c13
      refine go_iconst (v := (-1)) dX11_rests_16 rfl ?_
      exact go_iret dX11_rests_17 rfl (Nat.le_of_ble_eq_true rfl) (Nat.le_of_ble_eq_true rfl) (hQ9 ▸ ⟨rd_i (a := (-1)) (by simp [creS, c2, c13]), Or.inl rfl, rfl⟩)
set_option maxHeartbeats 4000000 in
set_option maxRecDepth 100000 in
theorem e_X11_placed (hX : xwK G m1 x s i0 t w os rs n b) (hq : G.2.1 ≤ s) (hn : s + 8 ≤ n) (hqw : G.2.1 ≤ w) (hnw : w + 5 ≤ n) (hdw : w + 5 ≤ s ∨ s + 8 ≤ w) (hN : F 0 = nI N) (hN8 : N ≤ 8) (hM : F 1 = nI M) (hM5 : M ≤ 5) (hbe : ∀ a b, a < N → b < N → B (a * 8 + b) = brS A a b) (hab : ∀ l, l < M → A 6 l = 0 ∨ A 6 l = 1) (hwi : wdOK G m1 s w n W A) : Ev G mX11_placed 8 0 0 [.ref x] (sc G (wy G m1 w V C Mt Wl T) s F W A B) n (fun r f1 n1 => r = some (.int (ctnS (plcW N M A))) ∧ (∃ X T2, f1 = (sc G (wy G m1 w V C Mt X T2) s F W A B)) ∧ n1 = n) := by
  generalize hQ9 : (fun r f1 n1 => r = some (.int (ctnS (plcW N M A))) ∧ (∃ X T2, f1 = (sc G (wy G m1 w V C Mt X T2) s F W A B)) ∧ n1 = n : RQ) = Q9
  refine ev_of (by decide) (Nat.le_of_ble_eq_true rfl) (ls := [some (.ref x)]) rfl (fun hb => ?_)
  refine go_aload_n dX11_placed_0 rfl ?_
  refine go_get dX11_placed_1 fl_X11_25_11 hX.at hX.2.1 hX.2.2.1 rfl ?_
  refine go_aload_n dX11_placed_4 rfl ?_
  refine go_get dX11_placed_5 fl_X11_10_11 hX.at hX.2.1 hX.2.2.1 rfl ?_
  refine go_V [.ref s] [] dX11_placed_8 vl_X11_190 ⟨by decide, by decide⟩ (e_X9_placeAll (V := V) (C := C) (Mt := Mt) (Wl := Wl) (T := T) (F := F) (W := W) (A := A) (B := B) hq hn hqw hnw hdw hN hN8 hM hM5 hbe hab hwi) ((sc_out (by omega)).trans wy_obj) hqw (by omega) rfl rfl (Nat.le_of_ble_eq_true rfl) (Nat.le_of_ble_eq_true rfl) (Nat.le_of_ble_eq_true rfl) (fun r8 f8 n8 h8 => ?_)
  obtain ⟨rfl, ⟨X8, T8, rfl⟩, hn8⟩ := h8
  subst n8
  refine go_Sr [.long (plcW N M A)] [] dX11_placed_11 sl_X11_194 ⟨by decide, by decide⟩ (e_X9_contentIn) rfl rfl (Nat.le_of_ble_eq_true rfl) (Nat.le_of_ble_eq_true rfl) (Nat.le_of_ble_eq_true rfl) ?_
  exact go_iret dX11_placed_14 rfl (Nat.le_of_ble_eq_true rfl) (Nat.le_of_ble_eq_true rfl) (hQ9 ▸ ⟨rfl, ⟨_, _, rfl⟩, rfl⟩)
set_option maxHeartbeats 4000000 in
set_option maxRecDepth 100000 in
theorem e_X11_placedAt (hX : xwK G m1 x s i0 t w os rs n b) (hq : G.2.1 ≤ s) (hn : s + 8 ≤ n) (hqw : G.2.1 ≤ w) (hnw : w + 5 ≤ n) (hdw : w + 5 ≤ s ∨ s + 8 ≤ w) (hN : F 0 = nI N) (hN8 : N ≤ 8) (hM : F 1 = nI M) (hM5 : M ≤ 5) (hbe : ∀ a b, a < N → b < N → B (a * 8 + b) = brS A a b) (hab : ∀ l, l < M → A 6 l = 0 ∨ A 6 l = 1) (hwi : wdOK G m1 s w n W A) {i : Int32} : Ev G mX11_placedAt 8 0 0 [.ref x, .int i] (sc G (wy G m1 w V C Mt Wl T) s F W A B) n (fun r f1 n1 => r = some (.int (cpaS N M A i)) ∧ (∃ X T2, f1 = (sc G (wy G m1 w V C Mt X T2) s F W A B)) ∧ n1 = n) := by
  generalize hQ9 : (fun r f1 n1 => r = some (.int (cpaS N M A i)) ∧ (∃ X T2, f1 = (sc G (wy G m1 w V C Mt X T2) s F W A B)) ∧ n1 = n : RQ) = Q9
  refine ev_of (by decide) (Nat.le_of_ble_eq_true rfl) (ls := [some (.ref x), some (.int i)]) rfl (fun hb => ?_)
  refine go_aload_n dX11_placedAt_0 rfl ?_
  refine go_get dX11_placedAt_1 fl_X11_10_11 hX.at hX.2.1 hX.2.2.1 rfl ?_
  refine go_iload_n dX11_placedAt_4 rfl ?_
  refine go_Vr [.int i] [] dX11_placedAt_5 vl_X11_79 ⟨by decide, by decide⟩ (e_X5_hasPupil (F := F) (W := W) (A := A) (B := B) hq hn hN hN8) sc_obj hq (by omega) rfl rfl (Nat.le_of_ble_eq_true rfl) (Nat.le_of_ble_eq_true rfl) (Nat.le_of_ble_eq_true rfl) ?_
  refine go_if_eq dX11_placedAt_8 (fun c8 => ?_) (fun c8 => ?_)
  · have c8 := bz_f c8
    refine go_iconst (v := (-1)) dX11_placedAt_29 rfl ?_
    exact go_iret dX11_placedAt_30 rfl (Nat.le_of_ble_eq_true rfl) (Nat.le_of_ble_eq_true rfl) (hQ9 ▸ ⟨rd_i (a := (-1)) (by simp [cpaS, c8]), ⟨_, _, rfl⟩, rfl⟩)
  · have c8 := bz_t c8
    obtain ⟨ji, hji, rfl⟩ := okp_nI c8 (by omega)
    have kji : (nI ji).toNatClampNeg = ji := nI_clamp (by omega)
    refine go_aload_n dX11_placedAt_11 rfl ?_
    refine go_get dX11_placedAt_12 fl_X11_25_11 hX.at hX.2.1 hX.2.2.1 rfl ?_
    refine go_aload_n dX11_placedAt_15 rfl ?_
    refine go_get dX11_placedAt_16 fl_X11_10_11 hX.at hX.2.1 hX.2.2.1 rfl ?_
    refine go_V [.ref s] [] dX11_placedAt_19 vl_X11_190 ⟨by decide, by decide⟩ (e_X9_placeAll (V := V) (C := C) (Mt := Mt) (Wl := Wl) (T := T) (F := F) (W := W) (A := A) (B := B) hq hn hqw hnw hdw hN hN8 hM hM5 hbe hab hwi) ((sc_out (by omega)).trans wy_obj) hqw (by omega) rfl rfl (Nat.le_of_ble_eq_true rfl) (Nat.le_of_ble_eq_true rfl) (Nat.le_of_ble_eq_true rfl) (fun r19 f19 n19 h19 => ?_)
    obtain ⟨rfl, ⟨X19, T19, rfl⟩, hn19⟩ := h19
    subst n19
    refine go_iload_n dX11_placedAt_22 rfl ?_
    refine go_Sr [.long (plcW N M A), .int (nI ji)] [] dX11_placedAt_23 sl_X11_198 ⟨by decide, by decide⟩ (e_X9_placeIn (by omega)) rfl rfl (Nat.le_of_ble_eq_true rfl) (Nat.le_of_ble_eq_true rfl) (Nat.le_of_ble_eq_true rfl) ?_
    refine go_goto dX11_placedAt_26 ?_
    exact go_iret dX11_placedAt_30 rfl (Nat.le_of_ble_eq_true rfl) (Nat.le_of_ble_eq_true rfl) (hQ9 ▸ ⟨rd_i (a := plnS (plcW N M A) ji) (by simp [cpaS, c8, kji]), ⟨_, _, rfl⟩, rfl⟩)
end D2
