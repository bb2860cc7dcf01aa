/-! how many bits; the list -/
def bc1 (v : Int32) : Int32 := v - (((v).toUInt32 >>> ((1).toUInt32 &&& Int32.toUInt32 31)).toInt32 &&& 1431655765)
def bc2 (v : Int32) : Int32 := (bc1 v &&& 858993459) + (((bc1 v).toUInt32 >>> ((2).toUInt32 &&& Int32.toUInt32 31)).toInt32 &&& 858993459)
def bc3 (v : Int32) : Int32 := (bc2 v + ((bc2 v).toUInt32 >>> ((4).toUInt32 &&& Int32.toUInt32 31)).toInt32) &&& 252645135
def bc4 (v : Int32) : Int32 := bc3 v + ((bc3 v).toUInt32 >>> ((8).toUInt32 &&& Int32.toUInt32 31)).toInt32
def bc5 (v : Int32) : Int32 := bc4 v + ((bc4 v).toUInt32 >>> ((16).toUInt32 &&& Int32.toUInt32 31)).toInt32
def bcI (v : Int32) : Int32 := bc5 v &&& 63
def cliS (N M : Nat) (A : Nat → Nat → Int32) (what : Int32) : Int32 := if okr what 0 1 = true then (if what = 0 then alS N (liA N M A) else bcI (btB (fun p => decide (¬ A 4 p = liA N M A 4 p)) N)) else 1000000001
section D10
variable {G : GX} {m0 f : Mem} {x s i0 t w os rs n N M : Nat} {F F3 : Nat → Int32} {W W3 : Nat → Option Nat} {A A3 : Nat → Nat → Int32} {B B3 : Nat → Int32} {b : Int32}
set_option maxHeartbeats 4000000 in
set_option maxRecDepth 100000 in
theorem e_J6_bitCount {v : Int32} : Ev G mJ6_bitCount_0f7a4 1 0 0 [.int v] f n (RD (.int (bcI v)) f n) := by
  generalize hQ9 : (RD (.int (bcI v)) f n : RQ) = Q9
  refine ev_ofJ (by decide +kernel) (Nat.le_of_ble_eq_true rfl) (ls := [some (.int v)]) rfl (fun hb => ?_)
  refine go_iload_n dJ6_bitCount_0f7a4_0 rfl ?_
  refine go_iload_n dJ6_bitCount_0f7a4_1 rfl ?_
  refine go_iconst (v := 1) dJ6_bitCount_0f7a4_2 rfl ?_
  refine go_iushr dJ6_bitCount_0f7a4_3 rfl ?_
  refine go_ldcw (v := 1431655765) dJ6_bitCount_0f7a4_4 wm_682 ?_
  refine go_iand dJ6_bitCount_0f7a4_7 ?_
  refine go_isub dJ6_bitCount_0f7a4_8 ?_
  refine go_tp (z := bc1 v) rfl ?_
  refine go_istore_n (ls' := [some (.int (bc1 v))]) dJ6_bitCount_0f7a4_9 ⟨by decide, rfl, rfl⟩ ?_
  refine go_iload_n dJ6_bitCount_0f7a4_10 rfl ?_
  refine go_ldcw (v := 858993459) dJ6_bitCount_0f7a4_11 wm_683 ?_
  refine go_iand dJ6_bitCount_0f7a4_14 ?_
  refine go_iload_n dJ6_bitCount_0f7a4_15 rfl ?_
  refine go_iconst (v := 2) dJ6_bitCount_0f7a4_16 rfl ?_
  refine go_iushr dJ6_bitCount_0f7a4_17 rfl ?_
  refine go_ldcw (v := 858993459) dJ6_bitCount_0f7a4_18 wm_683 ?_
  refine go_iand dJ6_bitCount_0f7a4_21 ?_
  refine go_iadd dJ6_bitCount_0f7a4_22 ?_
  refine go_tp (z := bc2 v) rfl ?_
  refine go_istore_n (ls' := [some (.int (bc2 v))]) dJ6_bitCount_0f7a4_23 ⟨by decide, rfl, rfl⟩ ?_
  refine go_iload_n dJ6_bitCount_0f7a4_24 rfl ?_
  refine go_iload_n dJ6_bitCount_0f7a4_25 rfl ?_
  refine go_iconst (v := 4) dJ6_bitCount_0f7a4_26 rfl ?_
  refine go_iushr dJ6_bitCount_0f7a4_27 rfl ?_
  refine go_iadd dJ6_bitCount_0f7a4_28 ?_
  refine go_ldcw (v := 252645135) dJ6_bitCount_0f7a4_29 wm_684 ?_
  refine go_iand dJ6_bitCount_0f7a4_32 ?_
  refine go_tp (z := bc3 v) rfl ?_
  refine go_istore_n (ls' := [some (.int (bc3 v))]) dJ6_bitCount_0f7a4_33 ⟨by decide, rfl, rfl⟩ ?_
  refine go_iload_n dJ6_bitCount_0f7a4_34 rfl ?_
  refine go_iload_n dJ6_bitCount_0f7a4_35 rfl ?_
  refine go_bipush (v := 8) dJ6_bitCount_0f7a4_36 rfl ?_
  refine go_iushr dJ6_bitCount_0f7a4_38 rfl ?_
  refine go_iadd dJ6_bitCount_0f7a4_39 ?_
  refine go_tp (z := bc4 v) rfl ?_
  refine go_istore_n (ls' := [some (.int (bc4 v))]) dJ6_bitCount_0f7a4_40 ⟨by decide, rfl, rfl⟩ ?_
  refine go_iload_n dJ6_bitCount_0f7a4_41 rfl ?_
  refine go_iload_n dJ6_bitCount_0f7a4_42 rfl ?_
  refine go_bipush (v := 16) dJ6_bitCount_0f7a4_43 rfl ?_
  refine go_iushr dJ6_bitCount_0f7a4_45 rfl ?_
  refine go_iadd dJ6_bitCount_0f7a4_46 ?_
  refine go_tp (z := bc5 v) rfl ?_
  refine go_istore_n (ls' := [some (.int (bc5 v))]) dJ6_bitCount_0f7a4_47 ⟨by decide, rfl, rfl⟩ ?_
  refine go_iload_n dJ6_bitCount_0f7a4_48 rfl ?_
  refine go_bipush (v := 63) dJ6_bitCount_0f7a4_49 rfl ?_
  refine go_iand dJ6_bitCount_0f7a4_51 ?_
  exact go_iret dJ6_bitCount_0f7a4_52 rfl (Nat.le_of_ble_eq_true rfl) (Nat.le_of_ble_eq_true rfl) (hQ9 ▸ ⟨rfl, rfl, rfl⟩)
theorem liA_r {N M r : Nat} {A : Nat → Nat → Int32} (h : r ≠ 4) : liA N M A r = A r := by
  unfold liA
  rw [if_neg h]
set_option maxHeartbeats 4000000 in
set_option maxRecDepth 100000 in
theorem e_X11_list (hX : x2K G m0 x s i0 t w os rs n b) (hq : G.2.1 ≤ s) (hn : s + 8 ≤ n) (hqt : G.2.1 ≤ t) (hnt : t + 8 ≤ n) (hdj : s + 8 ≤ t ∨ t + 8 ≤ s) (h : tsH G m0 s n N M F W A B) (hw2 : w2K G m0 s t n W A) {what : Int32} : Ev G mX11_list 9 0 0 [.ref x, .int what] (sc G (sc G m0 s F W A B) t F3 W3 A3 B3) n (fun r f1 n1 => r = some (.int (cliS N M A what)) ∧ (∃ F4 W4 A4 B4, f1 = sc G (sc G m0 s F W A B) t F4 W4 A4 B4) ∧ n1 = n) := by
  generalize hQ9 : (fun r f1 n1 => r = some (.int (cliS N M A what)) ∧ (∃ F4 W4 A4 B4, f1 = sc G (sc G m0 s F W A B) t F4 W4 A4 B4) ∧ n1 = n : RQ) = Q9
  refine ev_of (by decide) (Nat.le_of_ble_eq_true rfl) (ls := [some (.ref x), some (.int what)]) rfl (fun hb => ?_)
  have hxn := hX.2.2.1
  refine go_iload_n dX11_list_0 rfl ?_
  refine go_iconst (v := 0) dX11_list_1 rfl ?_
  refine go_iconst (v := 1) dX11_list_2 rfl ?_
  refine go_Sr [.int what, .int 0, .int 1] [] dX11_list_3 sl_X11_126 ⟨by decide, by decide⟩ (e_X11_isWithin) rfl rfl (Nat.le_of_ble_eq_true rfl) (Nat.le_of_ble_eq_true rfl) (Nat.le_of_ble_eq_true rfl) ?_
  refine go_if_ne dX11_list_6 (fun c6 => ?_) (fun c6 => ?_)
  · have c6 := bz_t c6
    refine go_aload_n dX11_list_14 rfl ?_
    refine go_get dX11_list_15 fl_X11_19_11 hX.at hX.2.1 hX.2.2.1 rfl ?_
    refine go_aload_n dX11_list_18 rfl ?_
    refine go_get dX11_list_19 fl_X11_10_11 hX.at hX.2.1 hX.2.2.1 rfl ?_
    refine go_V [.ref s] [] dX11_list_22 vl_X11_61 ⟨by decide, by decide⟩ (e_X5_becomes2 (F := F3) (W := W3) (A := A3) (B := B3) hqt hnt hq hn hdj hw2) sc_obj hqt (by omega) rfl rfl (Nat.le_of_ble_eq_true rfl) (Nat.le_of_ble_eq_true rfl) (Nat.le_of_ble_eq_true rfl) (fun r22 f22 n22 h22 => ?_)
    obtain ⟨rfl, rfl, hn22⟩ := h22
    subst n22
    refine go_aload_n dX11_list_25 rfl ?_
    refine go_get dX11_list_26 fl_X11_19_11 hX.at hX.2.1 hX.2.2.1 rfl ?_
    refine go_V [] [] dX11_list_29 vl_X11_211 ⟨by decide, by decide⟩ (e_X5_sitByList hqt hnt h.hN h.hN8 h.hM h.hM5) sc_obj hqt (by omega) rfl rfl (Nat.le_of_ble_eq_true rfl) (Nat.le_of_ble_eq_true rfl) (Nat.le_of_ble_eq_true rfl) (fun r29 f29 n29 h29 => ?_)
    obtain ⟨rfl, rfl, hn29⟩ := h29
    subst n29
    have hs := (h.tri (F := F) (W := W) (B := B) (t := t) hw2).seR (A1 := liA N M A) (fun r hr => liA_r hr) liA_in
    refine go_iload_n dX11_list_32 rfl ?_
    refine go_if_ne dX11_list_33 (fun c33 => ?_) (fun c33 => ?_)
    · refine go_aload_n dX11_list_46 rfl ?_
      refine go_get dX11_list_47 fl_X11_10_11 hX.at hX.2.1 hX.2.2.1 rfl ?_
      refine go_aload_n dX11_list_50 rfl ?_
      refine go_get dX11_list_51 fl_X11_19_11 hX.at hX.2.1 hX.2.2.1 rfl ?_
      refine go_get dX11_list_54 fl_X11_96_5 sc_obj hqt (by omega) rfl ?_
      refine go_mem (f' := (sc G (sc G m0 t F W (liA N M A) B) s F W A B)) (sc_sc (by omega)) ?_
      refine go_Vr [.ref (t + 3)] [] dX11_list_57 vl_X11_214 ⟨by decide, by decide⟩ (e_X5_otherwiseThan (m0 := sc G m0 t F W (liA N M A) B) (ar := t + 3) (g := (liA N M A) 4) (R := 8) hq hn h.hN h.hN8 sc_3 (by omega) (by omega) (by omega) (by decide) h.hN8) sc_obj hq (by omega) rfl rfl (Nat.le_of_ble_eq_true rfl) (Nat.le_of_ble_eq_true rfl) (Nat.le_of_ble_eq_true rfl) ?_
      refine go_Sr [.int (btB (fun p => decide (¬ A 4 p = (liA N M A) 4 p)) N)] [] dX11_list_60 sl_X11_218 ⟨by decide, by decide⟩ (e_J6_bitCount) rfl rfl (Nat.le_of_ble_eq_true rfl) (Nat.le_of_ble_eq_true rfl) (Nat.le_of_ble_eq_true rfl) ?_
      exact go_iret dX11_list_63 rfl (Nat.le_of_ble_eq_true rfl) (Nat.le_of_ble_eq_true rfl) (hQ9 ▸ ⟨rd_i (a := bcI (btB (fun p => decide (¬ A 4 p = (liA N M A) 4 p)) N)) (by simp [cliS, c6, c33]), ⟨F, W, (liA N M A), B, (sc_sc (by omega)).symm⟩, rfl⟩)
    · subst c33
      refine go_aload_n dX11_list_36 rfl ?_
      refine go_get dX11_list_37 fl_X11_19_11 hX.at hX.2.1 hX.2.2.1 rfl ?_
      refine go_Vr [] [] dX11_list_40 vl_X11_208 ⟨by decide, by decide⟩ (e_X5_contentOfAll hqt hnt hs.hN hs.hN8 hs.hM hs.hM5 hs.hbe hs.hw hs.hab hs.hI) sc_obj hqt (by omega) rfl rfl (Nat.le_of_ble_eq_true rfl) (Nat.le_of_ble_eq_true rfl) (Nat.le_of_ble_eq_true rfl) ?_
      refine go_goto dX11_list_43 ?_
      exact go_iret dX11_list_63 rfl (Nat.le_of_ble_eq_true rfl) (Nat.le_of_ble_eq_true rfl) (hQ9 ▸ ⟨rd_i (a := alS N (liA N M A)) (by simp [cliS, c6]), ⟨_, _, _, _, rfl⟩, rfl⟩)
  · have c6 := bz_f c6
    refine go_iconst (v := (-1)) dX11_list_9 rfl ?_
    refine go_Sr [.int (-1)] [] dX11_list_10 sl_X11_162 ⟨by decide, by decide⟩ (e_X11_toldAbove) rfl rfl (Nat.le_of_ble_eq_true rfl) (Nat.le_of_ble_eq_true rfl) (Nat.le_of_ble_eq_true rfl) ?_
    refine go_tp (z := 1000000001) (by decide) ?_
    exact go_iret dX11_list_13 rfl (Nat.le_of_ble_eq_true rfl) (Nat.le_of_ble_eq_true rfl) (hQ9 ▸ ⟨rd_i (a := 1000000001) (by simp [cliS, c6]), ⟨_, _, _, _, rfl⟩, rfl⟩)
end D10
