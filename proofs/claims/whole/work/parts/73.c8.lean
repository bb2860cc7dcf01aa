/-! placings as longs -/
def woS (c : Int32) : Int64 := c.toInt64 <<< ((24 : Int32).toInt64 &&& 63)
def lpS (pl : Int32) (p : Nat) : Int64 := -(pl.toInt64 <<< ((nI (3 * (7 - p))).toInt64 &&& 63))
def wnS (s : Nat) : Nat → Int64
  | 0 => 0
  | k + 1 => if Nat.testBit s k then wnS s k + (woS (-20) + lpS 7 k) else wnS s k
/-- what a set is worth with the locker l too: the second one's loop, the first one's -/
def wbS (A : Nat → Nat → Int32) (T : Nat → Int32) (Wl : Nat → Int64) (l s a : Nat) : Nat → Int64 → Int64
  | 0, x => x
  | k + 1, x => if Nat.testBit (clrN s a) (a + 1 + k) then mlS (wbS A T Wl l s a k x) (Wl (clrN (clrN s a) (a + 1 + k)) + (woS (likS A a (a + 1 + k) - T a - T (a + 1 + k)) + lpS (nI l) a + lpS (nI l) (a + 1 + k))) else wbS A T Wl l s a k x
def waS (N : Nat) (A : Nat → Nat → Int32) (T : Nat → Int32) (Wl : Nat → Int64) (l s : Nat) : Nat → Int64
  | 0 => Wl s
  | a + 1 => if Nat.testBit s a then wbS A T Wl l s a (N - (a + 1)) (mlS (waS N A T Wl l s a) (Wl (clrN s a) + (woS (12 - T a) + lpS (nI l) a))) else waS N A T Wl l s a
/-- the worths behind the lockers below l -/
def wlT (N : Nat) (A : Nat → Nat → Int32) : Nat → Nat → Int64
  | 0 => fun s => wnS s 8
  | l + 1 => fun s => if s = 0 then wlT N A l 0 else waS N A (fun p => trS A p l) (wlT N A l) l s N
def plcW (N M : Nat) (A : Nat → Nat → Int32) : Int64 := wlT N A M (2 ^ N - 1)
def ctnS (x : Int64) : Int32 := ((x + 16777215) >>> ((24 : Int32).toInt64 &&& 63)).toInt32
def plnS (x : Int64) (p : Nat) : Int32 := if (((-x) >>> ((nI (3 * (7 - p))).toInt64 &&& 63)).toInt32 &&& 7) = 7 then 9 else ((-x) >>> ((nI (3 * (7 - p))).toInt64 &&& 63)).toInt32 &&& 7
theorem waS_congr {N : Nat} {A : Nat → Nat → Int32} {T T' : Nat → Int32} {Wl Wl' : Nat → Int64} {l s : Nat} (hT : ∀ p, p < N → T' p = T p) (hW : ∀ i, i ≤ s → Wl' i = Wl i) : ∀ a, a ≤ N → waS N A T' Wl' l s a = waS N A T Wl l s a
  | 0, _ => hW s (Nat.le_refl _)
  | a + 1, h => by
    have ih := waS_congr (A := A) (l := l) hT hW a (by omega)
    have h1 := clr_les (s := s) (a := a)
    have key : ∀ k x, a + 1 + k ≤ N → wbS A T' Wl' l s a k x = wbS A T Wl l s a k x := by
      intro k
      induction k with
      | zero => intro x _; rfl
      | succ k ihk =>
        intro x hk
        have h2 := clr_les (s := clrN s a) (a := a + 1 + k)
        unfold wbS
        rw [ihk x (by omega), hT a (by omega), hT (a + 1 + k) (by omega), hW _ (Nat.le_trans h2 h1)]
    unfold waS
    rw [ih, hT a (by omega), hW _ h1, key _ _ (by omega)]
section C8
variable {G : GX} {m1 f : Mem} {s w n N M : Nat} {F V : Nat → Int32} {W : Nat → Option Nat} {A : Nat → Nat → Int32} {B C Mt T : Nat → Int32} {Wl : Nat → Int64}
set_option maxHeartbeats 4000000 in
set_option maxRecDepth 100000 in
theorem e_X9_isIn {b k : Int32} : Ev G mX9_isIn 1 0 0 [.int b, .int k] f n (RD (.int (if bitS b k then 1 else 0)) f n) := by
  generalize hQ9 : (RD (.int (if bitS b k then 1 else 0)) f n : RQ) = Q9
  refine ev_of (by decide) (Nat.le_of_ble_eq_true rfl) (ls := [some (.int b), some (.int k)]) rfl (fun hb => ?_)
  refine go_iload_n dX9_isIn_0 rfl ?_
  refine go_iload_n dX9_isIn_1 rfl ?_
  refine go_ishr dX9_isIn_2 ?_
  refine go_iconst (v := 1) dX9_isIn_3 rfl ?_
  refine go_iand dX9_isIn_4 ?_
  refine go_iconst (v := 1) dX9_isIn_5 rfl ?_
  refine go_icmp_ne dX9_isIn_6 (fun c6 => ?_) (fun c6 => ?_)
  · refine go_iconst (v := 0) dX9_isIn_13 rfl ?_
    exact go_zret dX9_isIn_14 rfl (Nat.le_of_ble_eq_true rfl) (Nat.le_of_ble_eq_true rfl) (rfl) ((hQ9 ▸ ⟨rd_i (a := 0) (by simp [bitS, c6]), rfl, rfl⟩))
  · refine go_iconst (v := 1) dX9_isIn_9 rfl ?_
    refine go_goto dX9_isIn_10 ?_
    exact go_zret dX9_isIn_14 rfl (Nat.le_of_ble_eq_true rfl) (Nat.le_of_ble_eq_true rfl) (rfl) ((hQ9 ▸ ⟨rd_i (a := 1) (by simp [bitS, c6]), rfl, rfl⟩))
set_option maxHeartbeats 4000000 in
set_option maxRecDepth 100000 in
theorem e_X9_without {z a : Nat} (hz : z < 256) (ha : a < 8) : Ev G mX9_without 1 0 0 [.int (nI z), .int (nI a)] f n (RD (.int (nI (clrN z a))) f n) := by
  generalize hQ9 : (RD (.int (nI (clrN z a))) f n : RQ) = Q9
  refine ev_of (by decide) (Nat.le_of_ble_eq_true rfl) (ls := [some (.int (nI z)), some (.int (nI a))]) rfl (fun hb => ?_)
  refine go_iload_n dX9_without_0 rfl ?_
  refine go_iconst (v := 1) dX9_without_1 rfl ?_
  refine go_iload_n dX9_without_2 rfl ?_
  refine go_ishl dX9_without_3 ?_
  refine go_iconst (v := (-1)) dX9_without_4 rfl ?_
  refine go_ixor dX9_without_5 ?_
  refine go_iand dX9_without_6 ?_
  refine go_tp (z := nI (clrN z a)) (clr_i z (by omega) a (by omega)) ?_
  have hc6_8 : clrN z a < 256 := clr_lt (by omega)
  exact go_iret dX9_without_7 rfl (Nat.le_of_ble_eq_true rfl) (Nat.le_of_ble_eq_true rfl) (hQ9 ▸ ⟨rfl, rfl, rfl⟩)
set_option maxHeartbeats 4000000 in
set_option maxRecDepth 100000 in
theorem e_X9_worthOf {c : Int32} : Ev G mX9_worthOf 1 0 0 [.int c] f n (RD (.long (woS c)) f n) := by
  generalize hQ9 : (RD (.long (woS c)) f n : RQ) = Q9
  refine ev_of (by decide) (Nat.le_of_ble_eq_true rfl) (ls := [some (.int c)]) rfl (fun hb => ?_)
  refine go_iload_n dX9_worthOf_0 rfl ?_
  refine go_i2l dX9_worthOf_1 ?_
  refine go_bipush (v := 24) dX9_worthOf_2 rfl ?_
  refine go_lshl dX9_worthOf_4 ?_
  exact go_lret dX9_worthOf_5 rfl (Nat.le_of_ble_eq_true rfl) (Nat.le_of_ble_eq_true rfl) (hQ9 ▸ ⟨rfl, rfl, rfl⟩)
theorem sub7 {p : Nat} (hp : p < 8) : (7 : Int32) - nI p = nI (7 - p) := by
  have : ∀ p, p < 8 → (7 : Int32) - nI p = nI (7 - p) := by decide
  exact this p hp
set_option maxHeartbeats 4000000 in
set_option maxRecDepth 100000 in
theorem e_X9_shiftOf {p : Nat} (hp : p < 8) : Ev G mX9_shiftOf 1 0 0 [.int (nI p)] f n (RD (.int (nI (3 * (7 - p)))) f n) := by
  generalize hQ9 : (RD (.int (nI (3 * (7 - p)))) f n : RQ) = Q9
  refine ev_of (by decide) (Nat.le_of_ble_eq_true rfl) (ls := [some (.int (nI p))]) rfl (fun hb => ?_)
  refine go_iconst (v := 3) dX9_shiftOf_0 rfl ?_
  refine go_bipush (v := 7) dX9_shiftOf_1 rfl ?_
  refine go_iload_n dX9_shiftOf_3 rfl ?_
  refine go_isub dX9_shiftOf_4 ?_
  refine go_tp (z := nI (7 - p)) (sub7 hp) ?_
  refine go_imul dX9_shiftOf_5 ?_
  refine go_tp (z := nI (3 * (7 - p))) (pk_mul 3 (7 - p)) ?_
  exact go_iret dX9_shiftOf_6 rfl (Nat.le_of_ble_eq_true rfl) (Nat.le_of_ble_eq_true rfl) (hQ9 ▸ ⟨rfl, rfl, rfl⟩)
set_option maxHeartbeats 4000000 in
set_option maxRecDepth 100000 in
theorem e_X9_lessPlace {pl : Int32} {p : Nat} (hp : p < 8) : Ev G mX9_lessPlace 2 0 0 [.int pl, .int (nI p)] f n (RD (.long (lpS pl p)) f n) := by
  generalize hQ9 : (RD (.long (lpS pl p)) f n : RQ) = Q9
  refine ev_of (by decide) (Nat.le_of_ble_eq_true rfl) (ls := [some (.int pl), some (.int (nI p))]) rfl (fun hb => ?_)
  refine go_iload_n dX9_lessPlace_0 rfl ?_
  refine go_i2l dX9_lessPlace_1 ?_
  refine go_iload_n dX9_lessPlace_2 rfl ?_
  refine go_Sr [.int (nI p)] [.long (pl).toInt64] dX9_lessPlace_3 sl_X9_88 ⟨by decide, by decide⟩ (e_X9_shiftOf (by omega)) rfl rfl (Nat.le_of_ble_eq_true rfl) (Nat.le_of_ble_eq_true rfl) (Nat.le_of_ble_eq_true rfl) ?_
  refine go_lshl dX9_lessPlace_6 ?_
  refine go_lneg dX9_lessPlace_7 ?_
  exact go_lret dX9_lessPlace_8 rfl (Nat.le_of_ble_eq_true rfl) (Nat.le_of_ble_eq_true rfl) (hQ9 ▸ ⟨rfl, rfl, rfl⟩)
set_option maxHeartbeats 4000000 in
set_option maxRecDepth 100000 in
theorem e_X9_worthInNone {z : Nat} (hz : z < 256) : Ev G mX9_worthInNone 3 0 0 [.int (nI z)] f n (RD (.long (wnS z 8)) f n) := by
  generalize hQ9 : (RD (.long (wnS z 8)) f n : RQ) = Q9
  refine ev_of (by decide) (Nat.le_of_ble_eq_true rfl) (ls := [some (.int (nI z)), none, none, none]) rfl (fun hb => ?_)
  refine go_lconst (v := 0) dX9_worthInNone_0 rfl ?_
  refine go_lstore_n (ls' := [some (.int (nI z)), some (.long 0), none, none]) dX9_worthInNone_1 ⟨by decide, rfl, rfl⟩ ?_
  refine go_iconst (v := 0) dX9_worthInNone_2 rfl ?_
  refine go_istore_n (ls' := [some (.int (nI z)), some (.long 0), none, some (.int 0)]) dX9_worthInNone_3 ⟨by decide, rfl, rfl⟩ ?_
  have lp0 : ∀ (μ_lp0 : Nat) (i : Nat) (x : Int64) (hi : i ≤ 8) (hmi : 9 ≤ i + μ_lp0) (hx : x = wnS z i), Go G mX9_worthInNone 3 0 0 Q9 0 0 4 [some (.int (nI z)), some (.long x), none, some (.int (nI i))] [] f n := by
    intro μ_lp0
    induction μ_lp0 with
    | zero =>
      intro i x hi hmi hx
      exact absurd hmi (by omega)
    | succ μ_lp0 ih_lp0 =>
      intro i x hi hmi hx
      refine go_iload_n dX9_worthInNone_4 rfl ?_
      refine go_bipush (v := 8) dX9_worthInNone_5 rfl ?_
      refine go_icmp_ge dX9_worthInNone_7 (fun c7 => ?_) (fun c7 => ?_)
      · have c7n := (nI_leI (a := 8) (b := i) (by omega) (by omega)).mp c7
        have c7n := Nat.not_lt.mpr c7n
        have c7 := Int32.not_lt.mpr c7
        refine go_lload_n dX9_worthInNone_39 rfl ?_
        exact go_lret dX9_worthInNone_40 rfl (Nat.le_of_ble_eq_true rfl) (Nat.le_of_ble_eq_true rfl) (hQ9 ▸ ⟨rd_l (by rw [hx, show i = 8 by omega]), rfl, rfl⟩)
      · have c7n := mt (nI_leI (a := 8) (b := i) (by omega) (by omega)).mpr c7
        have c7n := Nat.lt_of_not_le c7n
        have c7 := Int32.not_le.mp c7
        refine go_iload_n dX9_worthInNone_10 rfl ?_
        refine go_iload_n dX9_worthInNone_11 rfl ?_
        refine go_Sr [.int (nI z), .int (nI i)] [] dX9_worthInNone_12 sl_X9_92 ⟨by decide, by decide⟩ (e_X9_isIn) rfl rfl (Nat.le_of_ble_eq_true rfl) (Nat.le_of_ble_eq_true rfl) (Nat.le_of_ble_eq_true rfl) ?_
        refine go_tp (z := if Nat.testBit z i then 1 else 0) (by rw [bit_t _ (by omega) _ (by omega)]) ?_
        refine go_if_eq dX9_worthInNone_15 (fun c15 => ?_) (fun c15 => ?_)
        · have c15 := bz_f c15
          refine go_iinc (v := nI (i + 1)) (ls' := [some (.int (nI z)), some (.long x), none, some (.int (nI (i + 1)))]) dX9_worthInNone_33 rfl (nI_1 (i)) ⟨by decide, rfl, rfl⟩ ?_
          refine go_goto dX9_worthInNone_36 ?_
          exact ih_lp0 (i + 1) _ (by omega) (by omega) (by unfold wnS; rw [← hx]; simp [c15])
        · have c15 := bz_t c15
          refine go_lload_n dX9_worthInNone_18 rfl ?_
          refine go_bipush (v := (-20)) dX9_worthInNone_19 rfl ?_
          refine go_Sr [.int (-20)] [.long x] dX9_worthInNone_21 sl_X9_96 ⟨by decide, by decide⟩ (e_X9_worthOf) rfl rfl (Nat.le_of_ble_eq_true rfl) (Nat.le_of_ble_eq_true rfl) (Nat.le_of_ble_eq_true rfl) ?_
          refine go_bipush (v := 7) dX9_worthInNone_24 rfl ?_
          refine go_iload_n dX9_worthInNone_26 rfl ?_
          refine go_Sr [.int 7, .int (nI i)] [.long (woS ((-20))), .long x] dX9_worthInNone_27 sl_X9_99 ⟨by decide, by decide⟩ (e_X9_lessPlace (by omega)) rfl rfl (Nat.le_of_ble_eq_true rfl) (Nat.le_of_ble_eq_true rfl) (Nat.le_of_ble_eq_true rfl) ?_
          refine go_ladd dX9_worthInNone_30 ?_
          refine go_ladd dX9_worthInNone_31 ?_
          refine go_lstore_n (ls' := [some (.int (nI z)), some (.long ((x) + ((woS ((-20))) + (lpS (7) i)))), none, some (.int (nI i))]) dX9_worthInNone_32 ⟨by decide, rfl, rfl⟩ ?_
          refine go_iinc (v := nI (i + 1)) (ls' := [some (.int (nI z)), some (.long ((x) + ((woS ((-20))) + (lpS (7) i)))), none, some (.int (nI (i + 1)))]) dX9_worthInNone_33 rfl (nI_1 (i)) ⟨by decide, rfl, rfl⟩ ?_
          refine go_goto dX9_worthInNone_36 ?_
          exact ih_lp0 (i + 1) _ (by omega) (by omega) (by unfold wnS; rw [← hx]; simp [c15])
  exact lp0 9 0 _ (Nat.zero_le _) (by omega) rfl
set_option maxHeartbeats 4000000 in
set_option maxRecDepth 100000 in
theorem e_X9_contentIn {x : Int64} : Ev G mX9_contentIn 1 0 0 [.long x] f n (RD (.int (ctnS x)) f n) := by
  generalize hQ9 : (RD (.int (ctnS x)) f n : RQ) = Q9
  refine ev_of (by decide) (Nat.le_of_ble_eq_true rfl) (ls := [some (.long x), none]) rfl (fun hb => ?_)
  refine go_lload_n dX9_contentIn_0 rfl ?_
  refine go_ldc2 (v := 16777215) dX9_contentIn_1 wm_629 ?_
  refine go_ladd dX9_contentIn_4 ?_
  refine go_bipush (v := 24) dX9_contentIn_5 rfl ?_
  refine go_lshr dX9_contentIn_7 ?_
  refine go_l2i dX9_contentIn_8 ?_
  exact go_iret dX9_contentIn_9 rfl (Nat.le_of_ble_eq_true rfl) (Nat.le_of_ble_eq_true rfl) (hQ9 ▸ ⟨rfl, rfl, rfl⟩)
set_option maxHeartbeats 4000000 in
set_option maxRecDepth 100000 in
theorem e_X9_placeIn {x : Int64} {p : Nat} (hp : p < 8) : Ev G mX9_placeIn 2 0 0 [.long x, .int (nI p)] f n (RD (.int (plnS x p)) f n) := by
  generalize hQ9 : (RD (.int (plnS x p)) f n : RQ) = Q9
  refine ev_of (by decide) (Nat.le_of_ble_eq_true rfl) (ls := [some (.long x), none, some (.int (nI p)), none]) rfl (fun hb => ?_)
  refine go_lload_n dX9_placeIn_0 rfl ?_
  refine go_lneg dX9_placeIn_1 ?_
  refine go_iload_n dX9_placeIn_2 rfl ?_
  refine go_Sr [.int (nI p)] [.long (-(x))] dX9_placeIn_3 sl_X9_88 ⟨by decide, by decide⟩ (e_X9_shiftOf (by omega)) rfl rfl (Nat.le_of_ble_eq_true rfl) (Nat.le_of_ble_eq_true rfl) (Nat.le_of_ble_eq_true rfl) ?_
  refine go_lshr dX9_placeIn_6 ?_
  refine go_l2i dX9_placeIn_7 ?_
  refine go_bipush (v := 7) dX9_placeIn_8 rfl ?_
  refine go_iand dX9_placeIn_10 ?_
  refine go_istore_n (ls' := [some (.long x), none, some (.int (nI p)), some (.int ((((-(x)) >>> ((nI (3 * (7 - p))).toInt64 &&& 63)).toInt32) &&& 7))]) dX9_placeIn_11 ⟨by decide, rfl, rfl⟩ ?_
  refine go_iload_n dX9_placeIn_12 rfl ?_
  refine go_bipush (v := 7) dX9_placeIn_13 rfl ?_
  refine go_icmp_ne dX9_placeIn_15 (fun c15 => ?_) (fun c15 => ?_)
  · refine go_iload_n dX9_placeIn_23 rfl ?_
    exact go_iret dX9_placeIn_24 rfl (Nat.le_of_ble_eq_true rfl) (Nat.le_of_ble_eq_true rfl) (hQ9 ▸ ⟨rd_i (by unfold plnS; rw [if_neg c15]), rfl, rfl⟩)
  · refine go_bipush (v := 9) dX9_placeIn_18 rfl ?_
    refine go_goto dX9_placeIn_20 ?_
    exact go_iret dX9_placeIn_24 rfl (Nat.le_of_ble_eq_true rfl) (Nat.le_of_ble_eq_true rfl) (hQ9 ▸ ⟨rd_i (by unfold plnS; rw [if_pos c15]), rfl, rfl⟩)
set_option maxHeartbeats 4000000 in
set_option maxRecDepth 100000 in
theorem e_X9_worthWithLocker (hq : G.2.1 ≤ s) (hn : s + 8 ≤ n) (hqw : G.2.1 ≤ w) (hnw : w + 5 ≤ n) (hdw : w + 5 ≤ s ∨ s + 8 ≤ w) (hN : F 0 = nI N) (hN8 : N ≤ 8) (hbe : ∀ a b, a < N → b < N → B (a * 8 + b) = brS A a b) {l z : Nat} (hl : l < 5) (hz : z < 256) : Ev G mX9_worthWithLocker 3 0 0 [.ref w, .ref s, .int (nI l), .int (nI z)] (sc G (wy G m1 w V C Mt Wl T) s F W A B) n (RD (.long (waS N A T Wl l z N)) (sc G (wy G m1 w V C Mt Wl T) s F W A B) n) := by
  generalize hQ9 : (RD (.long (waS N A T Wl l z N)) (sc G (wy G m1 w V C Mt Wl T) s F W A B) n : RQ) = Q9
  refine ev_of (by decide) (Nat.le_of_ble_eq_true rfl) (ls := [some (.ref w), some (.ref s), some (.int (nI l)), some (.int (nI z)), none, none, none, none, none, none, none, none, none, none]) rfl (fun hb => ?_)
  refine go_aload_n dX9_worthWithLocker_0 rfl ?_
  refine go_get dX9_worthWithLocker_1 fl_X9_29_9 ((sc_out (by omega)).trans wy_obj) hqw (by omega) rfl ?_
  refine go_iload_n dX9_worthWithLocker_4 rfl ?_
  refine go_lald dX9_worthWithLocker_5 ((sc_out (by omega)).trans wy_3) (by omega) (by omega) (vp_in_nI (n := z) (by show z < 256; omega) (by decide)) ?_
  refine go_tl (z := Wl z) (by rw [nI_clamp (by omega)]) ?_
  refine go_lstore (ls' := [some (.ref w), some (.ref s), some (.int (nI l)), some (.int (nI z)), some (.long (Wl z)), none, none, none, none, none, none, none, none, none]) dX9_worthWithLocker_6 ⟨by decide, rfl, rfl⟩ ?_
  refine go_iconst (v := 0) dX9_worthWithLocker_8 rfl ?_
  refine go_istore (ls' := [some (.ref w), some (.ref s), some (.int (nI l)), some (.int (nI z)), some (.long (Wl z)), none, some (.int 0), none, none, none, none, none, none, none]) dX9_worthWithLocker_9 ⟨by decide, rfl, rfl⟩ ?_
  have lp0 : ∀ (μ_lp0 : Nat) (a : Nat) (x : Int64) (ha : a ≤ N) (hma : N + 1 ≤ a + μ_lp0) (hx : x = waS N A T Wl l z a), Go G mX9_worthWithLocker 3 0 0 Q9 0 0 11 [some (.ref w), some (.ref s), some (.int (nI l)), some (.int (nI z)), some (.long x), none, some (.int (nI a)), none, none, none, none, none, none, none] [] (sc G (wy G m1 w V C Mt Wl T) s F W A B) n := by
    intro μ_lp0
    induction μ_lp0 with
    | zero =>
      intro a x ha hma hx
      exact absurd hma (by omega)
    | succ μ_lp0 ih_lp0 =>
      intro a x ha hma hx
      refine go_iload dX9_worthWithLocker_11 rfl ?_
      refine go_aload_n dX9_worthWithLocker_13 rfl ?_
      refine go_get dX9_worthWithLocker_14 fl_X9_40_5 sc_obj hq (by omega) rfl ?_
      refine go_tp (z := nI N) (hN) ?_
      refine go_icmp_ge dX9_worthWithLocker_17 (fun c17 => ?_) (fun c17 => ?_)
      · have c17n := (nI_leI (a := N) (b := a) (by omega) (by omega)).mp c17
        have c17n := Nat.not_lt.mpr c17n
        have c17 := Int32.not_lt.mpr c17
        refine go_lload dX9_worthWithLocker_182 rfl ?_
        exact go_lret dX9_worthWithLocker_184 rfl (Nat.le_of_ble_eq_true rfl) (Nat.le_of_ble_eq_true rfl) (hQ9 ▸ ⟨rd_l (by rw [hx, show a = N by omega]), rfl, rfl⟩)
      · have c17n := mt (nI_leI (a := N) (b := a) (by omega) (by omega)).mpr c17
        have c17n := Nat.lt_of_not_le c17n
        have c17 := Int32.not_le.mp c17
        refine go_iload_n dX9_worthWithLocker_20 rfl ?_
        refine go_iload dX9_worthWithLocker_21 rfl ?_
        refine go_Sr [.int (nI z), .int (nI a)] [] dX9_worthWithLocker_23 sl_X9_92 ⟨by decide, by decide⟩ (e_X9_isIn) rfl rfl (Nat.le_of_ble_eq_true rfl) (Nat.le_of_ble_eq_true rfl) (Nat.le_of_ble_eq_true rfl) ?_
        refine go_tp (z := if Nat.testBit z a then 1 else 0) (by rw [bit_t _ (by omega) _ (by omega)]) ?_
        refine go_if_eq dX9_worthWithLocker_26 (fun c26 => ?_) (fun c26 => ?_)
        · have c26 := bz_f c26
          refine go_iinc (v := nI (a + 1)) (ls' := [some (.ref w), some (.ref s), some (.int (nI l)), some (.int (nI z)), some (.long x), none, some (.int (nI (a + 1))), none, none, none, none, none, none, none]) dX9_worthWithLocker_176 rfl (nI_1 (a)) ⟨by decide, rfl, rfl⟩ ?_
          refine go_goto dX9_worthWithLocker_179 ?_
          exact ih_lp0 (a + 1) _ (by omega) (by omega) (by unfold waS; rw [if_neg c26, ← hx])
        · have c26 := bz_t c26
          refine go_iload_n dX9_worthWithLocker_29 rfl ?_
          refine go_iload dX9_worthWithLocker_30 rfl ?_
          have hcw32 : clrN z a < 256 := clr_lt (by omega)
          refine go_Sr [.int (nI z), .int (nI a)] [] dX9_worthWithLocker_32 sl_X9_103 ⟨by decide, by decide⟩ (e_X9_without (by omega) (by omega)) rfl rfl (Nat.le_of_ble_eq_true rfl) (Nat.le_of_ble_eq_true rfl) (Nat.le_of_ble_eq_true rfl) ?_
          refine go_istore (ls' := [some (.ref w), some (.ref s), some (.int (nI l)), some (.int (nI z)), some (.long x), none, some (.int (nI a)), some (.int (nI (clrN z a))), none, none, none, none, none, none]) dX9_worthWithLocker_35 ⟨by decide, rfl, rfl⟩ ?_
          refine go_bipush (v := 12) dX9_worthWithLocker_37 rfl ?_
          refine go_aload_n dX9_worthWithLocker_39 rfl ?_
          refine go_get dX9_worthWithLocker_40 fl_X9_33_9 ((sc_out (by omega)).trans wy_obj) hqw (by omega) rfl ?_
          refine go_iload dX9_worthWithLocker_43 rfl ?_
          refine go_iald dX9_worthWithLocker_45 ((sc_out (by omega)).trans wy_4) (by omega) (by omega) (vp_in_nI (n := a) (by show a < 8; omega) (by decide)) ?_
          refine go_tp (z := T a) (by rw [nI_clamp (by omega)]) ?_
          refine go_isub dX9_worthWithLocker_46 ?_
          refine go_Sr [.int (12 - (T a))] [] dX9_worthWithLocker_47 sl_X9_96 ⟨by decide, by decide⟩ (e_X9_worthOf) rfl rfl (Nat.le_of_ble_eq_true rfl) (Nat.le_of_ble_eq_true rfl) (Nat.le_of_ble_eq_true rfl) ?_
          refine go_iload_n dX9_worthWithLocker_50 rfl ?_
          refine go_iload dX9_worthWithLocker_51 rfl ?_
          refine go_Sr [.int (nI l), .int (nI a)] [.long (woS (12 - (T a)))] dX9_worthWithLocker_53 sl_X9_99 ⟨by decide, by decide⟩ (e_X9_lessPlace (by omega)) rfl rfl (Nat.le_of_ble_eq_true rfl) (Nat.le_of_ble_eq_true rfl) (Nat.le_of_ble_eq_true rfl) ?_
          refine go_ladd dX9_worthWithLocker_56 ?_
          refine go_lstore (ls' := [some (.ref w), some (.ref s), some (.int (nI l)), some (.int (nI z)), some (.long x), none, some (.int (nI a)), some (.int (nI (clrN z a))), some (.long ((woS (12 - (T a))) + (lpS (nI l) a))), none, none, none, none, none]) dX9_worthWithLocker_57 ⟨by decide, rfl, rfl⟩ ?_
          refine go_lload dX9_worthWithLocker_59 rfl ?_
          refine go_aload_n dX9_worthWithLocker_61 rfl ?_
          refine go_get dX9_worthWithLocker_62 fl_X9_29_9 ((sc_out (by omega)).trans wy_obj) hqw (by omega) rfl ?_
          refine go_iload dX9_worthWithLocker_65 rfl ?_
          refine go_lald dX9_worthWithLocker_67 ((sc_out (by omega)).trans wy_3) (by omega) (by omega) (vp_in_nI (n := clrN z a) (by show clrN z a < 256; omega) (by decide)) ?_
          refine go_tl (z := Wl (clrN z a)) (by rw [nI_clamp (by omega)]) ?_
          refine go_lload dX9_worthWithLocker_68 rfl ?_
          refine go_ladd dX9_worthWithLocker_70 ?_
          refine go_Sr [.long x, .long ((Wl (clrN z a)) + ((woS (12 - (T a))) + (lpS (nI l) a)))] [] dX9_worthWithLocker_71 sl_X9_106 ⟨by decide, by decide⟩ (e_J9_maxL) rfl rfl (Nat.le_of_ble_eq_true rfl) (Nat.le_of_ble_eq_true rfl) (Nat.le_of_ble_eq_true rfl) ?_
          refine go_lstore (ls' := [some (.ref w), some (.ref s), some (.int (nI l)), some (.int (nI z)), some (.long (mlS (x) ((Wl (clrN z a)) + ((woS (12 - (T a))) + (lpS (nI l) a))))), none, some (.int (nI a)), some (.int (nI (clrN z a))), some (.long ((woS (12 - (T a))) + (lpS (nI l) a))), none, none, none, none, none]) dX9_worthWithLocker_74 ⟨by decide, rfl, rfl⟩ ?_
          refine go_iload dX9_worthWithLocker_76 rfl ?_
          refine go_iconst (v := 1) dX9_worthWithLocker_78 rfl ?_
          refine go_iadd dX9_worthWithLocker_79 ?_
          refine go_tp (z := nI (a + 1)) (nI_add a 1) ?_
          refine go_istore (ls' := [some (.ref w), some (.ref s), some (.int (nI l)), some (.int (nI z)), some (.long (mlS (x) ((Wl (clrN z a)) + ((woS (12 - (T a))) + (lpS (nI l) a))))), none, some (.int (nI a)), some (.int (nI (clrN z a))), some (.long ((woS (12 - (T a))) + (lpS (nI l) a))), none, some (.int (nI (a + 1))), none, none, none]) dX9_worthWithLocker_80 ⟨by decide, rfl, rfl⟩ ?_
          have lp1 : ∀ (μ_lp1 : Nat) (k : Nat) (y : Int64) (hk : a + 1 + k ≤ N) (hmk : N + 1 ≤ k + μ_lp1) (hy : y = wbS A T Wl l z a k (mlS x (Wl (clrN z a) + (woS (12 - T a) + lpS (nI l) a)))), Go G mX9_worthWithLocker 3 0 0 Q9 0 0 82 [some (.ref w), some (.ref s), some (.int (nI l)), some (.int (nI z)), some (.long y), none, some (.int (nI a)), some (.int (nI (clrN z a))), none, none, some (.int (nI (a + 1 + k))), none, none, none] [] (sc G (wy G m1 w V C Mt Wl T) s F W A B) n := by
            intro μ_lp1
            induction μ_lp1 with
            | zero =>
              intro k y hk hmk hy
              exact absurd hmk (by omega)
            | succ μ_lp1 ih_lp1 =>
              intro k y hk hmk hy
              refine go_iload dX9_worthWithLocker_82 rfl ?_
              refine go_aload_n dX9_worthWithLocker_84 rfl ?_
              refine go_get dX9_worthWithLocker_85 fl_X9_40_5 sc_obj hq (by omega) rfl ?_
              refine go_tp (z := nI N) (hN) ?_
              refine go_icmp_ge dX9_worthWithLocker_88 (fun c88 => ?_) (fun c88 => ?_)
              · have c88n := (nI_leI (a := N) (b := a + 1 + k) (by omega) (by omega)).mp c88
                have c88n := Nat.not_lt.mpr c88n
                have c88 := Int32.not_lt.mpr c88
                refine go_iinc (v := nI (a + 1)) (ls' := [some (.ref w), some (.ref s), some (.int (nI l)), some (.int (nI z)), some (.long y), none, some (.int (nI (a + 1))), some (.int (nI (clrN z a))), none, none, some (.int (nI (a + 1 + k))), none, none, none]) dX9_worthWithLocker_176 rfl (nI_1 (a)) ⟨by decide, rfl, rfl⟩ ?_
                refine go_goto dX9_worthWithLocker_179 ?_
                refine go_weak (ls' := [some (.ref w), some (.ref s), some (.int (nI l)), some (.int (nI z)), some (.long y), none, some (.int (nI (a + 1))), none, none, none, none, none, none, none]) ⟨rfl, rfl, rfl, rfl, rfl, rfl, trivial⟩ ?_
                exact ih_lp0 (a + 1) _ (by omega) (by omega) (by unfold waS; rw [if_pos c26, ← hx, hy, show N - (a + 1) = k by omega])
              · have c88n := mt (nI_leI (a := N) (b := a + 1 + k) (by omega) (by omega)).mpr c88
                have c88n := Nat.lt_of_not_le c88n
                have c88 := Int32.not_le.mp c88
                refine go_iload dX9_worthWithLocker_91 rfl ?_
                refine go_iload dX9_worthWithLocker_93 rfl ?_
                refine go_Sr [.int (nI (clrN z a)), .int (nI (a + 1 + k))] [] dX9_worthWithLocker_95 sl_X9_92 ⟨by decide, by decide⟩ (e_X9_isIn) rfl rfl (Nat.le_of_ble_eq_true rfl) (Nat.le_of_ble_eq_true rfl) (Nat.le_of_ble_eq_true rfl) ?_
                refine go_tp (z := if Nat.testBit (clrN z a) (a + 1 + k) then 1 else 0) (by rw [bit_t _ (by omega) _ (by omega)]) ?_
                refine go_if_eq dX9_worthWithLocker_98 (fun c98 => ?_) (fun c98 => ?_)
                · have c98 := bz_f c98
                  refine go_iinc (v := nI ((a + 1 + k) + 1)) (ls' := [some (.ref w), some (.ref s), some (.int (nI l)), some (.int (nI z)), some (.long y), none, some (.int (nI a)), some (.int (nI (clrN z a))), none, none, some (.int (nI ((a + 1 + k) + 1))), none, none, none]) dX9_worthWithLocker_170 rfl (nI_1 (a + 1 + k)) ⟨by decide, rfl, rfl⟩ ?_
                  refine go_goto dX9_worthWithLocker_173 ?_
                  exact ih_lp1 (k + 1) _ (by omega) (by omega) (by unfold wbS; rw [if_neg c98, ← hy])
                · have c98 := bz_t c98
                  refine go_aload_n dX9_worthWithLocker_101 rfl ?_
                  refine go_iload dX9_worthWithLocker_102 rfl ?_
                  refine go_iload dX9_worthWithLocker_104 rfl ?_
                  refine go_Vr [.int (nI a), .int (nI (a + 1 + k))] [] dX9_worthWithLocker_106 vl_X9_49 ⟨by decide, by decide⟩ (e_X5_likingOf (m0 := (wy G m1 w V C Mt Wl T)) (F := F) (W := W) (A := A) (B := B) hq hn hbe (by omega) (by omega) hN8) sc_obj hq (by omega) rfl rfl (Nat.le_of_ble_eq_true rfl) (Nat.le_of_ble_eq_true rfl) (Nat.le_of_ble_eq_true rfl) ?_
                  refine go_aload_n dX9_worthWithLocker_109 rfl ?_
                  refine go_get dX9_worthWithLocker_110 fl_X9_33_9 ((sc_out (by omega)).trans wy_obj) hqw (by omega) rfl ?_
                  refine go_iload dX9_worthWithLocker_113 rfl ?_
                  refine go_iald dX9_worthWithLocker_115 ((sc_out (by omega)).trans wy_4) (by omega) (by omega) (vp_in_nI (n := a) (by show a < 8; omega) (by decide)) ?_
                  refine go_tp (z := T a) (by rw [nI_clamp (by omega)]) ?_
                  refine go_isub dX9_worthWithLocker_116 ?_
                  refine go_aload_n dX9_worthWithLocker_117 rfl ?_
                  refine go_get dX9_worthWithLocker_118 fl_X9_33_9 ((sc_out (by omega)).trans wy_obj) hqw (by omega) rfl ?_
                  refine go_iload dX9_worthWithLocker_121 rfl ?_
                  refine go_iald dX9_worthWithLocker_123 ((sc_out (by omega)).trans wy_4) (by omega) (by omega) (vp_in_nI (n := a + 1 + k) (by show a + 1 + k < 8; omega) (by decide)) ?_
                  refine go_tp (z := T (a + 1 + k)) (by rw [nI_clamp (by omega)]) ?_
                  refine go_isub dX9_worthWithLocker_124 ?_
                  refine go_istore (ls' := [some (.ref w), some (.ref s), some (.int (nI l)), some (.int (nI z)), some (.long y), none, some (.int (nI a)), some (.int (nI (clrN z a))), none, none, some (.int (nI (a + 1 + k))), some (.int (((likS A a (a + 1 + k)) - (T a)) - (T (a + 1 + k)))), none, none]) dX9_worthWithLocker_125 ⟨by decide, rfl, rfl⟩ ?_
                  refine go_iload dX9_worthWithLocker_127 rfl ?_
                  refine go_Sr [.int (((likS A a (a + 1 + k)) - (T a)) - (T (a + 1 + k)))] [] dX9_worthWithLocker_129 sl_X9_96 ⟨by decide, by decide⟩ (e_X9_worthOf) rfl rfl (Nat.le_of_ble_eq_true rfl) (Nat.le_of_ble_eq_true rfl) (Nat.le_of_ble_eq_true rfl) ?_
                  refine go_iload_n dX9_worthWithLocker_132 rfl ?_
                  refine go_iload dX9_worthWithLocker_133 rfl ?_
                  refine go_Sr [.int (nI l), .int (nI a)] [.long (woS (((likS A a (a + 1 + k)) - (T a)) - (T (a + 1 + k))))] dX9_worthWithLocker_135 sl_X9_99 ⟨by decide, by decide⟩ (e_X9_lessPlace (by omega)) rfl rfl (Nat.le_of_ble_eq_true rfl) (Nat.le_of_ble_eq_true rfl) (Nat.le_of_ble_eq_true rfl) ?_
                  refine go_ladd dX9_worthWithLocker_138 ?_
                  refine go_iload_n dX9_worthWithLocker_139 rfl ?_
                  refine go_iload dX9_worthWithLocker_140 rfl ?_
                  refine go_Sr [.int (nI l), .int (nI (a + 1 + k))] [.long ((woS (((likS A a (a + 1 + k)) - (T a)) - (T (a + 1 + k)))) + (lpS (nI l) a))] dX9_worthWithLocker_142 sl_X9_99 ⟨by decide, by decide⟩ (e_X9_lessPlace (by omega)) rfl rfl (Nat.le_of_ble_eq_true rfl) (Nat.le_of_ble_eq_true rfl) (Nat.le_of_ble_eq_true rfl) ?_
                  refine go_ladd dX9_worthWithLocker_145 ?_
                  refine go_lstore (ls' := [some (.ref w), some (.ref s), some (.int (nI l)), some (.int (nI z)), some (.long y), none, some (.int (nI a)), some (.int (nI (clrN z a))), none, none, some (.int (nI (a + 1 + k))), some (.int (((likS A a (a + 1 + k)) - (T a)) - (T (a + 1 + k)))), some (.long (((woS (((likS A a (a + 1 + k)) - (T a)) - (T (a + 1 + k)))) + (lpS (nI l) a)) + (lpS (nI l) (a + 1 + k)))), none]) dX9_worthWithLocker_146 ⟨by decide, rfl, rfl⟩ ?_
                  refine go_lload dX9_worthWithLocker_148 rfl ?_
                  refine go_aload_n dX9_worthWithLocker_150 rfl ?_
                  refine go_get dX9_worthWithLocker_151 fl_X9_29_9 ((sc_out (by omega)).trans wy_obj) hqw (by omega) rfl ?_
                  refine go_iload dX9_worthWithLocker_154 rfl ?_
                  refine go_iload dX9_worthWithLocker_156 rfl ?_
                  have hcw158 : clrN (clrN z a) (a + 1 + k) < 256 := clr_lt (by omega)
                  refine go_Sr [.int (nI (clrN z a)), .int (nI (a + 1 + k))] [.ref (w + 3), .long y] dX9_worthWithLocker_158 sl_X9_103 ⟨by decide, by decide⟩ (e_X9_without (by omega) (by omega)) rfl rfl (Nat.le_of_ble_eq_true rfl) (Nat.le_of_ble_eq_true rfl) (Nat.le_of_ble_eq_true rfl) ?_
                  refine go_lald dX9_worthWithLocker_161 ((sc_out (by omega)).trans wy_3) (by omega) (by omega) (vp_in_nI (n := clrN (clrN z a) (a + 1 + k)) (by show clrN (clrN z a) (a + 1 + k) < 256; omega) (by decide)) ?_
                  refine go_tl (z := Wl (clrN (clrN z a) (a + 1 + k))) (by rw [nI_clamp (by omega)]) ?_
                  refine go_lload dX9_worthWithLocker_162 rfl ?_
                  refine go_ladd dX9_worthWithLocker_164 ?_
                  refine go_Sr [.long y, .long ((Wl (clrN (clrN z a) (a + 1 + k))) + (((woS (((likS A a (a + 1 + k)) - (T a)) - (T (a + 1 + k)))) + (lpS (nI l) a)) + (lpS (nI l) (a + 1 + k))))] [] dX9_worthWithLocker_165 sl_X9_106 ⟨by decide, by decide⟩ (e_J9_maxL) rfl rfl (Nat.le_of_ble_eq_true rfl) (Nat.le_of_ble_eq_true rfl) (Nat.le_of_ble_eq_true rfl) ?_
                  refine go_lstore (ls' := [some (.ref w), some (.ref s), some (.int (nI l)), some (.int (nI z)), some (.long (mlS (y) ((Wl (clrN (clrN z a) (a + 1 + k))) + (((woS (((likS A a (a + 1 + k)) - (T a)) - (T (a + 1 + k)))) + (lpS (nI l) a)) + (lpS (nI l) (a + 1 + k)))))), none, some (.int (nI a)), some (.int (nI (clrN z a))), none, none, some (.int (nI (a + 1 + k))), some (.int (((likS A a (a + 1 + k)) - (T a)) - (T (a + 1 + k)))), some (.long (((woS (((likS A a (a + 1 + k)) - (T a)) - (T (a + 1 + k)))) + (lpS (nI l) a)) + (lpS (nI l) (a + 1 + k)))), none]) dX9_worthWithLocker_168 ⟨by decide, rfl, rfl⟩ ?_
                  refine go_iinc (v := nI ((a + 1 + k) + 1)) (ls' := [some (.ref w), some (.ref s), some (.int (nI l)), some (.int (nI z)), some (.long (mlS (y) ((Wl (clrN (clrN z a) (a + 1 + k))) + (((woS (((likS A a (a + 1 + k)) - (T a)) - (T (a + 1 + k)))) + (lpS (nI l) a)) + (lpS (nI l) (a + 1 + k)))))), none, some (.int (nI a)), some (.int (nI (clrN z a))), none, none, some (.int (nI ((a + 1 + k) + 1))), some (.int (((likS A a (a + 1 + k)) - (T a)) - (T (a + 1 + k)))), some (.long (((woS (((likS A a (a + 1 + k)) - (T a)) - (T (a + 1 + k)))) + (lpS (nI l) a)) + (lpS (nI l) (a + 1 + k)))), none]) dX9_worthWithLocker_170 rfl (nI_1 (a + 1 + k)) ⟨by decide, rfl, rfl⟩ ?_
                  refine go_goto dX9_worthWithLocker_173 ?_
                  refine go_weak (ls' := [some (.ref w), some (.ref s), some (.int (nI l)), some (.int (nI z)), some (.long (mlS (y) ((Wl (clrN (clrN z a) (a + 1 + k))) + (((woS (((likS A a (a + 1 + k)) - (T a)) - (T (a + 1 + k)))) + (lpS (nI l) a)) + (lpS (nI l) (a + 1 + k)))))), none, some (.int (nI a)), some (.int (nI (clrN z a))), none, none, some (.int (nI ((a + 1 + k) + 1))), none, none, none]) ⟨rfl, rfl, rfl, rfl, rfl, rfl, rfl, rfl, trivial⟩ ?_
                  exact ih_lp1 (k + 1) _ (by omega) (by omega) (by unfold wbS; rw [if_pos c98, ← hy])
          refine go_weak (ls' := [some (.ref w), some (.ref s), some (.int (nI l)), some (.int (nI z)), some (.long (mlS (x) ((Wl (clrN z a)) + ((woS (12 - (T a))) + (lpS (nI l) a))))), none, some (.int (nI a)), some (.int (nI (clrN z a))), none, none, some (.int (nI (a + 1))), none, none, none]) ⟨rfl, rfl, rfl, rfl, rfl, rfl, rfl, rfl, trivial⟩ ?_
          exact lp1 (N + 1) 0 _ (by omega) (by omega) rfl
  exact lp0 (N + 1) 0 _ (Nat.zero_le _) (by omega) rfl
end C8
