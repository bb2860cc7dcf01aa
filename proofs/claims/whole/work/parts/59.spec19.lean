/-! all placed best, by sets of those who are placed already -/
def awl (fx : Nat → Int32) (N : Nat) (s : Int32) (l : Nat) : Bool := alB (awP fx s (nI l)) N
def pl0S (N : Nat) (fx : Nat → Int32) (s : Nat) : Nat → Int32
  | 0 => 0
  | k + 1 => pl0S N fx s k + (if Nat.testBit s k then 0 else if mbeS fx k 9 then -20 else -9999)
def plIn (A : Nat → Nat → Int32) (T : Nat → Int32) (fx : Nat → Int32) (N l s a : Nat) (z : Int32) : Nat → Int32
  | 0 => z
  | k + 1 => if s &&& (2 ^ a ||| 2 ^ (a + k)) = 0 then (if awl fx N (nI (2 ^ a ||| 2 ^ (a + k))) l then grS (plIn A T fx N l s a z k) (ciS A a (a + k) l + T (s ||| (2 ^ a ||| 2 ^ (a + k)))) else plIn A T fx N l s a z k) else plIn A T fx N l s a z k
def plOut (A : Nat → Nat → Int32) (T : Nat → Int32) (fx : Nat → Int32) (N l s : Nat) (z : Int32) : Nat → Int32
  | 0 => z
  | a + 1 => plIn A T fx N l s a (plOut A T fx N l s z a) (N - a)
def plV (A : Nat → Nat → Int32) (T : Nat → Int32) (fx : Nat → Int32) (N l s : Nat) : Int32 := plOut A T fx N l s (if awl fx N 0 l then T s else -9999) N
def plR (N M : Nat) (A : Nat → Nat → Int32) (fx : Nat → Int32) : Nat → Nat → Int32
  | 0, s => pl0S N fx s N
  | m + 1, s => plV A (plR N M A fx m) fx N (M - (m + 1)) s
theorem plR_s {N M l s : Nat} {A : Nat → Nat → Int32} {fx : Nat → Int32} (hl : l < M) : plR N M A fx (M - l) s = plV A (plR N M A fx (M - (l + 1))) fx N l s := by
  rw [show M - l = (M - (l + 1)) + 1 by omega]
  show plV A (plR N M A fx (M - (l + 1))) fx N (M - (M - (l + 1) + 1)) s = _
  rw [show M - (M - (l + 1) + 1) = l by omega]
theorem ciS_rows {A A' : Nat → Nat → Int32} (h : ∀ r, r < 8 → A' r = A r) (a b l : Nat) : ciS A' a b l = ciS A a b l := by
  unfold ciS trS
  rw [likS_rows (h 1 (by decide)) (h 2 (by decide)), h 1 (by decide), h 5 (by decide), h 6 (by decide)]
theorem awl_fx {fx fx' : Nat → Int32} {N l : Nat} {s : Int32} (h : ∀ p, p < N → fx' p = fx p) : awl fx' N s l = awl fx N s l := by
  unfold awl
  have key : ∀ n, n ≤ N → alB (awP fx' s (nI l)) n = alB (awP fx s (nI l)) n := by
    intro n
    induction n with
    | zero => intro _; rfl
    | succ n ih =>
      intro hn
      unfold alB
      rw [ih (by omega)]
      unfold awP mbeS
      rw [h n (by omega)]
  exact key N (Nat.le_refl _)
theorem plR_congr {N M : Nat} {A A' : Nat → Nat → Int32} {fx fx' : Nat → Int32} (hA : ∀ r, r < 8 → A' r = A r) (h : ∀ p, p < N → fx' p = fx p) : ∀ (m s : Nat), plR N M A' fx' m s = plR N M A fx m s
  | 0, s => by
    show pl0S N fx' s N = pl0S N fx s N
    have key : ∀ n, n ≤ N → pl0S N fx' s n = pl0S N fx s n := by
      intro n
      induction n with
      | zero => intro _; rfl
      | succ n ih =>
        intro hn
        unfold pl0S
        rw [ih (by omega)]
        unfold mbeS
        rw [h n (by omega)]
    exact key N (Nat.le_refl _)
  | m + 1, s => by
    have ih : plR N M A' fx' m = plR N M A fx m := funext (plR_congr hA h m)
    show plV A' (plR N M A' fx' m) fx' N (M - (m + 1)) s = plV A (plR N M A fx m) fx N (M - (m + 1)) s
    rw [ih]
    have k1 : ∀ (a : Nat) (z : Int32) (n : Nat), plIn A' (plR N M A fx m) fx' N (M - (m + 1)) s a z n = plIn A (plR N M A fx m) fx N (M - (m + 1)) s a z n := by
      intro a z n
      induction n with
      | zero => rfl
      | succ n ih2 =>
        unfold plIn
        rw [ih2, awl_fx h, ciS_rows hA]
    have k2 : ∀ (z : Int32) (n : Nat), plOut A' (plR N M A fx m) fx' N (M - (m + 1)) s z n = plOut A (plR N M A fx m) fx N (M - (m + 1)) s z n := by
      intro z n
      induction n with
      | zero => rfl
      | succ n ih2 =>
        unfold plOut
        rw [ih2, k1]
    unfold plV
    rw [awl_fx h, k2]
/-- the place of the l-th locker; behind the last: none -/
def lvS (M l : Nat) : Int32 := if l = M then 9 else nI l
def fxU (fx : Nat → Int32) (p : Nat) (v : Int32) : Nat → Int32 := fun i => if i = p then v else fx i
def gfL (N M : Nat) (A : Nat → Nat → Int32) (due : Int32) (fx : Nat → Int32) (p : Nat) : Nat → Nat → Int32
  | _, 0 => 9
  | l, k + 1 => if plR N M A (fxU fx p (lvS M l)) M 0 = due then lvS M l else gfL N M A due fx p (l + 1) k
def gfX (N M : Nat) (A : Nat → Nat → Int32) (due : Int32) : Nat → Nat → Int32
  | 0 => fun _ => -1
  | p + 1 => fxU (gfX N M A due p) p (gfL N M A due (gfX N M A due p) p 0 (M + 1))
def pldS (N M : Nat) (A : Nat → Nat → Int32) : Int32 := plR N M A (fun _ => -1) M 0
def plaS (N M : Nat) (A : Nat → Nat → Int32) (i : Int32) : Int32 := if okp N i then gfX N M A (pldS N M A) (i.toNatClampNeg + 1) i.toNatClampNeg else -1
theorem or_lt8 {a b : Nat} (ha : a < 256) (hb : b < 256) : a ||| b < 256 := Nat.or_lt_two_pow (n := 8) ha hb
theorem p8_lt {a : Nat} (h : a < 8) : 2 ^ a < 256 := by
  have : ∀ a, a < 8 → 2 ^ a < 256 := by decide
  exact this a h
theorem lvS_nn {M l : Nat} (hM : M ≤ 5) (hl : l ≤ M) : ¬ lvS M l < 0 := by
  unfold lvS
  by_cases h : l = M
  · rw [if_pos h]; decide
  · rw [if_neg h]; exact nI_pos (by omega)
theorem pl_set {A : Nat → Nat → Int32} {j i : Nat} {v : Int32} {k : Nat} (h : k ≠ j) : upA A j i v k = A k := upA_n A h i v
