theorem go_tableDef {G : GX} {y : MD} {d mc ms : Nat} {Q : RQ} {kc ks pc : Nat} {ls : List (Option Value)} {st : List Value} {f : Mem} {n : Nat} {dflt lo hi : Int} {offs : Array Int} {len : Nat} {x : Int32} {tgt : Nat} {ds : List Int} (hd : decode y.2.1 pc = .ok (.tableswitch dflt lo hi offs, len)) (h : x.toInt < lo ∨ hi < x.toInt ∨ x.toInt ∈ ds) (hds : ∀ k ∈ ds, ¬ k < lo ∧ ¬ hi < k ∧ offs[(k - lo).toNat]? = some dflt) (ht : (pc : Int) + dflt = (tgt : Int)) (k : Go G y d mc ms Q kc ks tgt ls st f n) : Go G y d mc ms Q kc ks pc ls (.int x :: st) f n := by
  by_cases h0 : x.toInt < lo ∨ hi < x.toInt
  · exact go_tableOut hd h0 ht k
  · have hm : x.toInt ∈ ds := by
      rcases h with z | z | z
      · exact absurd (Or.inl z) h0
      · exact absurd (Or.inr z) h0
      · exact z
    obtain ⟨h1, h2, h3⟩ := hds _ hm
    exact go_tableIn hd h1 h2 h3 ht k
theorem okp_lt {N i : Nat} (h : okp N (nI i)) (hi : i < 2 ^ 31) (hN : N < 2 ^ 31) : i < N := (nI_ltI hi hN).mp (okp_i.mp h).2
theorem okp_ge {N i : Nat} (h : ¬ okp N (nI i)) (hi : i < 2 ^ 31) (hN : N < 2 ^ 31) : N ≤ i := by
  rcases Nat.lt_or_ge i N with z | z
  · exact absurd (okp_i.mpr ⟨nI_pos hi, nI_lt z hN⟩) h
  · exact z
/-- a pupil comes; a locker comes -/
def pcC (N : Nat) (k h : Int32) : Bool := decide (k < 8 ∧ h < 6 ∧ N < 8)
def pcA (N : Nat) (A : Nat → Nat → Int32) (k fg h : Int32) : Nat → Nat → Int32 := upA (upA (upA (upA A 1 N k) 2 N fg) 3 N h) 4 N 9
def lcC (M : Nat) (ab : Int32) : Bool := decide (ab < 2 ∧ M < 5)
def lcA (M : Nat) (A : Nat → Nat → Int32) (far ab : Int32) : Nat → Nat → Int32 := upA (upA (upA A 5 M far) 6 M ab) 7 M 2
def mkC (M : Nat) (P : Int32) (l : Int32) : Bool := decide (okp M l ∧ ¬ 9999 < P + 5)
def mkA (A : Nat → Nat → Int32) (l : Int32) : Nat → Nat → Int32 := upA A 7 l.toNatClampNeg 2
def pupS (N : Nat) (A : Nat → Nat → Int32) (p what : Int32) : Int32 := if okp N p then
  (if what = 0 then A 1 p.toNatClampNeg else if what = 1 then A 2 p.toNatClampNeg else if what = 2 then A 3 p.toNatClampNeg else if what = 3 then A 4 p.toNatClampNeg
   else if what = 4 then dampS (A 1 p.toNatClampNeg) else if what = 5 then roomS (A 1 p.toNatClampNeg) else if what = 6 then mateS N (A 4) p.toNatClampNeg else -1) else -1
def lockS (N M : Nat) (A : Nat → Nat → Int32) (l what : Int32) : Int32 := if okp M l ∧ okr what 0 3 then
  (if what = 0 then A 5 l.toNatClampNeg else if what = 1 then A 6 l.toNatClampNeg else if what = 2 then A 7 l.toNatClampNeg else inS N (A 4) l) else -1
def twoS (N : Nat) (a b : Int32) : Bool := decide (okp N a ∧ okp N b ∧ ¬ a = b)
def bearsS (N : Nat) (A : Nat → Nat → Int32) (a b : Int32) : Int32 := if twoS N a b then brS A a.toNatClampNeg b.toNatClampNeg else -1
def troubS (N M : Nat) (A : Nat → Nat → Int32) (p l : Int32) : Int32 := if okp N p ∧ okp M l then trS A p.toNatClampNeg l.toNatClampNeg else -1
def contS (N : Nat) (A : Nat → Nat → Int32) (p : Int32) : Int32 := if okp N p then ctS N A p.toNatClampNeg else 1000000001
/-- moves: the answer, and where they sit -/
def mvC (N M : Nat) (A : Nat → Nat → Int32) (p l : Int32) : Bool := decide (okp N p ∧ (l = 9 ∨ okp M l))
def mvR (N M : Nat) (A : Nat → Nat → Int32) (p l : Int32) : Int32 := if mvC N M A p l then (if mmS N (A 4) p.toNatClampNeg l then A 4 p.toNatClampNeg else -3) else -1
def mvA (N M : Nat) (A : Nat → Nat → Int32) (p l : Int32) : Nat → Nat → Int32 := if mvC N M A p l ∧ mmS N (A 4) p.toNatClampNeg l then upA A 4 p.toNatClampNeg l else A
def chR (N : Nat) (A : Nat → Nat → Int32) (a b : Int32) : Int32 := if twoS N a b then (if A 4 a.toNatClampNeg = A 4 b.toNatClampNeg then 0 else 1) else -1
def chA (N : Nat) (A : Nat → Nat → Int32) (a b : Int32) : Nat → Nat → Int32 := if twoS N a b then swS A a.toNatClampNeg b.toNatClampNeg else A
def loR (M : Nat) (A : Nat → Nat → Int32) (l : Int32) : Int32 := if okp M l then (if A 7 l.toNatClampNeg = 0 then -3 else A 7 l.toNatClampNeg - 1) else -1
def loA (M : Nat) (A : Nat → Nat → Int32) (l : Int32) : Nat → Nat → Int32 := if okp M l ∧ ¬ A 7 l.toNatClampNeg = 0 then upA A 7 l.toNatClampNeg (A 7 l.toNatClampNeg - 1) else A
def maR (M : Nat) (P : Int32) (l : Int32) : Int32 := if okp M l then (if mkC M P l then P + 5 else -3) else -1
def costS (k fg : Int32) : Int32 := if k = 0 then 3 else if k = 1 then 5 else if k = 2 then 3 + fg else if k = 3 then 4 else if k = 4 then 2 * (3 + fg) else if k = 5 then 2 else if k = 6 then 3 + fg + 2 else 4 + fg
def nrS (v s : Int32) : Int64 := if s = 0 then v.toInt8.toInt32.toInt64 else if s = 1 then v.toInt16.toInt32.toInt64 else v.toInt64
def skS (s : Int32) : Int64 := if s = 0 then -128 else if s = 1 then -32768 else -2147483648
theorem twoS_i {N : Nat} {a b : Int32} : twoS N a b = true ↔ okp N a = true ∧ okp N b = true ∧ ¬ a = b := decide_eq_true_iff
