/-! THE JUDGEMENT. G: launch, the first address of this run, the classes' numbers and slots, the array classes. A memory says of each address what lies there; all cells from the first address on lie in the memory. -/
abbrev GX : Type := Launch × Nat × va_G × (Nat → ClassId)
abbrev MD : Type := MethodName × ByteArray × Nat × Option FieldType
abbrev Mem : Type := Nat → va_E
abbrev RQ : Type := Option Value → Mem → Nat → Prop
def gtys (G : GX) : List (ClassId × FieldType) := [(G.2.2.2 0, .int), (G.2.2.2 1, .long), (G.2.2.2 2, .object "TwoToALocker$One"), (G.2.2.2 3, .object "TwoToALocker$Row")]
def gNm : List (String × Nat × MethodName × String) := [("TwoToALocker", 24, ⟨"TwoToALocker$Ways", "<init>", "()V"⟩, "TwoToALocker"), ("TwoToALocker$School", 68, ⟨"TwoToALocker", "oneOf", "(II)LTwoToALocker$One;"⟩, "TwoToALocker"), ("TwoToALocker$School", 92, ⟨"TwoToALocker", "isWithin", "(III)Z"⟩, "TwoToALocker")]
def gNc : List (String × String) := [("TwoToALocker$Wet", "TwoToALocker$One"), ("TwoToALocker$Tidy", "TwoToALocker$One"), ("TwoToALocker$Tall", "TwoToALocker$One"), ("TwoToALocker$Fussy", "TwoToALocker$One"), ("TwoToALocker$Smelly", "TwoToALocker$One"), ("TwoToALocker$Loner", "TwoToALocker$One"), ("TwoToALocker$Giant", "TwoToALocker$One")]
def gK (G : GX) (U : State) : Prop := va_K G.2.2.1 vwCl (gtys G) U ∧ (∀ q ∈ gNm, va_Nw (.methodLinkNest q.1 q.2.1 q.2.2.1 q.2.2.2) U) ∧ (∀ q ∈ gNc, va_Nw (.castable q.1 q.2) U) ∧ va_AO "TwoToALocker$One" U ∧ va_AO "TwoToALocker$Row" U
theorem gK.warm {G : GX} {s U : State} (h : gK G s) (hW : s.WarmedH U.vm) : gK G U :=
  ⟨va_K.moved hW.alike h.1, fun q hq => va_Nw.warmM hW (h.2.1 q hq), fun q hq => va_Nw.warmC hW (h.2.2.1 q hq), va_AO.moved hW.alike h.2.2.2.1, va_AO.moved hW.alike h.2.2.2.2⟩
theorem gK.same {G : GX} {s U : State} (h : gK G s) (e : s.vm = U.vm) : gK G U :=
  ⟨va_K.moved (e ▸ Vm.Alike.refl _) h.1, fun q hq => va_Nw.same rfl e (h.2.1 q hq), fun q hq => va_Nw.same rfl e (h.2.2.1 q hq), va_AO.moved (e ▸ Vm.Alike.refl _) h.2.2.2.1, va_AO.moved (e ▸ Vm.Alike.refl _) h.2.2.2.2⟩
/-- a place of which nothing is known -/
abbrev va_hole : va_E := .inr (13, [])
/-- the run's heap: at each of its addresses lies what the memory says, or nothing is known -/
def gH (G : GX) (f : Mem) (n : Nat) (H : Heap) : Prop := ∀ a, G.2.1 ≤ a → a < n → f a = va_hole ∨ va_at G.2.2.1 vwCl (a, f a) H
theorem gH.ob {G : GX} {f : Mem} {n : Nat} {H : Heap} {a ci : Nat} {fs : List Value} {q : vw_C} (h : gH G f n H) (he : f a = .inr (ci, fs)) (hc : vwCl[ci]? = some q) (h1 : G.2.1 ≤ a) (h2 : a < n) : va_P G.2.2.1 vwCl [(a, .inr (ci, fs))] H := by
  intro k x hx
  have hz : k < 1 := (List.getElem?_eq_some_iff.mp hx).1
  rw [show k = 0 by omega] at hx
  cases hx
  rcases h a h1 h2 with z | z
  · rw [he] at z
    cases z
    cases hc
  · rw [he] at z
    exact z
theorem gH.ar {G : GX} {f : Mem} {n : Nat} {H : Heap} {a : Nat} {z : ClassId × vp_A} (h : gH G f n H) (he : f a = .inl z) (h1 : G.2.1 ≤ a) (h2 : a < n) : va_P G.2.2.1 vwCl [(a, .inl z)] H := by
  intro k x hx
  have hz : k < 1 := (List.getElem?_eq_some_iff.mp hx).1
  rw [show k = 0 by omega] at hx
  cases hx
  rcases h a h1 h2 with z | z
  · rw [he] at z
    cases z
  · rw [he] at z
    exact z
theorem gH.set {G : GX} {f : Mem} {n : Nat} {H H1 : Heap} {a : Nat} {e : va_E} (h : gH G f n H) (he : va_at G.2.2.1 vwCl (a, e) H1) (oq : ∀ q : Nat, q ≠ a → H1[q]? = H[q]?) : gH G (va_up f a e) n H1 := by
  intro x h1 h2
  by_cases hx : x = a
  · subst hx
    have e1 : va_up f x e x = e := by simp [va_up]
    rw [e1]
    exact Or.inr he
  · have e1 : va_up f a e x = f x := by simp [va_up, hx]
    rw [e1]
    exact (h x h1 h2).imp id (fun z => z.kept (oq x hx))
theorem gH.push {G : GX} {f : Mem} {n : Nat} {H H1 : Heap} {e : va_E} (h : gH G f n H) (o1 : ∀ q : Nat, q < n → H1[q]? = H[q]?) (he : va_at G.2.2.1 vwCl (n, e) H1) : gH G (va_up f n e) (n + 1) H1 := by
  intro x h1 h2
  by_cases hx : x = n
  · subst hx
    have e1 : va_up f x e x = e := by simp [va_up]
    rw [e1]
    exact Or.inr he
  · have e1 : va_up f n e x = f x := by simp [va_up, hx]
    rw [e1]
    exact (h x h1 (by omega)).imp id (fun z => z.kept (o1 x (by omega)))
def gP (G : GX) (f : Mem) (n : Nat) (H : Heap) : Prop := G.2.1 ≤ n ∧ H.size = n ∧ gH G f n H
def gA (G : GX) : Nat → Prop := fun q => G.2.1 ≤ q
def gws (y : MD) : List Cond := Cond.code y.1 y.2.1 y.2.2.1 y.2.2.2 :: gT
def grm (d mc ms : Nat) : Room := { frames := d, cells := mc, slots := ms, locals := 40 * d }
def gQ (G : GX) (Q : RQ) : Array Value → State → Outcome → State → Prop := fun _ st oc t => (∃ (r : Option Value) (f : Mem) (n : Nat), oc = .returned r ∧ Q r f n ∧ gP G f n t.heap) ∧ va_F (gA G) st t
/-- the method y, at most d calls deep, with these arguments and this memory, returns so; it makes at most mc cells of ms slots -/
def Ev (G : GX) (y : MD) (d mc ms : Nat) (as : List Value) (f : Mem) (n : Nat) (Q : RQ) : Prop :=
  Met G.1 y.1 (gws y) (grm d mc ms) (va_Pc as (fun U => gP G f n U.heap ∧ gK G U)) (gQ G Q) mc ms (gA G)
def gl : Nat → List (Option Value) → List (Nat × Value)
  | _, [] => []
  | i, none :: l => gl (i + 1) l
  | i, some v :: l => (i, v) :: gl (i + 1) l
def gC (G : GX) (y : MD) (p : Program) (s : State) (m : MethodId) (args : Array Value) (meth : Method) (c : Code) : Prop :=
  p.tables.exec = Jvm.exec ∧ c.code = y.2.1 ∧ c.maxLocals = y.2.2.1 ∧ s.vm.findClass y.1.cls = some m.cls ∧ (∀ w ∈ gws y, w.before args s = true) ∧ meth.sig.returnType = y.2.2.2 ∧ meth.locks = false ∧ meth.name = y.1.name ∧ gK G s ∧ G.2.1 ≤ s.heap.size
/-- at pc, with these locals and this stack and memory, the method comes to an end with Q -/
def Go (G : GX) (y : MD) (d mc ms : Nat) (Q : RQ) (kc ks pc : Nat) (ls : List (Option Value)) (st : List Value) (f : Mem) (n : Nat) : Prop :=
  ∀ (p : Program) (e : Env) (s : State) (m : MethodId) (args : Array Value) (below : List Frame) (meth : Method) (c : Code), gC G y p s m args meth c →
    ∀ (H : Heap) (locs : List Loc) (la : Array Slot), gP G f n H → va_S (gA G) s.heap H locs → lv_has la y.2.2.1 (gl 0 ls) →
      W p G.1 e (grm d mc ms) s m args below meth c H locs kc ks (MQ below (gQ G Q) args s mc ms (gA G)) (F0 m pc la st)
theorem gl_mem : ∀ (ls : List (Option Value)) (o i : Nat) (v : Value), ls[i]? = some (some v) → (o + i, v) ∈ gl o ls
  | [], _, _, _, h => by simp at h
  | none :: l, o, 0, v, h => by simp at h
  | some w :: l, o, 0, v, h => by
    simp at h
    subst h
    exact List.mem_cons_self
  | none :: l, o, i + 1, v, h => by
    have := gl_mem l (o + 1) i v (by simpa using h)
    rw [show o + 1 + i = o + (i + 1) by omega] at this
    exact this
  | some w :: l, o, i + 1, v, h => by
    have := gl_mem l (o + 1) i v (by simpa using h)
    rw [show o + 1 + i = o + (i + 1) by omega] at this
    exact List.mem_cons_of_mem _ this
theorem gl_of : ∀ (ls : List (Option Value)) (o : Nat) (q : Nat × Value), q ∈ gl o ls → o ≤ q.1 ∧ ls[q.1 - o]? = some (some q.2)
  | [], _, _, h => by cases h
  | none :: l, o, q, h => by
    obtain ⟨h1, h2⟩ := gl_of l (o + 1) q h
    refine ⟨by omega, ?_⟩
    rw [show q.1 - o = (q.1 - (o + 1)) + 1 by omega]
    simpa using h2
  | some w :: l, o, q, h => by
    rcases List.mem_cons.mp h with rfl | h
    · simp
    · obtain ⟨h1, h2⟩ := gl_of l (o + 1) q h
      refine ⟨by omega, ?_⟩
      rw [show q.1 - o = (q.1 - (o + 1)) + 1 by omega]
      simpa using h2
theorem gl_at {la : Array Slot} {nL : Nat} {ls : List (Option Value)} (h : lv_has la nL (gl 0 ls)) {i : Nat} {v : Value} (hv : ls[i]? = some (some v)) : la[i]? = some (.val v) := by
  have := gl_mem ls 0 i v hv
  rw [Nat.zero_add] at this
  exact h.2.2 (i, v) this
/-- nothing two wide ends at i -/
def gok (ls : List (Option Value)) (i : Nat) : Bool := match i with
  | 0 => true
  | k + 1 => match ls[k]? with
    | some (some v) => v.category == 1
    | _ => true
theorem gl_set1 {la : Array Slot} {nL : Nat} {ls ls' : List (Option Value)} {i : Nat} {v : Value} (ho : gok ls i = true) (hs : ls.set i (some v) = ls') (h : lv_has la nL ((i, v) :: (gl 0 ls).filter (fun q => !(q.1 == i) && !(q.1 + 1 == i && q.2.category == 2)))) : lv_has la nL (gl 0 ls') := by
  refine ⟨h.1, h.2.1, fun q hq => h.2.2 q ?_⟩
  obtain ⟨-, h2⟩ := gl_of ls' 0 q hq
  rw [Nat.sub_zero, ← hs] at h2
  by_cases hi : q.1 = i
  · have hlt : i < ls.length := by
      rcases Nat.lt_or_ge i ls.length with z | z
      · exact z
      · rw [hi, List.getElem?_eq_none (by simp; omega)] at h2
        cases h2
    rw [hi, List.getElem?_set_self hlt] at h2
    cases h2
    rw [← hi]
    exact List.mem_cons_self
  · rw [List.getElem?_set_ne (fun z => hi z.symm)] at h2
    refine List.mem_cons_of_mem _ (List.mem_filter.mpr ⟨by have := gl_mem ls 0 q.1 q.2 h2; rw [Nat.zero_add] at this; exact this, ?_⟩)
    have a1 : (q.1 == i) = false := by simp [hi]
    have a2 : (q.1 + 1 == i && q.2.category == 2) = false := by
      by_cases hk : q.1 + 1 = i
      · subst hk
        simp only [gok, h2] at ho
        have : q.2.category = 1 := by simpa using ho
        simp [this]
      · simp [hk]
    simp only [a1, a2]
    rfl
theorem gl_set2 {la : Array Slot} {nL : Nat} {ls ls' : List (Option Value)} {i : Nat} {v : Value} (ho : gok ls i = true) (hs : (ls.set i (some v)).set (i + 1) none = ls') (h : lv_has la nL ((i, v) :: (gl 0 ls).filter (fun q => !(q.1 == i) && (!(q.1 == i + 1) && !(q.1 + 1 == i && q.2.category == 2))))) : lv_has la nL (gl 0 ls') := by
  refine ⟨h.1, h.2.1, fun q hq => h.2.2 q ?_⟩
  obtain ⟨-, h2⟩ := gl_of ls' 0 q hq
  rw [Nat.sub_zero, ← hs] at h2
  by_cases hj : q.1 = i + 1
  · rw [hj] at h2
    by_cases hl : i + 1 < ls.length
    · rw [List.getElem?_set_self (by simpa using hl)] at h2
      cases h2
    · rw [List.getElem?_eq_none (by simp; omega)] at h2
      cases h2
  · rw [List.getElem?_set_ne (fun z => hj z.symm)] at h2
    by_cases hi : q.1 = i
    · have hlt : i < ls.length := by
        rcases Nat.lt_or_ge i ls.length with z | z
        · exact z
        · rw [hi, List.getElem?_eq_none (by simp; omega)] at h2
          cases h2
      rw [hi, List.getElem?_set_self hlt] at h2
      cases h2
      rw [← hi]
      exact List.mem_cons_self
    · rw [List.getElem?_set_ne (fun z => hi z.symm)] at h2
      refine List.mem_cons_of_mem _ (List.mem_filter.mpr ⟨by have := gl_mem ls 0 q.1 q.2 h2; rw [Nat.zero_add] at this; exact this, ?_⟩)
      have a1 : (q.1 == i) = false := by simp [hi]
      have a3 : (q.1 == i + 1) = false := by simp [hj]
      have a2 : (q.1 + 1 == i && q.2.category == 2) = false := by
        by_cases hk : q.1 + 1 = i
        · subst hk
          simp only [gok, h2] at ho
          have : q.2.category = 1 := by simpa using ho
          simp [this]
        · simp [hk]
      simp only [a1, a2, a3]
      rfl
/-- fewer known locals -/
def gsub : List (Option Value) → List (Option Value) → Prop
  | [], _ => True
  | none :: l, _ :: l' => gsub l l'
  | none :: _, [] => False
  | some v :: l, w :: l' => w = some v ∧ gsub l l'
  | some _ :: _, [] => False
theorem gsub_at : ∀ (l l' : List (Option Value)), gsub l l' → ∀ (i : Nat) (v : Value), l[i]? = some (some v) → l'[i]? = some (some v)
  | [], _, _, i, v, h => by simp at h
  | none :: l, w :: l', hs, 0, v, h => by simp at h
  | none :: l, w :: l', hs, i + 1, v, h => by
    have := gsub_at l l' hs i v (by simpa using h)
    simpa using this
  | some u :: l, w :: l', hs, 0, v, h => by
    simp at h
    subst h
    simp [hs.1]
  | some u :: l, w :: l', hs, i + 1, v, h => by
    have := gsub_at l l' hs.2 i v (by simpa using h)
    simpa using this
theorem gl_sub {la : Array Slot} {nL : Nat} {ls ls' : List (Option Value)} (h : lv_has la nL (gl 0 ls)) (hs : gsub ls' ls) : lv_has la nL (gl 0 ls') := by
  refine ⟨h.1, h.2.1, fun q hq => h.2.2 q ?_⟩
  obtain ⟨-, h2⟩ := gl_of ls' 0 q hq
  rw [Nat.sub_zero] at h2
  have := gl_mem ls 0 q.1 q.2 (gsub_at ls' ls hs q.1 q.2 h2)
  rw [Nat.zero_add] at this
  exact this
