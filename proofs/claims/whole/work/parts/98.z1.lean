/-! THE ROWS FOR ANY END: Z, and any room R, in one frame -/
def zC (G : GX) (y : MD) (p : Program) (s : State) (m : MethodId) (args : Array Value) (meth : Method) (c : Code) : Prop :=
  p.tables.exec = Jvm.exec ∧ c.code = y.2.1 ∧ c.maxLocals = y.2.2.1 ∧ s.vm.findClass y.1.cls = some m.cls ∧ (∀ w ∈ gT, w.before args s = true) ∧ meth.sig.returnType = y.2.2.2 ∧ meth.locks = false ∧ meth.name = y.1.name ∧ gK G s ∧ G.2.1 ≤ s.heap.size
def Gz (G : GX) (y : MD) (R : Room) (Z : State → Prop) (p : Program) (e : Env) (s : State) (m : MethodId) (args : Array Value) (below : List Frame) (meth : Method) (c : Code) (kc ks pc : Nat) (ls : List (Option Value)) (st : List Value) (f : Mem) (n : Nat) : Prop :=
  ∀ (H : Heap) (locs : List Loc) (la : Array Slot), gP G f n H → va_S (gA G) s.heap H locs → lv_has la y.2.2.1 (gl 0 ls) → W p G.1 e R s m args below meth c H locs kc ks Z (F0 m pc la st)
def zR (R : Room) (d2 maxL : Nat) : Prop := d2 + 1 ≤ R.frames ∧ 40 * d2 + 40 ≤ R.locals ∧ maxL ≤ 21
theorem zR.ok {R : Room} {d2 maxL mc2 ms2 : Nat} (h : zR R d2 maxL) : (grm d2 mc2 ms2).frames + 1 ≤ R.frames ∧ 8 + (maxL + 11) + (grm d2 mc2 ms2).locals ≤ R.locals := by
  obtain ⟨h1, h2, h3⟩ := h
  refine ⟨h1, ?_⟩
  show 8 + (maxL + 11) + 40 * d2 ≤ R.locals
  omega
theorem gT_goodIn {y2 : MD} (h : Cond.code y2.1 y2.2.1 y2.2.2.1 y2.2.2.2 ∈ gT) : GoodIn gT (gws y2) := by
  intro w hw
  have hw : w ∈ gT := by
    rcases List.mem_cons.mp hw with rfl | z
    · exact h
    · exact z
  exact ⟨hw, (gT_good w hw).2⟩
section GZ
variable {G : GX} {y : MD} {R : Room} {Z : State → Prop} {p : Program} {e : Env} {s : State} {m : MethodId} {args : Array Value} {below : List Frame} {meth : Method} {c : Code}
variable {kc ks pc pc2 : Nat} {ls ls' : List (Option Value)} {st : List Value} {f : Mem} {n : Nat}
theorem zC.ht (C : zC G y p s m args meth c) : ∀ w ∈ gT, w.before args s = true := C.2.2.2.2.1
theorem z_after {H : Heap} {locs : List Loc} {la : Array Slot} {st0 rest : List Value} {mc2 ms2 : Nat} {Q2 : RQ} {a : Array Value}
    (hr : va_Run p G.1 e R s m args below meth c H locs kc ks mc2 ms2 (F0 m pc la st0) rest (gQ G Q2 a) (gA G)) (hS : va_S (gA G) s.heap H locs)
    (kk : ∀ (r : Option Value) (f1 : Mem) (n1 : Nat) (H1 : Heap) (locs1 : List Loc), Q2 r f1 n1 → gP G f1 n1 H1 → va_S (gA G) s.heap H1 locs1 → W p G.1 e R s m args below meth c H1 locs1 (kc + mc2) (ks + ms2) Z (F0 m (pc + 3) la (r.toList ++ rest))) : W p G.1 e R s m args below meth c H locs kc ks Z (F0 m pc la st0) :=
  g_after hr hS kk
theorem gz_iconst (C : zC G y p s m args meth c) {a : Int} {v : Int32} (hd : gd y pc (.iconst a) 1 pc2) (hv : Int32.ofInt a = v) (k : Gz G y R Z p e s m args below meth c kc ks pc2 ls (.int v :: st) f n) : Gz G y R Z p e s m args below meth c kc ks pc ls st f n := by
  obtain ⟨hd, rfl⟩ := hd
  intro H locs la hP hS hl
  exact lv_iconst C.1 C.2.1 hd hv (k H locs la hP hS hl)
theorem gz_bipush (C : zC G y p s m args meth c) {a : Int} {v : Int32} (hd : gd y pc (.bipush a) 2 pc2) (hv : (Int8.ofInt a).toInt32 = v) (k : Gz G y R Z p e s m args below meth c kc ks pc2 ls (.int v :: st) f n) : Gz G y R Z p e s m args below meth c kc ks pc ls st f n := by
  obtain ⟨hd, rfl⟩ := hd
  intro H locs la hP hS hl
  exact lv_bipush C.1 C.2.1 hd hv (k H locs la hP hS hl)
theorem gz_sipush (C : zC G y p s m args meth c) {a : Int} {v : Int32} (hd : gd y pc (.sipush a) 3 pc2) (hv : (Int16.ofInt a).toInt32 = v) (k : Gz G y R Z p e s m args below meth c kc ks pc2 ls (.int v :: st) f n) : Gz G y R Z p e s m args below meth c kc ks pc ls st f n := by
  obtain ⟨hd, rfl⟩ := hd
  intro H locs la hP hS hl
  exact lv_sipush C.1 C.2.1 hd hv (k H locs la hP hS hl)
theorem gz_lconst (C : zC G y p s m args meth c) {a : Fin 2} {v : Int64} (hd : gd y pc (.lconst a) 1 pc2) (hv : Int64.ofNat (a : Nat) = v) (k : Gz G y R Z p e s m args below meth c kc ks pc2 ls (.long v :: st) f n) : Gz G y R Z p e s m args below meth c kc ks pc ls st f n := by
  obtain ⟨hd, rfl⟩ := hd
  intro H locs la hP hS hl
  exact lv_lconst C.1 C.2.1 hd hv (k H locs la hP hS hl)
theorem gz_null (C : zC G y p s m args meth c)  (hd : gd y pc (.aconst_null) 1 pc2) (k : Gz G y R Z p e s m args below meth c kc ks pc2 ls (.null :: st) f n) : Gz G y R Z p e s m args below meth c kc ks pc ls st f n := by
  obtain ⟨hd, rfl⟩ := hd
  intro H locs la hP hS hl
  exact lv_null C.1 C.2.1 hd (k H locs la hP hS hl)
theorem gz_iload_n (C : zC G y p s m args meth c) {a : Fin 4} {x : Int32} (hd : gd y pc (.iload_n a) 1 pc2) (hx : ls[(a : Nat)]? = some (some (.int x))) (k : Gz G y R Z p e s m args below meth c kc ks pc2 ls (.int x :: st) f n) : Gz G y R Z p e s m args below meth c kc ks pc ls st f n := by
  obtain ⟨hd, rfl⟩ := hd
  intro H locs la hP hS hl
  exact lv_iload_n C.1 C.2.1 hd rfl (gl_at hl hx) (k H locs la hP hS hl)
theorem gz_iload (C : zC G y p s m args meth c) {a : Nat} {x : Int32} (hd : gd y pc (.iload a) 2 pc2) (hx : ls[a]? = some (some (.int x))) (k : Gz G y R Z p e s m args below meth c kc ks pc2 ls (.int x :: st) f n) : Gz G y R Z p e s m args below meth c kc ks pc ls st f n := by
  obtain ⟨hd, rfl⟩ := hd
  intro H locs la hP hS hl
  exact lv_iload C.1 C.2.1 hd (gl_at hl hx) (k H locs la hP hS hl)
theorem gz_istore_n (C : zC G y p s m args meth c) {a : Fin 4} {x : Int32} (hd : gd y pc (.istore_n a) 1 pc2) (hs : gs1 y ls (a : Nat) (.int x) ls') (k : Gz G y R Z p e s m args below meth c kc ks pc2 ls' st f n) : Gz G y R Z p e s m args below meth c kc ks pc ls (.int x :: st) f n := by
  obtain ⟨hd, rfl⟩ := hd
  obtain ⟨h1, h2, h3⟩ := hs
  intro H locs la hP hS hl
  exact lv_istore_n C.1 C.2.1 hd rfl hl h1 rfl (fun la hl => k H locs la hP hS (gl_set1 h2 h3 hl))
theorem gz_istore (C : zC G y p s m args meth c) {a : Nat} {x : Int32} (hd : gd y pc (.istore a) 2 pc2) (hs : gs1 y ls a (.int x) ls') (k : Gz G y R Z p e s m args below meth c kc ks pc2 ls' st f n) : Gz G y R Z p e s m args below meth c kc ks pc ls (.int x :: st) f n := by
  obtain ⟨hd, rfl⟩ := hd
  obtain ⟨h1, h2, h3⟩ := hs
  intro H locs la hP hS hl
  exact lv_istore C.1 C.2.1 hd hl h1 rfl (fun la hl => k H locs la hP hS (gl_set1 h2 h3 hl))
theorem gz_lload_n (C : zC G y p s m args meth c) {a : Fin 4} {x : Int64} (hd : gd y pc (.lload_n a) 1 pc2) (hx : ls[(a : Nat)]? = some (some (.long x))) (k : Gz G y R Z p e s m args below meth c kc ks pc2 ls (.long x :: st) f n) : Gz G y R Z p e s m args below meth c kc ks pc ls st f n := by
  obtain ⟨hd, rfl⟩ := hd
  intro H locs la hP hS hl
  exact lv_lload_n C.1 C.2.1 hd rfl (gl_at hl hx) (k H locs la hP hS hl)
theorem gz_lload (C : zC G y p s m args meth c) {a : Nat} {x : Int64} (hd : gd y pc (.lload a) 2 pc2) (hx : ls[a]? = some (some (.long x))) (k : Gz G y R Z p e s m args below meth c kc ks pc2 ls (.long x :: st) f n) : Gz G y R Z p e s m args below meth c kc ks pc ls st f n := by
  obtain ⟨hd, rfl⟩ := hd
  intro H locs la hP hS hl
  exact lv_lload C.1 C.2.1 hd (gl_at hl hx) (k H locs la hP hS hl)
theorem gz_lstore_n (C : zC G y p s m args meth c) {a : Fin 4} {x : Int64} (hd : gd y pc (.lstore_n a) 1 pc2) (hs : gs2 y ls (a : Nat) (.long x) ls') (k : Gz G y R Z p e s m args below meth c kc ks pc2 ls' st f n) : Gz G y R Z p e s m args below meth c kc ks pc ls (.long x :: st) f n := by
  obtain ⟨hd, rfl⟩ := hd
  obtain ⟨h1, h2, h3⟩ := hs
  intro H locs la hP hS hl
  exact lv_lstore_n C.1 C.2.1 hd rfl hl h1 rfl (fun la hl => k H locs la hP hS (gl_set2 h2 h3 hl))
theorem gz_lstore (C : zC G y p s m args meth c) {a : Nat} {x : Int64} (hd : gd y pc (.lstore a) 2 pc2) (hs : gs2 y ls a (.long x) ls') (k : Gz G y R Z p e s m args below meth c kc ks pc2 ls' st f n) : Gz G y R Z p e s m args below meth c kc ks pc ls (.long x :: st) f n := by
  obtain ⟨hd, rfl⟩ := hd
  obtain ⟨h1, h2, h3⟩ := hs
  intro H locs la hP hS hl
  exact lv_lstore C.1 C.2.1 hd hl h1 rfl (fun la hl => k H locs la hP hS (gl_set2 h2 h3 hl))
theorem gz_aload_n (C : zC G y p s m args meth c) {a : Fin 4} {x : Nat} (hd : gd y pc (.aload_n a) 1 pc2) (hx : ls[(a : Nat)]? = some (some (.ref x))) (k : Gz G y R Z p e s m args below meth c kc ks pc2 ls (.ref x :: st) f n) : Gz G y R Z p e s m args below meth c kc ks pc ls st f n := by
  obtain ⟨hd, rfl⟩ := hd
  intro H locs la hP hS hl
  exact lv_aload_n C.1 C.2.1 hd rfl (gl_at hl hx) (k H locs la hP hS hl)
theorem gz_aload (C : zC G y p s m args meth c) {a : Nat} {x : Nat} (hd : gd y pc (.aload a) 2 pc2) (hx : ls[a]? = some (some (.ref x))) (k : Gz G y R Z p e s m args below meth c kc ks pc2 ls (.ref x :: st) f n) : Gz G y R Z p e s m args below meth c kc ks pc ls st f n := by
  obtain ⟨hd, rfl⟩ := hd
  intro H locs la hP hS hl
  exact lv_aload C.1 C.2.1 hd (gl_at hl hx) (k H locs la hP hS hl)
theorem gz_astore_n (C : zC G y p s m args meth c) {a : Fin 4} {x : Nat} (hd : gd y pc (.astore_n a) 1 pc2) (hs : gs1 y ls (a : Nat) (.ref x) ls') (k : Gz G y R Z p e s m args below meth c kc ks pc2 ls' st f n) : Gz G y R Z p e s m args below meth c kc ks pc ls (.ref x :: st) f n := by
  obtain ⟨hd, rfl⟩ := hd
  obtain ⟨h1, h2, h3⟩ := hs
  intro H locs la hP hS hl
  exact lv_astore_n C.1 C.2.1 hd rfl hl h1 rfl (fun la hl => k H locs la hP hS (gl_set1 h2 h3 hl))
theorem gz_astore (C : zC G y p s m args meth c) {a : Nat} {x : Nat} (hd : gd y pc (.astore a) 2 pc2) (hs : gs1 y ls a (.ref x) ls') (k : Gz G y R Z p e s m args below meth c kc ks pc2 ls' st f n) : Gz G y R Z p e s m args below meth c kc ks pc ls (.ref x :: st) f n := by
  obtain ⟨hd, rfl⟩ := hd
  obtain ⟨h1, h2, h3⟩ := hs
  intro H locs la hP hS hl
  exact lv_astore C.1 C.2.1 hd hl h1 rfl (fun la hl => k H locs la hP hS (gl_set1 h2 h3 hl))
theorem gz_aload_nN (C : zC G y p s m args meth c) {a : Fin 4} (hd : gd y pc (.aload_n a) 1 pc2) (hx : ls[(a : Nat)]? = some (some .null)) (k : Gz G y R Z p e s m args below meth c kc ks pc2 ls (.null :: st) f n) : Gz G y R Z p e s m args below meth c kc ks pc ls st f n := by
  obtain ⟨hd, rfl⟩ := hd
  intro H locs la hP hS hl
  exact lv_aload_nN C.1 C.2.1 hd rfl (gl_at hl hx) (k H locs la hP hS hl)
theorem gz_aloadN (C : zC G y p s m args meth c) {a : Nat} (hd : gd y pc (.aload a) 2 pc2) (hx : ls[a]? = some (some .null)) (k : Gz G y R Z p e s m args below meth c kc ks pc2 ls (.null :: st) f n) : Gz G y R Z p e s m args below meth c kc ks pc ls st f n := by
  obtain ⟨hd, rfl⟩ := hd
  intro H locs la hP hS hl
  exact lv_aloadN C.1 C.2.1 hd (gl_at hl hx) (k H locs la hP hS hl)
theorem gz_astore_nN (C : zC G y p s m args meth c) {a : Fin 4} (hd : gd y pc (.astore_n a) 1 pc2) (hs : gs1 y ls (a : Nat) .null ls') (k : Gz G y R Z p e s m args below meth c kc ks pc2 ls' st f n) : Gz G y R Z p e s m args below meth c kc ks pc ls (.null :: st) f n := by
  obtain ⟨hd, rfl⟩ := hd
  obtain ⟨h1, h2, h3⟩ := hs
  intro H locs la hP hS hl
  exact lv_astore_nN C.1 C.2.1 hd rfl hl h1 rfl (fun la hl => k H locs la hP hS (gl_set1 h2 h3 hl))
theorem gz_astoreN (C : zC G y p s m args meth c) {a : Nat} (hd : gd y pc (.astore a) 2 pc2) (hs : gs1 y ls a .null ls') (k : Gz G y R Z p e s m args below meth c kc ks pc2 ls' st f n) : Gz G y R Z p e s m args below meth c kc ks pc ls (.null :: st) f n := by
  obtain ⟨hd, rfl⟩ := hd
  obtain ⟨h1, h2, h3⟩ := hs
  intro H locs la hP hS hl
  exact lv_astoreN C.1 C.2.1 hd hl h1 rfl (fun la hl => k H locs la hP hS (gl_set1 h2 h3 hl))
theorem gz_iinc (C : zC G y p s m args meth c) {i : Nat} {a : Int} {x v : Int32} (hd : gd y pc (.iinc i a) 3 pc2) (hx : ls[i]? = some (some (.int x))) (hv : x + Int32.ofInt a = v) (hs : gs1 y ls i (.int v) ls') (k : Gz G y R Z p e s m args below meth c kc ks pc2 ls' st f n) : Gz G y R Z p e s m args below meth c kc ks pc ls st f n := by
  obtain ⟨hd, rfl⟩ := hd
  obtain ⟨h1, h2, h3⟩ := hs
  intro H locs la hP hS hl
  obtain ⟨j, hj⟩ := List.getElem?_of_mem (by have := gl_mem ls 0 i _ hx; rw [Nat.zero_add] at this; exact this)
  exact lv_iinc C.1 C.2.1 hd hl hj hv h1 rfl (fun la hl => k H locs la hP hS (gl_set1 h2 h3 hl))
theorem gz_iadd (C : zC G y p s m args meth c) {x z : Int32} (hd : gd y pc (.iadd) 1 pc2) (k : Gz G y R Z p e s m args below meth c kc ks pc2 ls (.int (x + z) :: st) f n) : Gz G y R Z p e s m args below meth c kc ks pc ls (.int z :: .int x :: st) f n := by
  obtain ⟨hd, rfl⟩ := hd
  intro H locs la hP hS hl
  exact lv_iadd C.1 C.2.1 hd (k H locs la hP hS hl)
theorem gz_isub (C : zC G y p s m args meth c) {x z : Int32} (hd : gd y pc (.isub) 1 pc2) (k : Gz G y R Z p e s m args below meth c kc ks pc2 ls (.int (x - z) :: st) f n) : Gz G y R Z p e s m args below meth c kc ks pc ls (.int z :: .int x :: st) f n := by
  obtain ⟨hd, rfl⟩ := hd
  intro H locs la hP hS hl
  exact lv_isub C.1 C.2.1 hd (k H locs la hP hS hl)
theorem gz_imul (C : zC G y p s m args meth c) {x z : Int32} (hd : gd y pc (.imul) 1 pc2) (k : Gz G y R Z p e s m args below meth c kc ks pc2 ls (.int (x * z) :: st) f n) : Gz G y R Z p e s m args below meth c kc ks pc ls (.int z :: .int x :: st) f n := by
  obtain ⟨hd, rfl⟩ := hd
  intro H locs la hP hS hl
  exact lv_imul C.1 C.2.1 hd (k H locs la hP hS hl)
theorem gz_iand (C : zC G y p s m args meth c) {x z : Int32} (hd : gd y pc (.iand) 1 pc2) (k : Gz G y R Z p e s m args below meth c kc ks pc2 ls (.int (x &&& z) :: st) f n) : Gz G y R Z p e s m args below meth c kc ks pc ls (.int z :: .int x :: st) f n := by
  obtain ⟨hd, rfl⟩ := hd
  intro H locs la hP hS hl
  exact lv_iand C.1 C.2.1 hd (k H locs la hP hS hl)
theorem gz_ior (C : zC G y p s m args meth c) {x z : Int32} (hd : gd y pc (.ior) 1 pc2) (k : Gz G y R Z p e s m args below meth c kc ks pc2 ls (.int (x ||| z) :: st) f n) : Gz G y R Z p e s m args below meth c kc ks pc ls (.int z :: .int x :: st) f n := by
  obtain ⟨hd, rfl⟩ := hd
  intro H locs la hP hS hl
  exact lv_ior C.1 C.2.1 hd (k H locs la hP hS hl)
theorem gz_ixor (C : zC G y p s m args meth c) {x z : Int32} (hd : gd y pc (.ixor) 1 pc2) (k : Gz G y R Z p e s m args below meth c kc ks pc2 ls (.int (x ^^^ z) :: st) f n) : Gz G y R Z p e s m args below meth c kc ks pc ls (.int z :: .int x :: st) f n := by
  obtain ⟨hd, rfl⟩ := hd
  intro H locs la hP hS hl
  exact lv_ixor C.1 C.2.1 hd (k H locs la hP hS hl)
theorem gz_ladd (C : zC G y p s m args meth c) {x z : Int64} (hd : gd y pc (.ladd) 1 pc2) (k : Gz G y R Z p e s m args below meth c kc ks pc2 ls (.long (x + z) :: st) f n) : Gz G y R Z p e s m args below meth c kc ks pc ls (.long z :: .long x :: st) f n := by
  obtain ⟨hd, rfl⟩ := hd
  intro H locs la hP hS hl
  exact lv_ladd C.1 C.2.1 hd (k H locs la hP hS hl)
theorem gz_lsub (C : zC G y p s m args meth c) {x z : Int64} (hd : gd y pc (.lsub) 1 pc2) (k : Gz G y R Z p e s m args below meth c kc ks pc2 ls (.long (x - z) :: st) f n) : Gz G y R Z p e s m args below meth c kc ks pc ls (.long z :: .long x :: st) f n := by
  obtain ⟨hd, rfl⟩ := hd
  intro H locs la hP hS hl
  exact lv_lsub C.1 C.2.1 hd (k H locs la hP hS hl)
theorem gz_lmul (C : zC G y p s m args meth c) {x z : Int64} (hd : gd y pc (.lmul) 1 pc2) (k : Gz G y R Z p e s m args below meth c kc ks pc2 ls (.long (x * z) :: st) f n) : Gz G y R Z p e s m args below meth c kc ks pc ls (.long z :: .long x :: st) f n := by
  obtain ⟨hd, rfl⟩ := hd
  intro H locs la hP hS hl
  exact lv_lmul C.1 C.2.1 hd (k H locs la hP hS hl)
theorem gz_idiv (C : zC G y p s m args meth c) {x z : Int32} (hd : gd y pc (.idiv) 1 pc2) (hz : ¬ z = 0) (k : Gz G y R Z p e s m args below meth c kc ks pc2 ls (.int (x / z) :: st) f n) : Gz G y R Z p e s m args below meth c kc ks pc ls (.int z :: .int x :: st) f n := by
  obtain ⟨hd, rfl⟩ := hd
  intro H locs la hP hS hl
  exact lv_idiv C.1 C.2.1 hd hz (k H locs la hP hS hl)
theorem gz_irem (C : zC G y p s m args meth c) {x z : Int32} (hd : gd y pc (.irem) 1 pc2) (hz : ¬ z = 0) (k : Gz G y R Z p e s m args below meth c kc ks pc2 ls (.int (x - x / z * z) :: st) f n) : Gz G y R Z p e s m args below meth c kc ks pc ls (.int z :: .int x :: st) f n := by
  obtain ⟨hd, rfl⟩ := hd
  intro H locs la hP hS hl
  exact lv_irem C.1 C.2.1 hd hz (k H locs la hP hS hl)
theorem gz_ldiv (C : zC G y p s m args meth c) {x z : Int64} (hd : gd y pc (.ldiv) 1 pc2) (hz : ¬ z = 0) (k : Gz G y R Z p e s m args below meth c kc ks pc2 ls (.long (x / z) :: st) f n) : Gz G y R Z p e s m args below meth c kc ks pc ls (.long z :: .long x :: st) f n := by
  obtain ⟨hd, rfl⟩ := hd
  intro H locs la hP hS hl
  exact lv_ldiv C.1 C.2.1 hd hz (k H locs la hP hS hl)
theorem gz_lrem (C : zC G y p s m args meth c) {x z : Int64} (hd : gd y pc (.lrem) 1 pc2) (hz : ¬ z = 0) (k : Gz G y R Z p e s m args below meth c kc ks pc2 ls (.long (x - x / z * z) :: st) f n) : Gz G y R Z p e s m args below meth c kc ks pc ls (.long z :: .long x :: st) f n := by
  obtain ⟨hd, rfl⟩ := hd
  intro H locs la hP hS hl
  exact lv_lrem C.1 C.2.1 hd hz (k H locs la hP hS hl)
theorem gz_ineg (C : zC G y p s m args meth c) {x : Int32} (hd : gd y pc (.ineg) 1 pc2) (k : Gz G y R Z p e s m args below meth c kc ks pc2 ls (.int (-x) :: st) f n) : Gz G y R Z p e s m args below meth c kc ks pc ls (.int x :: st) f n := by
  obtain ⟨hd, rfl⟩ := hd
  intro H locs la hP hS hl
  exact lv_ineg C.1 C.2.1 hd (k H locs la hP hS hl)
theorem gz_lneg (C : zC G y p s m args meth c) {x : Int64} (hd : gd y pc (.lneg) 1 pc2) (k : Gz G y R Z p e s m args below meth c kc ks pc2 ls (.long (-x) :: st) f n) : Gz G y R Z p e s m args below meth c kc ks pc ls (.long x :: st) f n := by
  obtain ⟨hd, rfl⟩ := hd
  intro H locs la hP hS hl
  exact lv_lneg C.1 C.2.1 hd (k H locs la hP hS hl)
theorem gz_ishl (C : zC G y p s m args meth c) {x z : Int32} (hd : gd y pc (.ishl) 1 pc2) (k : Gz G y R Z p e s m args below meth c kc ks pc2 ls (.int (x <<< (z &&& 31)) :: st) f n) : Gz G y R Z p e s m args below meth c kc ks pc ls (.int z :: .int x :: st) f n := by
  obtain ⟨hd, rfl⟩ := hd
  intro H locs la hP hS hl
  exact lv_ishl C.1 C.2.1 hd (k H locs la hP hS hl)
theorem gz_ishr (C : zC G y p s m args meth c) {x z : Int32} (hd : gd y pc (.ishr) 1 pc2) (k : Gz G y R Z p e s m args below meth c kc ks pc2 ls (.int (x >>> (z &&& 31)) :: st) f n) : Gz G y R Z p e s m args below meth c kc ks pc ls (.int z :: .int x :: st) f n := by
  obtain ⟨hd, rfl⟩ := hd
  intro H locs la hP hS hl
  exact lv_ishr C.1 C.2.1 hd (k H locs la hP hS hl)
theorem gz_iushr (C : zC G y p s m args meth c) {x z v : Int32} (hd : gd y pc (.iushr) 1 pc2) (hv : (x.toUInt32 >>> (z.toUInt32 &&& Int32.toUInt32 31)).toInt32 = v) (k : Gz G y R Z p e s m args below meth c kc ks pc2 ls (.int v :: st) f n) : Gz G y R Z p e s m args below meth c kc ks pc ls (.int z :: .int x :: st) f n := by
  obtain ⟨hd, rfl⟩ := hd
  intro H locs la hP hS hl
  exact lv_iushr C.1 C.2.1 hd hv (k H locs la hP hS hl)
theorem gz_lshl (C : zC G y p s m args meth c) {x : Int64} {z : Int32} (hd : gd y pc (.lshl) 1 pc2) (k : Gz G y R Z p e s m args below meth c kc ks pc2 ls (.long (x <<< (z.toInt64 &&& 63)) :: st) f n) : Gz G y R Z p e s m args below meth c kc ks pc ls (.int z :: .long x :: st) f n := by
  obtain ⟨hd, rfl⟩ := hd
  intro H locs la hP hS hl
  exact lv_lshl C.1 C.2.1 hd rfl (k H locs la hP hS hl)
theorem gz_lshr (C : zC G y p s m args meth c) {x : Int64} {z : Int32} (hd : gd y pc (.lshr) 1 pc2) (k : Gz G y R Z p e s m args below meth c kc ks pc2 ls (.long (x >>> (z.toInt64 &&& 63)) :: st) f n) : Gz G y R Z p e s m args below meth c kc ks pc ls (.int z :: .long x :: st) f n := by
  obtain ⟨hd, rfl⟩ := hd
  intro H locs la hP hS hl
  exact lv_lshr C.1 C.2.1 hd rfl (k H locs la hP hS hl)
theorem gz_i2l (C : zC G y p s m args meth c) {x : Int32} (hd : gd y pc (.i2l) 1 pc2) (k : Gz G y R Z p e s m args below meth c kc ks pc2 ls (.long x.toInt64 :: st) f n) : Gz G y R Z p e s m args below meth c kc ks pc ls (.int x :: st) f n := by
  obtain ⟨hd, rfl⟩ := hd
  intro H locs la hP hS hl
  exact lv_i2l C.1 C.2.1 hd rfl (k H locs la hP hS hl)
theorem gz_l2i (C : zC G y p s m args meth c) {x : Int64} (hd : gd y pc (.l2i) 1 pc2) (k : Gz G y R Z p e s m args below meth c kc ks pc2 ls (.int x.toInt32 :: st) f n) : Gz G y R Z p e s m args below meth c kc ks pc ls (.long x :: st) f n := by
  obtain ⟨hd, rfl⟩ := hd
  intro H locs la hP hS hl
  exact lv_l2i C.1 C.2.1 hd rfl (k H locs la hP hS hl)
theorem gz_i2b (C : zC G y p s m args meth c) {x : Int32} (hd : gd y pc (.i2b) 1 pc2) (k : Gz G y R Z p e s m args below meth c kc ks pc2 ls (.int x.toInt8.toInt32 :: st) f n) : Gz G y R Z p e s m args below meth c kc ks pc ls (.int x :: st) f n := by
  obtain ⟨hd, rfl⟩ := hd
  intro H locs la hP hS hl
  exact lv_i2b C.1 C.2.1 hd rfl (k H locs la hP hS hl)
theorem gz_i2s (C : zC G y p s m args meth c) {x : Int32} (hd : gd y pc (.i2s) 1 pc2) (k : Gz G y R Z p e s m args below meth c kc ks pc2 ls (.int x.toInt16.toInt32 :: st) f n) : Gz G y R Z p e s m args below meth c kc ks pc ls (.int x :: st) f n := by
  obtain ⟨hd, rfl⟩ := hd
  intro H locs la hP hS hl
  exact lv_i2s C.1 C.2.1 hd rfl (k H locs la hP hS hl)
theorem gz_lcmp (C : zC G y p s m args meth c) {x z : Int64} (hd : gd y pc (.lcmp) 1 pc2) (k : Gz G y R Z p e s m args below meth c kc ks pc2 ls (.int (lg_cmp x z) :: st) f n) : Gz G y R Z p e s m args below meth c kc ks pc ls (.long z :: .long x :: st) f n := by
  obtain ⟨hd, rfl⟩ := hd
  intro H locs la hP hS hl
  exact W.lcmp C.1 C.2.1 hd (k H locs la hP hS hl)
theorem gz_dup (C : zC G y p s m args meth c) {v : Value} (hd : gd y pc (.dup) 1 pc2) (hv : v.category = 1) (k : Gz G y R Z p e s m args below meth c kc ks pc2 ls (v :: v :: st) f n) : Gz G y R Z p e s m args below meth c kc ks pc ls (v :: st) f n := by
  obtain ⟨hd, rfl⟩ := hd
  intro H locs la hP hS hl
  exact lv_dup C.1 C.2.1 hd hv (k H locs la hP hS hl)
theorem gz_pop (C : zC G y p s m args meth c) {v : Value} (hd : gd y pc (.pop) 1 pc2) (hv : v.category = 1) (k : Gz G y R Z p e s m args below meth c kc ks pc2 ls st f n) : Gz G y R Z p e s m args below meth c kc ks pc ls (v :: st) f n := by
  obtain ⟨hd, rfl⟩ := hd
  intro H locs la hP hS hl
  exact lv_pop C.1 C.2.1 hd hv (k H locs la hP hS hl)
theorem gz_dup2 (C : zC G y p s m args meth c) {v w : Value} (hd : gd y pc (.dup2) 1 pc2) (hv : v.category = 1) (hw : w.category = 1) (k : Gz G y R Z p e s m args below meth c kc ks pc2 ls (v :: w :: v :: w :: st) f n) : Gz G y R Z p e s m args below meth c kc ks pc ls (v :: w :: st) f n := by
  obtain ⟨hd, rfl⟩ := hd
  intro H locs la hP hS hl
  exact lv_dup2_11 C.1 C.2.1 hd hv hw (k H locs la hP hS hl)
theorem gz_if_eq (C : zC G y p s m args meth c) {x : Int32} {off : Int} {tgt : Nat} (hd : gj y pc (.ifCond .eq off) off pc2 tgt) (kt : x = 0 → Gz G y R Z p e s m args below meth c kc ks tgt ls st f n) (kf : ¬ x = 0 → Gz G y R Z p e s m args below meth c kc ks pc2 ls st f n) : Gz G y R Z p e s m args below meth c kc ks pc ls (.int x :: st) f n := by
  obtain ⟨hd, rfl, ht⟩ := hd
  intro H locs la hP hS hl
  exact lv_if_eq C.1 C.2.1 hd ht (fun h => kt h H locs la hP hS hl) (fun h => kf h H locs la hP hS hl)
theorem gz_icmp_eq (C : zC G y p s m args meth c) {x z : Int32} {off : Int} {tgt : Nat} (hd : gj y pc (.if_icmp .eq off) off pc2 tgt) (kt : x = z → Gz G y R Z p e s m args below meth c kc ks tgt ls st f n) (kf : ¬ x = z → Gz G y R Z p e s m args below meth c kc ks pc2 ls st f n) : Gz G y R Z p e s m args below meth c kc ks pc ls (.int z :: .int x :: st) f n := by
  obtain ⟨hd, rfl, ht⟩ := hd
  intro H locs la hP hS hl
  exact lv_icmp_eq C.1 C.2.1 hd ht (fun h => kt h H locs la hP hS hl) (fun h => kf h H locs la hP hS hl)
theorem gz_if_ne (C : zC G y p s m args meth c) {x : Int32} {off : Int} {tgt : Nat} (hd : gj y pc (.ifCond .ne off) off pc2 tgt) (kt : ¬ x = 0 → Gz G y R Z p e s m args below meth c kc ks tgt ls st f n) (kf : x = 0 → Gz G y R Z p e s m args below meth c kc ks pc2 ls st f n) : Gz G y R Z p e s m args below meth c kc ks pc ls (.int x :: st) f n := by
  obtain ⟨hd, rfl, ht⟩ := hd
  intro H locs la hP hS hl
  exact lv_if_ne C.1 C.2.1 hd ht (fun h => kt h H locs la hP hS hl) (fun h => kf h H locs la hP hS hl)
theorem gz_icmp_ne (C : zC G y p s m args meth c) {x z : Int32} {off : Int} {tgt : Nat} (hd : gj y pc (.if_icmp .ne off) off pc2 tgt) (kt : ¬ x = z → Gz G y R Z p e s m args below meth c kc ks tgt ls st f n) (kf : x = z → Gz G y R Z p e s m args below meth c kc ks pc2 ls st f n) : Gz G y R Z p e s m args below meth c kc ks pc ls (.int z :: .int x :: st) f n := by
  obtain ⟨hd, rfl, ht⟩ := hd
  intro H locs la hP hS hl
  exact lv_icmp_ne C.1 C.2.1 hd ht (fun h => kt h H locs la hP hS hl) (fun h => kf h H locs la hP hS hl)
theorem gz_if_lt (C : zC G y p s m args meth c) {x : Int32} {off : Int} {tgt : Nat} (hd : gj y pc (.ifCond .lt off) off pc2 tgt) (kt : x < 0 → Gz G y R Z p e s m args below meth c kc ks tgt ls st f n) (kf : ¬ x < 0 → Gz G y R Z p e s m args below meth c kc ks pc2 ls st f n) : Gz G y R Z p e s m args below meth c kc ks pc ls (.int x :: st) f n := by
  obtain ⟨hd, rfl, ht⟩ := hd
  intro H locs la hP hS hl
  exact lv_if_lt C.1 C.2.1 hd ht (fun h => kt h H locs la hP hS hl) (fun h => kf h H locs la hP hS hl)
theorem gz_icmp_lt (C : zC G y p s m args meth c) {x z : Int32} {off : Int} {tgt : Nat} (hd : gj y pc (.if_icmp .lt off) off pc2 tgt) (kt : x < z → Gz G y R Z p e s m args below meth c kc ks tgt ls st f n) (kf : ¬ x < z → Gz G y R Z p e s m args below meth c kc ks pc2 ls st f n) : Gz G y R Z p e s m args below meth c kc ks pc ls (.int z :: .int x :: st) f n := by
  obtain ⟨hd, rfl, ht⟩ := hd
  intro H locs la hP hS hl
  exact lv_icmp_lt C.1 C.2.1 hd ht (fun h => kt h H locs la hP hS hl) (fun h => kf h H locs la hP hS hl)
theorem gz_if_ge (C : zC G y p s m args meth c) {x : Int32} {off : Int} {tgt : Nat} (hd : gj y pc (.ifCond .ge off) off pc2 tgt) (kt : 0 ≤ x → Gz G y R Z p e s m args below meth c kc ks tgt ls st f n) (kf : ¬ 0 ≤ x → Gz G y R Z p e s m args below meth c kc ks pc2 ls st f n) : Gz G y R Z p e s m args below meth c kc ks pc ls (.int x :: st) f n := by
  obtain ⟨hd, rfl, ht⟩ := hd
  intro H locs la hP hS hl
  exact lv_if_ge C.1 C.2.1 hd ht (fun h => kt h H locs la hP hS hl) (fun h => kf h H locs la hP hS hl)
theorem gz_icmp_ge (C : zC G y p s m args meth c) {x z : Int32} {off : Int} {tgt : Nat} (hd : gj y pc (.if_icmp .ge off) off pc2 tgt) (kt : z ≤ x → Gz G y R Z p e s m args below meth c kc ks tgt ls st f n) (kf : ¬ z ≤ x → Gz G y R Z p e s m args below meth c kc ks pc2 ls st f n) : Gz G y R Z p e s m args below meth c kc ks pc ls (.int z :: .int x :: st) f n := by
  obtain ⟨hd, rfl, ht⟩ := hd
  intro H locs la hP hS hl
  exact lv_icmp_ge C.1 C.2.1 hd ht (fun h => kt h H locs la hP hS hl) (fun h => kf h H locs la hP hS hl)
theorem gz_if_gt (C : zC G y p s m args meth c) {x : Int32} {off : Int} {tgt : Nat} (hd : gj y pc (.ifCond .gt off) off pc2 tgt) (kt : 0 < x → Gz G y R Z p e s m args below meth c kc ks tgt ls st f n) (kf : ¬ 0 < x → Gz G y R Z p e s m args below meth c kc ks pc2 ls st f n) : Gz G y R Z p e s m args below meth c kc ks pc ls (.int x :: st) f n := by
  obtain ⟨hd, rfl, ht⟩ := hd
  intro H locs la hP hS hl
  exact lv_if_gt C.1 C.2.1 hd ht (fun h => kt h H locs la hP hS hl) (fun h => kf h H locs la hP hS hl)
theorem gz_icmp_gt (C : zC G y p s m args meth c) {x z : Int32} {off : Int} {tgt : Nat} (hd : gj y pc (.if_icmp .gt off) off pc2 tgt) (kt : z < x → Gz G y R Z p e s m args below meth c kc ks tgt ls st f n) (kf : ¬ z < x → Gz G y R Z p e s m args below meth c kc ks pc2 ls st f n) : Gz G y R Z p e s m args below meth c kc ks pc ls (.int z :: .int x :: st) f n := by
  obtain ⟨hd, rfl, ht⟩ := hd
  intro H locs la hP hS hl
  exact lv_icmp_gt C.1 C.2.1 hd ht (fun h => kt h H locs la hP hS hl) (fun h => kf h H locs la hP hS hl)
theorem gz_if_le (C : zC G y p s m args meth c) {x : Int32} {off : Int} {tgt : Nat} (hd : gj y pc (.ifCond .le off) off pc2 tgt) (kt : x ≤ 0 → Gz G y R Z p e s m args below meth c kc ks tgt ls st f n) (kf : ¬ x ≤ 0 → Gz G y R Z p e s m args below meth c kc ks pc2 ls st f n) : Gz G y R Z p e s m args below meth c kc ks pc ls (.int x :: st) f n := by
  obtain ⟨hd, rfl, ht⟩ := hd
  intro H locs la hP hS hl
  exact lv_if_le C.1 C.2.1 hd ht (fun h => kt h H locs la hP hS hl) (fun h => kf h H locs la hP hS hl)
theorem gz_icmp_le (C : zC G y p s m args meth c) {x z : Int32} {off : Int} {tgt : Nat} (hd : gj y pc (.if_icmp .le off) off pc2 tgt) (kt : x ≤ z → Gz G y R Z p e s m args below meth c kc ks tgt ls st f n) (kf : ¬ x ≤ z → Gz G y R Z p e s m args below meth c kc ks pc2 ls st f n) : Gz G y R Z p e s m args below meth c kc ks pc ls (.int z :: .int x :: st) f n := by
  obtain ⟨hd, rfl, ht⟩ := hd
  intro H locs la hP hS hl
  exact lv_icmp_le C.1 C.2.1 hd ht (fun h => kt h H locs la hP hS hl) (fun h => kf h H locs la hP hS hl)
theorem gz_goto (C : zC G y p s m args meth c) {off : Int} {tgt : Nat} (hd : gj y pc (.goto off) off pc2 tgt) (k : Gz G y R Z p e s m args below meth c kc ks tgt ls st f n) : Gz G y R Z p e s m args below meth c kc ks pc ls st f n := by
  obtain ⟨hd, rfl, ht⟩ := hd
  intro H locs la hP hS hl
  exact lv_goto C.1 C.2.1 hd ht (k H locs la hP hS hl)
theorem gz_ifnonnull (C : zC G y p s m args meth c) {x : Nat} {off : Int} {tgt : Nat} (hd : gj y pc (.ifnonnull off) off pc2 tgt) (k : Gz G y R Z p e s m args below meth c kc ks tgt ls st f n) : Gz G y R Z p e s m args below meth c kc ks pc ls (.ref x :: st) f n := by
  obtain ⟨hd, rfl, ht⟩ := hd
  intro H locs la hP hS hl
  exact lv_ifnonnull C.1 C.2.1 hd ht (k H locs la hP hS hl)
theorem gz_ifnull (C : zC G y p s m args meth c) {x : Nat} {off : Int} {tgt : Nat} (hd : gj y pc (.ifnull off) off pc2 tgt) (k : Gz G y R Z p e s m args below meth c kc ks pc2 ls st f n) : Gz G y R Z p e s m args below meth c kc ks pc ls (.ref x :: st) f n := by
  obtain ⟨hd, rfl, ht⟩ := hd
  intro H locs la hP hS hl
  exact lv_ifnull C.1 C.2.1 hd (k H locs la hP hS hl)
theorem gz_ifnullN (C : zC G y p s m args meth c) {off : Int} {tgt : Nat} (hd : gj y pc (.ifnull off) off pc2 tgt) (k : Gz G y R Z p e s m args below meth c kc ks tgt ls st f n) : Gz G y R Z p e s m args below meth c kc ks pc ls (.null :: st) f n := by
  obtain ⟨hd, rfl, ht⟩ := hd
  intro H locs la hP hS hl
  exact lv_ifnullN C.1 C.2.1 hd ht (k H locs la hP hS hl)
theorem gz_ifnonnullN (C : zC G y p s m args meth c) {off : Int} {tgt : Nat} (hd : gj y pc (.ifnonnull off) off pc2 tgt) (k : Gz G y R Z p e s m args below meth c kc ks pc2 ls st f n) : Gz G y R Z p e s m args below meth c kc ks pc ls (.null :: st) f n := by
  obtain ⟨hd, rfl, ht⟩ := hd
  intro H locs la hP hS hl
  exact lv_ifnonnullN C.1 C.2.1 hd (k H locs la hP hS hl)
theorem gz_ldc (C : zC G y p s m args meth c) {i : Nat} {v : Int32} (hd : gd y pc (.ldc i) 2 pc2) (hw : Cond.constant y.1.cls i v ∈ gT) (k : Gz G y R Z p e s m args below meth c kc ks pc2 ls (.int v :: st) f n) : Gz G y R Z p e s m args below meth c kc ks pc ls st f n := by
  obtain ⟨hd, rfl⟩ := hd
  intro H locs la hP hS hl
  exact lv_ldc C.1 C.2.1 C.2.2.2.1 (C.2.2.2.2.1 _ hw) hd (k H locs la hP hS hl)
theorem gz_ldcw (C : zC G y p s m args meth c) {i : Nat} {v : Int32} (hd : gd y pc (.ldc_w i) 3 pc2) (hw : Cond.constant y.1.cls i v ∈ gT) (k : Gz G y R Z p e s m args below meth c kc ks pc2 ls (.int v :: st) f n) : Gz G y R Z p e s m args below meth c kc ks pc ls st f n := by
  obtain ⟨hd, rfl⟩ := hd
  intro H locs la hP hS hl
  exact lv_ldcw C.1 C.2.1 C.2.2.2.1 (C.2.2.2.2.1 _ hw) hd (k H locs la hP hS hl)
theorem gz_ldc2 (C : zC G y p s m args meth c) {i : Nat} {v : Int64} (hd : gd y pc (.ldc2_w i) 3 pc2) (hw : Cond.constantLong y.1.cls i v ∈ gT) (k : Gz G y R Z p e s m args below meth c kc ks pc2 ls (.long v :: st) f n) : Gz G y R Z p e s m args below meth c kc ks pc ls st f n := by
  obtain ⟨hd, rfl⟩ := hd
  intro H locs la hP hS hl
  exact lv_ldc2 C.1 C.2.1 C.2.2.2.1 (C.2.2.2.2.1 _ hw) hd (k H locs la hP hS hl)
theorem gz_tableOut (C : zC G y p s m args meth c) {dflt lo hi : Int} {offs : Array Int} {len : Nat} {x : Int32} {tgt : Nat} (hd : decode y.2.1 pc = .ok (.tableswitch dflt lo hi offs, len)) (h : x.toInt < lo ∨ hi < x.toInt) (ht : (pc : Int) + dflt = (tgt : Int)) (k : Gz G y R Z p e s m args below meth c kc ks tgt ls st f n) : Gz G y R Z p e s m args below meth c kc ks pc ls (.int x :: st) f n := by
  intro H locs la hP hS hl
  exact lv_tableOut C.1 C.2.1 hd h ht (k H locs la hP hS hl)
theorem gz_tableIn (C : zC G y p s m args meth c) {dflt lo hi : Int} {offs : Array Int} {len : Nat} {x : Int32} {off : Int} {tgt : Nat} (hd : decode y.2.1 pc = .ok (.tableswitch dflt lo hi offs, len)) (h1 : ¬ x.toInt < lo) (h2 : ¬ hi < x.toInt) (ho : offs[(x.toInt - lo).toNat]? = some off) (ht : (pc : Int) + off = (tgt : Int)) (k : Gz G y R Z p e s m args below meth c kc ks tgt ls st f n) : Gz G y R Z p e s m args below meth c kc ks pc ls (.int x :: st) f n := by
  intro H locs la hP hS hl
  exact lv_tableIn C.1 C.2.1 hd h1 h2 ho ht (k H locs la hP hS hl)
theorem gz_lookup (C : zC G y p s m args meth c) {dflt : Int} {ps : Array (Int × Int)} {len : Nat} {x : Int32} {off : Int} {tgt : Nat} (hd : decode y.2.1 pc = .ok (.lookupswitch dflt ps, len)) (hp : (ps.toList.zip (ps.toList.drop 1)).all (fun (a, next) => a.1 < next.1) = true) (ho : Op.lookupswitch.offset ps.toList dflt x.toInt = off) (ht : (pc : Int) + off = (tgt : Int)) (k : Gz G y R Z p e s m args below meth c kc ks tgt ls st f n) : Gz G y R Z p e s m args below meth c kc ks pc ls (.int x :: st) f n := by
  intro H locs la hP hS hl
  exact lv_lookup C.1 C.2.1 hd hp ho ht (k H locs la hP hS hl)
theorem gz_weak (C : zC G y p s m args meth c) (hs : gsub ls' ls) (k : Gz G y R Z p e s m args below meth c kc ks pc ls' st f n) : Gz G y R Z p e s m args below meth c kc ks pc ls st f n := by
  intro H locs la hP hS hl
  exact k H locs la hP hS (gl_sub hl hs)
theorem gz_widen (C : zC G y p s m args meth c) {kc' ks' : Nat} (h1 : kc ≤ kc') (h2 : ks ≤ ks') (k : Gz G y R Z p e s m args below meth c kc' ks' pc ls st f n) : Gz G y R Z p e s m args below meth c kc ks pc ls st f n := by
  intro H locs la hP hS hl
  exact W.widen h1 h2 (k H locs la hP hS hl)
theorem gz_get (C : zC G y p s m args meth c) {idx ci k a : Nat} {fs : List Value} {v : Value} (hd : gd y pc (.getfield idx) 3 pc2) (fl : FL y.1.cls idx ci k) (he : f a = ob ci fs) (h1 : G.2.1 ≤ a) (h2 : a < n) (hv : fs[k]? = some v) (kk : Gz G y R Z p e s m args below meth c kc ks pc2 ls (v :: st) f n) : Gz G y R Z p e s m args below meth c kc ks pc ls (.ref a :: st) f n := by
  obtain ⟨hd, rfl⟩ := hd
  obtain ⟨cn, T, N, ref, hc, hin, hk, hlink, hsm⟩ := fl
  intro H locs la hP hS hl
  refine va_get C.1 C.2.1 C.ht hin C.2.2.2.1 C.2.2.2.2.2.2.2.2.1.1 (hP.2.2.ob he hc h1 h2) 0 rfl hc k hk (C.ht _ hlink) (fun x hx => ?_) hv hd (kk H locs la hP hS hl)
  rcases hsm with rfl | h
  · exact hx
  · exact u_same (C.ht _ h) x hx
theorem gz_put (C : zC G y p s m args meth c) {idx ci k a : Nat} {fs : List Value} {v : Value} {ty : FieldType} (hd : gd y pc (.putfield idx) 3 pc2) (fl : FP y.1.cls idx ci k ty) (hi : y.1.name = "<init>" ∨ ∀ C T N, vwCl[ci]? = some (C, T, N) → (T k).2.2.2 = false) (he : f a = ob ci fs) (h1 : G.2.1 ≤ a) (h2 : a < n) (hn : narrow ty v = v) (hfit : fits ty v = true) (hlen : k < fs.length) (kk : Gz G y R Z p e s m args below meth c kc ks pc2 ls st (va_up f a (ob ci (fs.set k v))) n) : Gz G y R Z p e s m args below meth c kc ks pc ls (v :: .ref a :: st) f n := by
  obtain ⟨hd, rfl⟩ := hd
  obtain ⟨cn, T, N, ty0, hc, hin, hk, hlink, hty, hnm, htk, hfin⟩ := fl
  intro H locs la hP hS hl
  have hK := C.2.2.2.2.2.2.2.2.1.1
  have hap := va_apart (own := y.1.cls) C.ht hin ty0 hty hnm hK hc
  obtain ⟨r, g1, cell, q1, q2, q3, q4⟩ := (hP.2.2.ob he hc h1 h2) 0 _ rfl
  have hr : r = (cn, T, N) := Option.some.inj (g1.symm.trans hc)
  subst hr
  obtain ⟨hSl, hfc, kC, hkC, hkind⟩ := hK.1 ci _ hc
  obtain ⟨cf, kf, fi, fd, hif, hsl⟩ := hSl k hk
  have hlay := C.ht _ (hin _ (u_in_lay hk))
  have hst := (u_facts hfc hkC (u_lays C.ht hin hk) hif).1
  unfold u_lay at hlay
  have fin : ∀ (H' : Heap), H'[a]? = some (cell.setSlot fd.slot v) → H'.size = H.size → (∀ q : Nat, q ≠ a → H'[q]? = H[q]?) → W p G.1 e R s m args below meth c H' (locs ++ [⟨a, fd.slot⟩]) kc ks Z (F0 m (pc + 3) la st) := by
    intro H' e1 e2 e3
    rw [hsl] at e1 ⊢
    refine kk H' _ la ⟨hP.1, e2.trans hP.2.1, ?_⟩ (hS.put e2 e3 h1) hl
    exact hP.2.2.set ⟨_, hc, t_OB.to (V := updV (vp_V fs) k v) ⟨_, e1, q2, q3, t_set q4 hap hk v⟩ (fun j _ => vp_updV_set hlen v j)⟩ e3
  by_cases hff : (T k).2.2.2 = true
  · rw [if_pos hff] at hlay
    have hown : (T k).1 = y.1.cls := by
      rcases hfin with z | z
      · rw [z] at hff; cases hff
      · exact z.2
    have hin2 : meth.name = "<init>" := by
      rcases hi with z | z
      · exact C.2.2.2.2.2.2.2.1.trans z
      · rw [z _ _ _ hc] at hff; cases hff
    have hcf : m.cls = cf := by
      obtain ⟨_, _, c', _, _, _, -, -, hf', -, -, -, hown2, -⟩ := Cond.laysFinal_spec hlay
      have e1 : c' = cf := by have := hif.symm.trans hf'; simp at this; exact this.1.symm
      rw [hown] at hown2
      rw [← e1]; exact Option.some.inj (C.2.2.2.1.symm.trans hown2)
    have h6 := u_fits hfc hkC hkind (Or.inr hlay) hif htk hn hfit
    exact W.putFinK C.1 C.2.1 C.2.2.2.1 (C.ht _ hlink) hif hst hcf hin2 (by rw [q2]; exact h6) q1 q3 (by rw [hsl]; exact k2_hasslot (q4 k hk)) rfl rfl hd fin
  · rw [if_neg hff] at hlay
    have h6 := u_store hfc hkC hkind hlay hif htk hn hfit
    exact W.putK C.1 C.2.1 (f := fd) ⟨C.2.2.2.1, C.ht _ hlink, ⟨_, _, _, hif⟩, hst⟩ (by rw [q2]; exact h6) q1 q3 (by rw [hsl]; exact k2_hasslot (q4 k hk)) rfl rfl hd fin
theorem gz_iald (C : zC G y p s m args meth c) {a len : Nat} {g : Nat → Int32} {i : Int32} (hd : gd y pc .iaload 1 pc2) (he : f a = ia G len g) (h1 : G.2.1 ≤ a) (h2 : a < n) (hin : vp_in i len) (kk : Gz G y R Z p e s m args below meth c kc ks pc2 ls (.int (g i.toNatClampNeg) :: st) f n) : Gz G y R Z p e s m args below meth c kc ks pc ls (.int i :: .ref a :: st) f n := by
  obtain ⟨hd, rfl⟩ := hd
  intro H locs la hP hS hl
  exact va_iald C.1 C.2.1 C.2.2.2.2.2.2.2.2.1.1 (hP.2.2.ar he h1 h2) 0 0 rfl rfl hin hd (kk H locs la hP hS hl)
theorem gz_lald (C : zC G y p s m args meth c) {a len : Nat} {g : Nat → Int64} {i : Int32} (hd : gd y pc .laload 1 pc2) (he : f a = ja G len g) (h1 : G.2.1 ≤ a) (h2 : a < n) (hin : vp_in i len) (kk : Gz G y R Z p e s m args below meth c kc ks pc2 ls (.long (g i.toNatClampNeg) :: st) f n) : Gz G y R Z p e s m args below meth c kc ks pc ls (.int i :: .ref a :: st) f n := by
  obtain ⟨hd, rfl⟩ := hd
  intro H locs la hP hS hl
  exact va_lald C.1 C.2.1 C.2.2.2.2.2.2.2.2.1.1 (hP.2.2.ar he h1 h2) 0 1 rfl rfl hin hd (kk H locs la hP hS hl)
theorem gz_oald (C : zC G y p s m args meth c) {a len : Nat} {g : Nat → Option Nat} {i : Int32} (hd : gd y pc .aaload 1 pc2) (he : f a = oa G 2 len g) (h1 : G.2.1 ≤ a) (h2 : a < n) (hin : vp_in i len) (kk : Gz G y R Z p e s m args below meth c kc ks pc2 ls (va_rf (g i.toNatClampNeg) :: st) f n) : Gz G y R Z p e s m args below meth c kc ks pc ls (.int i :: .ref a :: st) f n := by
  obtain ⟨hd, rfl⟩ := hd
  intro H locs la hP hS hl
  exact va_aldq C.1 C.2.1 C.2.2.2.2.2.2.2.2.1.1 (hP.2.2.ar he h1 h2) 0 2 rfl rfl hin hd (kk H locs la hP hS hl)
theorem gz_rald (C : zC G y p s m args meth c) {a len : Nat} {g : Nat → Option Nat} {i : Int32} (hd : gd y pc .aaload 1 pc2) (he : f a = oa G 3 len g) (h1 : G.2.1 ≤ a) (h2 : a < n) (hin : vp_in i len) (kk : Gz G y R Z p e s m args below meth c kc ks pc2 ls (va_rf (g i.toNatClampNeg) :: st) f n) : Gz G y R Z p e s m args below meth c kc ks pc ls (.int i :: .ref a :: st) f n := by
  obtain ⟨hd, rfl⟩ := hd
  intro H locs la hP hS hl
  exact va_aldq C.1 C.2.1 C.2.2.2.2.2.2.2.2.1.1 (hP.2.2.ar he h1 h2) 0 3 rfl rfl hin hd (kk H locs la hP hS hl)
theorem gz_alen (C : zC G y p s m args meth c) {a len : Nat} {g : Nat → Int32} {v : Int32} (hd : gd y pc .arraylength 1 pc2) (he : f a = ia G len g) (h1 : G.2.1 ≤ a) (h2 : a < n) (hv : Int32.ofNat len = v) (kk : Gz G y R Z p e s m args below meth c kc ks pc2 ls (.int v :: st) f n) : Gz G y R Z p e s m args below meth c kc ks pc ls (.ref a :: st) f n := by
  obtain ⟨hd, rfl⟩ := hd
  intro H locs la hP hS hl
  exact va_alen C.1 C.2.1 C.2.2.2.2.2.2.2.2.1.1 (hP.2.2.ar he h1 h2) 0 0 (x := (len, .inl g)) rfl rfl hv hd (kk H locs la hP hS hl)
theorem gz_iast (C : zC G y p s m args meth c) {a len : Nat} {g : Nat → Int32} {i x : Int32} (hd : gd y pc .iastore 1 pc2) (he : f a = ia G len g) (h1 : G.2.1 ≤ a) (h2 : a < n) (hin : vp_in i len) (kk : Gz G y R Z p e s m args below meth c kc ks pc2 ls st (va_up f a (ia G len (upd g i.toNatClampNeg x))) n) : Gz G y R Z p e s m args below meth c kc ks pc ls (.int x :: .int i :: .ref a :: st) f n := by
  obtain ⟨hd, rfl⟩ := hd
  intro H locs la hP hS hl
  refine W.iast C.1 C.2.1 ((hP.2.2.ar he h1 h2) 0 _ rfl) ((C.2.2.2.2.2.2.2.2.1.1.2 0 _ rfl).1 len (fun j => .int (g j))) (fun q => by cases q) (by show ¬ (i < 0 ∨ (arrV _ _ _).slots.size ≤ _); rw [arrV_size]; exact hin) rfl rfl hd fun H1 e0 z oq => ?_
  refine kk H1 _ la ⟨hP.1, z.trans hP.2.1, ?_⟩ (hS.put z oq h1) hl
  refine hP.2.2.set ?_ oq
  show H1[a]? = some (vp_cell _ _)
  rw [e0]
  rw [vp_cell_i, vp_cell_i, arrV_store]
  congr 2
  funext q
  by_cases hq : q = i.toNatClampNeg
  · subst hq
    simp [updV, upd]
  · simp [updV, upd, hq]
theorem gz_last (C : zC G y p s m args meth c) {a len : Nat} {g : Nat → Int64} {i : Int32} {x : Int64} (hd : gd y pc .lastore 1 pc2) (he : f a = ja G len g) (h1 : G.2.1 ≤ a) (h2 : a < n) (hin : vp_in i len) (kk : Gz G y R Z p e s m args below meth c kc ks pc2 ls st (va_up f a (ja G len (vp_updL g i.toNatClampNeg x))) n) : Gz G y R Z p e s m args below meth c kc ks pc ls (.long x :: .int i :: .ref a :: st) f n := by
  obtain ⟨hd, rfl⟩ := hd
  intro H locs la hP hS hl
  refine W.last C.1 C.2.1 ((hP.2.2.ar he h1 h2) 0 _ rfl) ((C.2.2.2.2.2.2.2.2.1.1.2 1 _ rfl).1 len (fun j => .long (g j))) (fun q => by cases q) (by show ¬ (i < 0 ∨ (arrV _ _ _).slots.size ≤ _); rw [arrV_size]; exact hin) rfl rfl hd fun H1 e0 z oq => ?_
  refine kk H1 _ la ⟨hP.1, z.trans hP.2.1, ?_⟩ (hS.put z oq h1) hl
  refine hP.2.2.set ?_ oq
  show H1[a]? = some (vp_cell _ _)
  rw [e0]
  rw [vp_cell_l, vp_cell_l, arrV_store]
  congr 2
  funext q
  by_cases hq : q = i.toNatClampNeg
  · subst hq
    simp [updV, vp_updL]
  · simp [updV, vp_updL, hq]
theorem gz_new (C : zC G y p s m args meth c) {idx ci N : Nat} {cn : String} {T : u_T} {ty0 : Nat → FieldType} {fs : List Value} (hd : gd y pc (.new idx) 3 pc2) (hc : vwCl[ci]? = some (cn, T, N)) (hin : ∀ w ∈ u_ws cn T N, w ∈ gT) (hty : ∀ k, k < N → parseFieldDescriptor (T k).2.2.1 = some (ty0 k)) (hcl : Cond.classLink y.1.cls idx cn ∈ gT) (hins : Cond.instantiable cn N ∈ gT) (hini : Cond.initialized cn ∈ gT) (hfs : ∀ j, j < N → defaultValue (ty0 j) = vp_V fs j) (hkc : kc + 1 ≤ R.cells) (hks : ks + N ≤ R.slots)
    (kk : Gz G y R Z p e s m args below meth c (kc + 1) (ks + N) pc2 ls (.ref n :: st) (va_up f n (ob ci fs)) (n + 1)) : Gz G y R Z p e s m args below meth c kc ks pc ls st f n := by
  obtain ⟨hd, rfl⟩ := hd
  intro H locs la hP hS hl
  have hK := C.2.2.2.2.2.2.2.2.1.1
  have hKn := hK.1 ci _ hc
  refine W.newcK C.1 C.2.1 C.2.2.2.1 (C.ht _ hcl) (C.ht _ hins) (C.ht _ hini) rfl hd hkc hks hKn.2.1 hP.2.1 fun H1 kC hkC e1 z1 o1 => ?_
  refine kk H1 locs la ⟨Nat.le_succ_of_le hP.1, z1, ?_⟩ ⟨Nat.le_trans hS.1 (by rw [z1, hP.2.1]; omega), fun x h1 h2 => (o1 x (by rw [← hP.2.1]; exact Nat.lt_of_lt_of_le h1 hS.1)).trans (hS.2.1 x h1 h2), hS.2.2⟩ hl
  refine hP.2.2.push (fun q hq => o1 q (by first | exact hq | (rw [hP.2.1]; exact hq))) ?_
  exact ⟨_, hc, (u_born ty0 C.ht hin hKn hkC e1 hty).to hfs⟩
theorem gz_newi (C : zC G y p s m args meth c) {x : Int32} {len : Nat} (hd : gd y pc (.newarray .int) 2 pc2) (harr : Cond.arrayClass .int ∈ gT) (hx : ¬ x < 0) (hlen : x.toNatClampNeg = len) (hb : len * 4 ≤ 536870912) (hkc : kc + 1 ≤ R.cells) (hks : ks + len ≤ R.slots)
    (kk : Gz G y R Z p e s m args below meth c (kc + 1) (ks + len) pc2 ls (.ref n :: st) (va_up f n (ia G len (fun _ => 0))) (n + 1)) : Gz G y R Z p e s m args below meth c kc ks pc ls (.int x :: st) f n := by
  obtain ⟨hd, rfl⟩ := hd
  intro H locs la hP hS hl
  have hK := C.2.2.2.2.2.2.2.2.1.1
  refine va_newaK (atype := .int) C.1 C.2.1 (C.ht _ harr) rfl hd rfl hx hlen hb hkc hks hP.2.1 fun H1 cA e1 z1 o1 hAr hNm => ?_
  have hcA : cA = G.2.2.2 0 := Option.some.inj (hNm.symm.trans (hK.2 0 _ rfl).2)
  subst hcA
  refine kk H1 locs la ⟨Nat.le_succ_of_le hP.1, z1, ?_⟩ ⟨Nat.le_trans hS.1 (by rw [z1, hP.2.1]; omega), fun x h1 h2 => (o1 x (by rw [← hP.2.1]; exact Nat.lt_of_lt_of_le h1 hS.1)).trans (hS.2.1 x h1 h2), hS.2.2⟩ hl
  refine hP.2.2.push (fun q hq => o1 q (by first | exact hq | (rw [hP.2.1]; exact hq))) ?_
  show H1[n]? = some (vp_cell _ _)
  rw [vp_cell_i]
  exact e1
theorem gz_newl (C : zC G y p s m args meth c) {x : Int32} {len : Nat} (hd : gd y pc (.newarray .long) 2 pc2) (harr : Cond.arrayClass .long ∈ gT) (hx : ¬ x < 0) (hlen : x.toNatClampNeg = len) (hb : len * 8 ≤ 536870912) (hkc : kc + 1 ≤ R.cells) (hks : ks + len ≤ R.slots)
    (kk : Gz G y R Z p e s m args below meth c (kc + 1) (ks + len) pc2 ls (.ref n :: st) (va_up f n (ja G len (fun _ => 0))) (n + 1)) : Gz G y R Z p e s m args below meth c kc ks pc ls (.int x :: st) f n := by
  obtain ⟨hd, rfl⟩ := hd
  intro H locs la hP hS hl
  have hK := C.2.2.2.2.2.2.2.2.1.1
  refine va_newaK (atype := .long) C.1 C.2.1 (C.ht _ harr) rfl hd rfl hx hlen hb hkc hks hP.2.1 fun H1 cA e1 z1 o1 hAr hNm => ?_
  have hcA : cA = G.2.2.2 1 := Option.some.inj (hNm.symm.trans (hK.2 1 _ rfl).2)
  subst hcA
  refine kk H1 locs la ⟨Nat.le_succ_of_le hP.1, z1, ?_⟩ ⟨Nat.le_trans hS.1 (by rw [z1, hP.2.1]; omega), fun x h1 h2 => (o1 x (by rw [← hP.2.1]; exact Nat.lt_of_lt_of_le h1 hS.1)).trans (hS.2.1 x h1 h2), hS.2.2⟩ hl
  refine hP.2.2.push (fun q hq => o1 q (by first | exact hq | (rw [hP.2.1]; exact hq))) ?_
  show H1[n]? = some (vp_cell _ _)
  rw [vp_cell_l]
  exact e1
theorem gz_newq (C : zC G y p s m args meth c) {x : Int32} {len idx t : Nat} {cn : String} (hd : gd y pc (.anewarray idx) 3 pc2) (hcl : Cond.classLink y.1.cls idx cn ∈ gT) (hover : ∀ U : State, gK G U → va_AO cn U) (htt : (gtys G)[t]? = some (G.2.2.2 t, .object cn)) (hx : ¬ x < 0) (hlen : x.toNatClampNeg = len) (hb : len * 4 ≤ 536870912) (hkc : kc + 1 ≤ R.cells) (hks : ks + len ≤ R.slots)
    (kk : Gz G y R Z p e s m args below meth c (kc + 1) (ks + len) pc2 ls (.ref n :: st) (va_up f n (oa G t len (fun _ => none))) (n + 1)) : Gz G y R Z p e s m args below meth c kc ks pc ls (.int x :: st) f n := by
  obtain ⟨hd, rfl⟩ := hd
  intro H locs la hP hS hl
  have hK := C.2.2.2.2.2.2.2.2.1.1
  subst hlen
  refine W.anew C.1 C.2.1 C.2.2.2.1 (C.ht _ hcl) (va_AO.use (hover s C.2.2.2.2.2.2.2.2.1)) rfl hd rfl hx hb hkc hks fun cA kA comp f1 f2 f3 f4 => ?_
  have hcA : cA = G.2.2.2 t := by
    obtain ⟨kA', comp', z1, z2, z3, z4⟩ := (hK.2 t _ htt).2
    exact Option.some.inj (f1.symm.trans z4)
  subst hcA
  generalize hH1 : H.push ({ cls := G.2.2.2 t, slots := Array.replicate x.toNatClampNeg .null, vm := .none } : Cell) = H1
  have z1 : H1.size = H.size + 1 := by rw [← hH1, Array.size_push]
  have e1 : H1[H.size]? = some (arrV (G.2.2.2 t) x.toNatClampNeg (fun _ => .null)) := by rw [← hH1, Array.getElem?_push_size, ← arrV_new]
  have o1 : ∀ q : Nat, q < H.size → H1[q]? = H[q]? := fun q hq => by rw [← hH1, Array.getElem?_push, if_neg (Nat.ne_of_lt hq)]
  rw [hP.2.1] at e1 z1
  have key := kk H1 locs la ⟨Nat.le_succ_of_le hP.1, z1, by
    refine hP.2.2.push (fun q hq => o1 q (by first | exact hq | (rw [hP.2.1]; exact hq))) ?_
    show H1[n]? = some (vp_cell _ _)
    rw [vp_cell_q]
    exact e1⟩ ⟨Nat.le_trans hS.1 (by rw [z1, hP.2.1]; omega), fun x h1 h2 => (o1 x (Nat.lt_of_lt_of_le h1 hS.1)).trans (hS.2.1 x h1 h2), hS.2.2⟩ hl
  rw [hP.2.1]
  exact key
theorem z_callB (C : zC G y p s m args meth c) {y2 : MD} {np idx d2 mc2 ms2 : Nat} (h0 : CW0 y2 np) (hl : Cond.methodLink y.1.cls idx y2.1 ∈ gT) (hR : zR R d2 y2.2.2.1) :
    CallB R s args y.1.cls idx y2.1 y2.2.1 y2.2.2.1 y2.2.2.2 (gws y2) (grm d2 mc2 ms2) mc2 ms2 np :=
  callB_of np C.2.2.2.2.1 (gT_goodIn h0.1) rfl rfl rfl (C.ht _ h0.2.1) (C.ht _ hl) ⟨h0.2.2.1, h0.2.2.2.1, h0.2.2.2.2⟩ hR.ok
theorem gz_callV (C : zC G y p s m args meth c) {y2 : MD} {idx np d2 mc2 ms2 a ci : Nat} {As rest : List Value} {fs : List Value} {Q2 : RQ} {q : vw_C} (hd : gd y pc (.invokevirtual idx) 3 pc2) (h0 : CW0 y2 np) (hl : Cond.methodLink y.1.cls idx y2.1 ∈ gT) (hi : Cond.instanceMethod y2.1 ∈ gT) (hsel : Cond.selects q.1 y2.1 y2.1 ∈ gT) (hc : vwCl[ci]? = some q) (hR : zR R d2 y2.2.2.1)
    (hev : Ev G y2 d2 mc2 ms2 (.ref a :: As) f n Q2) (he : f a = ob ci fs) (h1 : G.2.1 ≤ a) (h2 : a < n) (hnp : As.length = np) (hst : st = As.reverse ++ .ref a :: rest) (hW : (rest.map fun v => v.category).sum ≤ 8) (hk1 : kc + mc2 ≤ R.cells) (hk2 : ks + ms2 ≤ R.slots)
    (kk : ∀ (r : Option Value) (f1 : Mem) (n1 : Nat), Q2 r f1 n1 → Gz G y R Z p e s m args below meth c (kc + mc2) (ks + ms2) pc2 ls (r.toList ++ rest) f1 n1) : Gz G y R Z p e s m args below meth c kc ks pc ls st f n := by
  obtain ⟨hd, rfl⟩ := hd
  subst hst
  intro H locs la hP hS hll
  refine z_after (va_runV (As := As) (rest := rest) ⟨C.1, C.2.1, C.2.2.1, C.2.2.2.1, C.2.2.2.2.1⟩ hev ⟨z_callB C h0 hl hR, C.ht _ hi, C.ht _ hsel⟩ ⟨g_blind, va_recv C.2.2.2.2.2.2.2.2.1.1 (hP.2.2.ob he hc h1 h2) (q0 := 0) hc rfl, fun U hU hWm => ⟨rfl, by rw [hU]; exact hP, C.2.2.2.2.2.2.2.2.1.warm hWm⟩⟩ rfl hnp hll.1 rfl (lv_room hW) hd ⟨hk1, hk2⟩) hS (fun r f1 n1 H1 locs1 hq hp hs => ?_)
  exact kk r f1 n1 hq H1 locs1 la hp hs hll
theorem gz_callS (C : zC G y p s m args meth c) {y2 : MD} {idx np d2 mc2 ms2 : Nat} {As rest : List Value} {Q2 : RQ} (hd : gd y pc (.invokestatic idx) 3 pc2) (h0 : CW0 y2 np) (hl : Cond.methodLink y.1.cls idx y2.1 ∈ gT) (hi : Cond.static y2.1 ∈ gT) (hR : zR R d2 y2.2.2.1)
    (hev : Ev G y2 d2 mc2 ms2 As f n Q2) (hnp : As.length = np) (hst : st = As.reverse ++ rest) (hW : (rest.map fun v => v.category).sum ≤ 8) (hk1 : kc + mc2 ≤ R.cells) (hk2 : ks + ms2 ≤ R.slots)
    (kk : ∀ (r : Option Value) (f1 : Mem) (n1 : Nat), Q2 r f1 n1 → Gz G y R Z p e s m args below meth c (kc + mc2) (ks + ms2) pc2 ls (r.toList ++ rest) f1 n1) : Gz G y R Z p e s m args below meth c kc ks pc ls st f n := by
  obtain ⟨hd, rfl⟩ := hd
  subst hst
  intro H locs la hP hS hll
  refine z_after (va_runS (As := As) (rest := rest) ⟨C.1, C.2.1, C.2.2.1, C.2.2.2.1, C.2.2.2.2.1⟩ hev ⟨z_callB C h0 hl hR, C.ht _ hi⟩ ⟨g_blind, fun U hU hWm => ⟨rfl, by rw [hU]; exact hP, C.2.2.2.2.2.2.2.2.1.warm hWm⟩⟩ rfl hnp hll.1 rfl (lv_room hW) hd ⟨hk1, hk2⟩) hS (fun r f1 n1 H1 locs1 hq hp hs => ?_)
  exact kk r f1 n1 hq H1 locs1 la hp hs hll
theorem gz_callI (C : zC G y p s m args meth c) {y2 : MD} {idx np d2 mc2 ms2 a : Nat} {As rest : List Value} {Q2 : RQ} (hd : gd y pc (.invokespecial idx) 3 pc2) (h0 : CW0 y2 np) (hl : Cond.methodLink y.1.cls idx y2.1 ∈ gT) (hi : Cond.instanceMethod y2.1 ∈ gT) (hnm : y2.1.name = "<init>") (hvv : y2.2.2.2 = none) (hR : zR R d2 y2.2.2.1)
    (hev : Ev G y2 d2 mc2 ms2 (.ref a :: As) f n Q2) (hnp : As.length = np) (hst : st = As.reverse ++ .ref a :: rest) (hW : (rest.map fun v => v.category).sum ≤ 8) (hk1 : kc + mc2 ≤ R.cells) (hk2 : ks + ms2 ≤ R.slots)
    (kk : ∀ (r : Option Value) (f1 : Mem) (n1 : Nat), Q2 r f1 n1 → Gz G y R Z p e s m args below meth c (kc + mc2) (ks + ms2) pc2 ls (r.toList ++ rest) f1 n1) : Gz G y R Z p e s m args below meth c kc ks pc ls st f n := by
  obtain ⟨hd, rfl⟩ := hd
  subst hst
  intro H locs la hP hS hll
  have hB := z_callB (mc2 := mc2) (ms2 := ms2) C h0 hl hR
  rw [hvv] at hB
  refine z_after (va_runI (As := As) (rest := rest) ⟨C.1, C.2.1, C.2.2.1, C.2.2.2.1, C.2.2.2.2.1⟩ hev ⟨hB, hnm, C.ht _ hi⟩ ⟨g_blind, fun U hU hWm => ⟨rfl, by rw [hU]; exact hP, C.2.2.2.2.2.2.2.2.1.warm hWm⟩⟩ rfl hnp hll.1 rfl (lv_room hW) hd ⟨hk1, hk2⟩) hS (fun r f1 n1 H1 locs1 hq hp hs => ?_)
  exact kk r f1 n1 hq H1 locs1 la hp hs hll
theorem z_callN (C : zC G y p s m args meth c) {y2 : MD} {np idx d2 mc2 ms2 : Nat} {host : String} (h0 : CW0 y2 np) (hl : (y.1.cls, idx, y2.1, host) ∈ gNm) (hR : zR R d2 y2.2.2.1) :
    va_CN R s args y.1.cls idx y2.1 host y2.2.1 y2.2.2.1 y2.2.2.2 (gws y2) (grm d2 mc2 ms2) mc2 ms2 np :=
  va_cnB np C.2.2.2.2.1 (gT_goodIn h0.1) rfl rfl rfl (C.2.2.2.2.2.2.2.2.1.2.1 _ hl) (C.ht _ h0.2.1) ⟨h0.2.2.1, h0.2.2.2.1, h0.2.2.2.2⟩ hR.ok
theorem gz_callSN (C : zC G y p s m args meth c) {y2 : MD} {idx np d2 mc2 ms2 : Nat} {host : String} {As rest : List Value} {Q2 : RQ} (hd : gd y pc (.invokestatic idx) 3 pc2) (h0 : CW0 y2 np) (hl : (y.1.cls, idx, y2.1, host) ∈ gNm) (hi : Cond.static y2.1 ∈ gT) (hR : zR R d2 y2.2.2.1)
    (hev : Ev G y2 d2 mc2 ms2 As f n Q2) (hnp : As.length = np) (hst : st = As.reverse ++ rest) (hW : (rest.map fun v => v.category).sum ≤ 8) (hk1 : kc + mc2 ≤ R.cells) (hk2 : ks + ms2 ≤ R.slots)
    (kk : ∀ (r : Option Value) (f1 : Mem) (n1 : Nat), Q2 r f1 n1 → Gz G y R Z p e s m args below meth c (kc + mc2) (ks + ms2) pc2 ls (r.toList ++ rest) f1 n1) : Gz G y R Z p e s m args below meth c kc ks pc ls st f n := by
  obtain ⟨hd, rfl⟩ := hd
  subst hst
  intro H locs la hP hS hll
  refine z_after (va_runSN (As := As) (rest := rest) ⟨C.1, C.2.1, C.2.2.1, C.2.2.2.1, C.2.2.2.2.1⟩ hev ⟨z_callN C h0 hl hR, C.ht _ hi, trivial⟩ ⟨g_blind, fun U hU hWm => ⟨rfl, by rw [hU]; exact hP, C.2.2.2.2.2.2.2.2.1.warm hWm⟩⟩ rfl hnp hll.1 rfl (lv_room hW) hd ⟨hk1, hk2⟩) hS (fun r f1 n1 H1 locs1 hq hp hs => ?_)
  exact kk r f1 n1 hq H1 locs1 la hp hs hll
theorem gz_callIN (C : zC G y p s m args meth c) {y2 : MD} {idx np d2 mc2 ms2 a : Nat} {host : String} {As rest : List Value} {Q2 : RQ} (hd : gd y pc (.invokespecial idx) 3 pc2) (h0 : CW0 y2 np) (hl : (y.1.cls, idx, y2.1, host) ∈ gNm) (hi : Cond.instanceMethod y2.1 ∈ gT) (hnm : y2.1.name = "<init>") (hvv : y2.2.2.2 = none) (hR : zR R d2 y2.2.2.1)
    (hev : Ev G y2 d2 mc2 ms2 (.ref a :: As) f n Q2) (hnp : As.length = np) (hst : st = As.reverse ++ .ref a :: rest) (hW : (rest.map fun v => v.category).sum ≤ 8) (hk1 : kc + mc2 ≤ R.cells) (hk2 : ks + ms2 ≤ R.slots)
    (kk : ∀ (r : Option Value) (f1 : Mem) (n1 : Nat), Q2 r f1 n1 → Gz G y R Z p e s m args below meth c (kc + mc2) (ks + ms2) pc2 ls (r.toList ++ rest) f1 n1) : Gz G y R Z p e s m args below meth c kc ks pc ls st f n := by
  obtain ⟨hd, rfl⟩ := hd
  subst hst
  intro H locs la hP hS hll
  have hB := z_callN (mc2 := mc2) (ms2 := ms2) C h0 hl hR
  rw [hvv] at hB
  refine z_after (va_runIN (As := As) (rest := rest) ⟨C.1, C.2.1, C.2.2.1, C.2.2.2.1, C.2.2.2.2.1⟩ hev ⟨hB, hnm, C.ht _ hi⟩ ⟨g_blind, fun U hU hWm => ⟨rfl, by rw [hU]; exact hP, C.2.2.2.2.2.2.2.2.1.warm hWm⟩⟩ rfl hnp hll.1 rfl (lv_room hW) hd ⟨hk1, hk2⟩) hS (fun r f1 n1 H1 locs1 hq hp hs => ?_)
  exact kk r f1 n1 hq H1 locs1 la hp hs hll
theorem gz_callO (C : zC G y p s m args meth c) {y2 : MD} {x : MethodName} {idx np d2 mc2 ms2 a ci : Nat} {b0 : ByteArray} {m0 : Nat} {r0 : Option FieldType} {As rest : List Value} {fs : List Value} {Q2 : RQ} {q : vw_C} (hd : gd y pc (.invokevirtual idx) 3 pc2) (h0 : CW0 y2 np) (hl : Cond.methodLink y.1.cls idx x ∈ gT) (hsm : Cond.sameMethod x.cls x.cls x.name x.desc ∈ gT) (hix : Cond.instanceMethod x ∈ gT) (hcx : Cond.code x b0 m0 r0 ∈ gT) (hi : Cond.instanceMethod y2.1 ∈ gT) (hsel : Cond.selects q.1 x y2.1 ∈ gT) (hx : x.cls ≠ "java/lang/invoke/MethodHandle" ∧ x.cls ≠ "java/lang/invoke/VarHandle" ∧ (parseMethodDescriptor x.desc).map (fun d => d.parameters.length) = some np) (hc : vwCl[ci]? = some q) (hR : zR R d2 y2.2.2.1)
    (hev : Ev G y2 d2 mc2 ms2 (.ref a :: As) f n Q2) (he : f a = ob ci fs) (h1 : G.2.1 ≤ a) (h2 : a < n) (hnp : As.length = np) (hst : st = As.reverse ++ .ref a :: rest) (hW : (rest.map fun v => v.category).sum ≤ 8) (hk1 : kc + mc2 ≤ R.cells) (hk2 : ks + ms2 ≤ R.slots)
    (kk : ∀ (r : Option Value) (f1 : Mem) (n1 : Nat), Q2 r f1 n1 → Gz G y R Z p e s m args below meth c (kc + mc2) (ks + ms2) pc2 ls (r.toList ++ rest) f1 n1) : Gz G y R Z p e s m args below meth c kc ks pc ls st f n := by
  obtain ⟨hd, rfl⟩ := hd
  subst hst
  intro H locs la hP hS hll
  have hG : GoodIn gT (va_wsO y.1.cls idx q.1 x.cls x y2.1 (gws y2)) := by
    intro w hw
    have key : ∀ w ∈ gT, w ∈ gT ∧ ((w.onTables && w.keeps) = true ∨ ∃ ty, w = .arrayClass ty) := fun w h => ⟨h, (gT_good w h).2⟩
    unfold va_wsO at hw
    rcases List.mem_append.mp hw with h | h
    · simp only [List.mem_cons, List.not_mem_nil, or_false] at h
      rcases h with rfl | rfl | rfl | rfl | rfl | rfl
      · exact key _ hl
      · exact key _ hsm
      · exact key _ hix
      · exact key _ hsel
      · exact key _ hi
      · exact key _ h0.2.1
    · exact gT_goodIn h0.1 w h
  refine z_after (va_runU (As := As) (rest := rest) ⟨C.1, C.2.1, C.2.2.1, C.2.2.2.1, C.2.2.2.2.1⟩ hev (va_cwO np C.2.2.2.2.1 hG rfl rfl rfl hcx hx hR.ok) ⟨g_blind, va_recv C.2.2.2.2.2.2.2.2.1.1 (hP.2.2.ob he hc h1 h2) (q0 := 0) hc rfl, fun U hU hWm => ⟨rfl, by rw [hU]; exact hP, C.2.2.2.2.2.2.2.2.1.warm hWm⟩⟩ rfl hnp hll.1 rfl (lv_room hW) hd ⟨hk1, hk2⟩) hS (fun r f1 n1 H1 locs1 hq hp hs => ?_)
  exact kk r f1 n1 hq H1 locs1 la hp hs hll
theorem gz_V (C : zC G y p s m args meth c) {y2 : MD} {idx np d2 mc2 ms2 a ci : Nat} {fs : List Value} {Q2 : RQ} (As rest : List Value) (hd : gd y pc (.invokevirtual idx) 3 pc2) (vl : VL y.1.cls idx ci y2 np) (hR : zR R d2 y2.2.2.1)
    (hev : Ev G y2 d2 mc2 ms2 (.ref a :: As) f n Q2) (he : f a = ob ci fs) (h1 : G.2.1 ≤ a) (h2 : a < n) (hnp : As.length = np) (hst : st = As.reverse ++ .ref a :: rest) (hW : (rest.map fun v => v.category).sum ≤ 8) (hk1 : kc + mc2 ≤ R.cells) (hk2 : ks + ms2 ≤ R.slots)
    (kk : ∀ (r : Option Value) (f1 : Mem) (n1 : Nat), Q2 r f1 n1 → Gz G y R Z p e s m args below meth c (kc + mc2) (ks + ms2) pc2 ls (r.toList ++ rest) f1 n1) : Gz G y R Z p e s m args below meth c kc ks pc ls st f n := by
  obtain ⟨h0, hl, hi, q, hc, hsel⟩ := vl
  exact gz_callV C hd h0 hl hi hsel hc hR hev he h1 h2 hnp hst hW hk1 hk2 kk
theorem gz_Vr (C : zC G y p s m args meth c) {y2 : MD} {idx np d2 a ci : Nat} {fs : List Value} {v : Value} (As rest : List Value) (hd : gd y pc (.invokevirtual idx) 3 pc2) (vl : VL y.1.cls idx ci y2 np) (hR : zR R d2 y2.2.2.1)
    (hev : Ev G y2 d2 0 0 (.ref a :: As) f n (RD v f n)) (he : f a = ob ci fs) (h1 : G.2.1 ≤ a) (h2 : a < n) (hnp : As.length = np) (hst : st = As.reverse ++ .ref a :: rest) (hW : (rest.map fun v => v.category).sum ≤ 8) (hk1 : kc ≤ R.cells) (hk2 : ks ≤ R.slots)
    (kk : Gz G y R Z p e s m args below meth c kc ks pc2 ls (v :: rest) f n) : Gz G y R Z p e s m args below meth c kc ks pc ls st f n := by
  refine gz_V C As rest hd vl hR hev he h1 h2 hnp hst hW hk1 hk2 (fun r f1 n1 h => ?_)
  obtain ⟨rfl, rfl, rfl⟩ := h
  exact kk
theorem gz_S (C : zC G y p s m args meth c) {y2 : MD} {idx np d2 mc2 ms2 : Nat} {Q2 : RQ} (As rest : List Value) (hd : gd y pc (.invokestatic idx) 3 pc2) (vl : SL y.1.cls idx y2 np) (hR : zR R d2 y2.2.2.1)
    (hev : Ev G y2 d2 mc2 ms2 As f n Q2) (hnp : As.length = np) (hst : st = As.reverse ++ rest) (hW : (rest.map fun v => v.category).sum ≤ 8) (hk1 : kc + mc2 ≤ R.cells) (hk2 : ks + ms2 ≤ R.slots)
    (kk : ∀ (r : Option Value) (f1 : Mem) (n1 : Nat), Q2 r f1 n1 → Gz G y R Z p e s m args below meth c (kc + mc2) (ks + ms2) pc2 ls (r.toList ++ rest) f1 n1) : Gz G y R Z p e s m args below meth c kc ks pc ls st f n := by
  obtain ⟨h0, hs, hl | ⟨host, hl⟩⟩ := vl
  · exact gz_callS C hd h0 hl hs hR hev hnp hst hW hk1 hk2 kk
  · exact gz_callSN C hd h0 hl hs hR hev hnp hst hW hk1 hk2 kk
theorem gz_Sr (C : zC G y p s m args meth c) {y2 : MD} {idx np d2 : Nat} {v : Value} (As rest : List Value) (hd : gd y pc (.invokestatic idx) 3 pc2) (vl : SL y.1.cls idx y2 np) (hR : zR R d2 y2.2.2.1)
    (hev : Ev G y2 d2 0 0 As f n (RD v f n)) (hnp : As.length = np) (hst : st = As.reverse ++ rest) (hW : (rest.map fun v => v.category).sum ≤ 8) (hk1 : kc ≤ R.cells) (hk2 : ks ≤ R.slots)
    (kk : Gz G y R Z p e s m args below meth c kc ks pc2 ls (v :: rest) f n) : Gz G y R Z p e s m args below meth c kc ks pc ls st f n := by
  refine gz_S C As rest hd vl hR hev hnp hst hW hk1 hk2 (fun r f1 n1 h => ?_)
  obtain ⟨rfl, rfl, rfl⟩ := h
  exact kk
theorem gz_I (C : zC G y p s m args meth c) {y2 : MD} {idx np d2 mc2 ms2 a : Nat} {Q2 : RQ} (As rest : List Value) (hd : gd y pc (.invokespecial idx) 3 pc2) (vl : IL y.1.cls idx y2 np) (hR : zR R d2 y2.2.2.1)
    (hev : Ev G y2 d2 mc2 ms2 (.ref a :: As) f n Q2) (hnp : As.length = np) (hst : st = As.reverse ++ .ref a :: rest) (hW : (rest.map fun v => v.category).sum ≤ 8) (hk1 : kc + mc2 ≤ R.cells) (hk2 : ks + ms2 ≤ R.slots)
    (kk : ∀ (r : Option Value) (f1 : Mem) (n1 : Nat), Q2 r f1 n1 → Gz G y R Z p e s m args below meth c (kc + mc2) (ks + ms2) pc2 ls (r.toList ++ rest) f1 n1) : Gz G y R Z p e s m args below meth c kc ks pc ls st f n := by
  obtain ⟨h0, hi, hn, hv, hl | ⟨host, hl⟩⟩ := vl
  · exact gz_callI C hd h0 hl hi hn hv hR hev hnp hst hW hk1 hk2 kk
  · exact gz_callIN C hd h0 hl hi hn hv hR hev hnp hst hW hk1 hk2 kk
theorem gz_O (C : zC G y p s m args meth c) {x y2 : MD} {idx np d2 mc2 ms2 a ci : Nat} {fs : List Value} {Q2 : RQ} (As rest : List Value) (hd : gd y pc (.invokevirtual idx) 3 pc2) (vl : OL y.1.cls idx ci x y2 np) (hR : zR R d2 y2.2.2.1)
    (hev : Ev G y2 d2 mc2 ms2 (.ref a :: As) f n Q2) (he : f a = ob ci fs) (h1 : G.2.1 ≤ a) (h2 : a < n) (hnp : As.length = np) (hst : st = As.reverse ++ .ref a :: rest) (hW : (rest.map fun v => v.category).sum ≤ 8) (hk1 : kc + mc2 ≤ R.cells) (hk2 : ks + ms2 ≤ R.slots)
    (kk : ∀ (r : Option Value) (f1 : Mem) (n1 : Nat), Q2 r f1 n1 → Gz G y R Z p e s m args below meth c (kc + mc2) (ks + ms2) pc2 ls (r.toList ++ rest) f1 n1) : Gz G y R Z p e s m args below meth c kc ks pc ls st f n := by
  obtain ⟨h0, hx, hl, hsm, hix, hi, q, hc, hsel⟩ := vl
  exact gz_callO C hd h0 hl hsm hix hx.1 hi hsel ⟨hx.2.2.1, hx.2.2.2.1, hx.2.2.2.2⟩ hc hR hev he h1 h2 hnp hst hW hk1 hk2 kk
theorem gz_tp (C : zC G y p s m args meth c) {x z : Int32} (h : x = z) (k : Gz G y R Z p e s m args below meth c kc ks pc ls (.int z :: st) f n) : Gz G y R Z p e s m args below meth c kc ks pc ls (.int x :: st) f n := h ▸ k
theorem gz_tl (C : zC G y p s m args meth c) {x z : Int64} (h : x = z) (k : Gz G y R Z p e s m args below meth c kc ks pc ls (.long z :: st) f n) : Gz G y R Z p e s m args below meth c kc ks pc ls (.long x :: st) f n := h ▸ k
theorem gz_mem (C : zC G y p s m args meth c) {f' : Mem} (h : f = f') (k : Gz G y R Z p e s m args below meth c kc ks pc ls st f' n) : Gz G y R Z p e s m args below meth c kc ks pc ls st f n := h ▸ k
theorem gz_ls (C : zC G y p s m args meth c) (h : ls = ls') (k : Gz G y R Z p e s m args below meth c kc ks pc ls' st f n) : Gz G y R Z p e s m args below meth c kc ks pc ls st f n := h ▸ k
theorem gz_tableDef (C : zC G y p s m args meth c) {dflt lo hi : Int} {offs : Array Int} {len : Nat} {x : Int32} {tgt : Nat} {ds : List Int} (hd : decode y.2.1 pc = .ok (.tableswitch dflt lo hi offs, len)) (h : x.toInt < lo ∨ hi < x.toInt ∨ x.toInt ∈ ds) (hds : ∀ k ∈ ds, ¬ k < lo ∧ ¬ hi < k ∧ offs[(k - lo).toNat]? = some dflt) (ht : (pc : Int) + dflt = (tgt : Int)) (k : Gz G y R Z p e s m args below meth c kc ks tgt ls st f n) : Gz G y R Z p e s m args below meth c kc ks pc ls (.int x :: st) f n := by
  by_cases h0 : x.toInt < lo ∨ hi < x.toInt
  · exact gz_tableOut C hd h0 ht k
  · have hm : x.toInt ∈ ds := by
      rcases h with z | z | z
      · exact absurd (Or.inl z) h0
      · exact absurd (Or.inr z) h0
      · exact z
    obtain ⟨h1, h2, h3⟩ := hds _ hm
    exact gz_tableIn C hd h1 h2 h3 ht k
theorem gz_tv (C : zC G y p s m args meth c) {v w : Value} (h : v = w) (k : Gz G y R Z p e s m args below meth c kc ks pc ls (w :: st) f n) : Gz G y R Z p e s m args below meth c kc ks pc ls (v :: st) f n := h ▸ k
theorem gz_oald3 (C : zC G y p s m args meth c) {a len : Nat} {g : Nat → Option Nat} {i : Int32} (hd : gd y pc .aaload 1 pc2) (he : f a = oa G 3 len g) (h1 : G.2.1 ≤ a) (h2 : a < n) (hin : vp_in i len) (kk : Gz G y R Z p e s m args below meth c kc ks pc2 ls (va_rf (g i.toNatClampNeg) :: st) f n) : Gz G y R Z p e s m args below meth c kc ks pc ls (.int i :: .ref a :: st) f n := by
  obtain ⟨hd, rfl⟩ := hd
  intro H locs la hP hS hl
  exact va_aldq C.1 C.2.1 C.2.2.2.2.2.2.2.2.1.1 (hP.2.2.ar he h1 h2) 0 3 rfl rfl hin hd (kk H locs la hP hS hl)
theorem gz1_X11_costs (C : zC G y p s m args meth c) {a : Nat} {k g : Int32} {rest : List Value} (ho : oneM G f n a k g) (hd : gd y pc (.invokevirtual 341) 3 pc2) (hy : y.1.cls = "TwoToALocker") (hdd : 5 ≤ R.frames ∧ 240 ≤ R.locals) (hW : (rest.map fun v => v.category).sum ≤ 6) (hk1 : kc ≤ R.cells) (hk2 : ks ≤ R.slots) (kk : Gz G y R Z p e s m args below meth c kc ks pc2 ls (.int (costS k g) :: rest) f n) : Gz G y R Z p e s m args below meth c kc ks pc ls (.ref a :: rest) f n := by
  obtain ⟨kk2, gg, hkk, hgg, rfl, rfl, he, h1, h2⟩ := ho
  rcases nt_k hkk with rfl | rfl | rfl | rfl | rfl | rfl | rfl | rfl
  · refine gz_O C [] rest hd (hy ▸ ol_X11_341_3) (d2 := 1) ⟨by omega, by omega, by decide⟩ (e_X3_costs (ci := 3) (by decide) he h1 h2) he h1 h2 rfl rfl (Nat.le_trans hW (by decide)) hk1 hk2 (fun r f1 n1 h => ?_)
    obtain ⟨rfl, rfl, rfl⟩ := h
    exact gz_tp C (show (3 : Int32) = costS (nI 0) (nI gg) from by rfl) kk
  · refine gz_O C [] rest hd (hy ▸ ol_X11_341_10) (d2 := 2) ⟨by omega, by omega, by decide⟩ (e_X10_costs (ci := 10) (by decide) he h1 h2) he h1 h2 rfl rfl (Nat.le_trans hW (by decide)) hk1 hk2 (fun r f1 n1 h => ?_)
    obtain ⟨rfl, rfl, rfl⟩ := h
    exact gz_tp C (show (5 : Int32) = costS (nI 1) (nI gg) from by rfl) kk
  · refine gz_O C [] rest hd (hy ▸ ol_X11_341_8) (d2 := 2) ⟨by omega, by omega, by decide⟩ (e_X8_costs (ci := 8) (by decide) he h1 h2 fl_X8_23_8) he h1 h2 rfl rfl (Nat.le_trans hW (by decide)) hk1 hk2 (fun r f1 n1 h => ?_)
    obtain ⟨rfl, rfl, rfl⟩ := h
    exact gz_tp C (show (3 + (nI gg)) = costS (nI 2) (nI gg) from by rfl) kk
  · refine gz_O C [] rest hd (hy ▸ ol_X11_341_7) (d2 := 2) ⟨by omega, by omega, by decide⟩ (e_X7_costs (ci := 7) (by decide) he h1 h2) he h1 h2 rfl rfl (Nat.le_trans hW (by decide)) hk1 hk2 (fun r f1 n1 h => ?_)
    obtain ⟨rfl, rfl, rfl⟩ := h
    exact gz_tp C (show (4 : Int32) = costS (nI 3) (nI gg) from by rfl) kk
  · refine gz_O C [] rest hd (hy ▸ ol_X11_341_0) (d2 := 3) ⟨by omega, by omega, by decide⟩ (e_X0_costs (ci := 0) (by decide) he h1 h2 fl_X8_23_0) he h1 h2 rfl rfl (Nat.le_trans hW (by decide)) hk1 hk2 (fun r f1 n1 h => ?_)
    obtain ⟨rfl, rfl, rfl⟩ := h
    exact gz_tp C (show ((3 + (nI gg)) * 2) = costS (nI 4) (nI gg) from by show (3 + nI gg) * 2 = 2 * (3 + nI gg); exact Int32.mul_comm _ _) kk
  · refine gz_O C [] rest hd (hy ▸ ol_X11_341_6) (d2 := 3) ⟨by omega, by omega, by decide⟩ (e_X6_costs (ci := 6) (by decide) he h1 h2) he h1 h2 rfl rfl (Nat.le_trans hW (by decide)) hk1 hk2 (fun r f1 n1 h => ?_)
    obtain ⟨rfl, rfl, rfl⟩ := h
    exact gz_tp C (show (2 : Int32) = costS (nI 5) (nI gg) from by rfl) kk
  · refine gz_O C [] rest hd (hy ▸ ol_X11_341_2) (d2 := 3) ⟨by omega, by omega, by decide⟩ (e_X2_costs (ci := 2) (by decide) he h1 h2 fl_X8_23_2) he h1 h2 rfl rfl (Nat.le_trans hW (by decide)) hk1 hk2 (fun r f1 n1 h => ?_)
    obtain ⟨rfl, rfl, rfl⟩ := h
    exact gz_tp C (show (3 + (nI gg) + 2) = costS (nI 6) (nI gg) from by rfl) kk
  · refine gz_O C [] rest hd (hy ▸ ol_X11_341_1) (d2 := 3) ⟨by omega, by omega, by decide⟩ (e_X1_costs (ci := 1) (by decide) he h1 h2 fl_X1_18_1) he h1 h2 rfl rfl (Nat.le_trans hW (by decide)) hk1 hk2 (fun r f1 n1 h => ?_)
    obtain ⟨rfl, rfl, rfl⟩ := h
    exact gz_tp C (show (4 + (nI gg)) = costS (nI 7) (nI gg) from by rfl) kk
set_option maxHeartbeats 1000000 in
theorem gz1_X11_figure (C : zC G y p s m args meth c) {a : Nat} {k g : Int32} {rest : List Value} (ho : oneM G f n a k g) (hd : gd y pc (.getfield 89) 3 pc2) (hy : y.1.cls = "TwoToALocker") (kk : Gz G y R Z p e s m args below meth c kc ks pc2 ls (.int g :: rest) f n) : Gz G y R Z p e s m args below meth c kc ks pc ls (.ref a :: rest) f n := by
  obtain ⟨kk2, gg, hkk, hgg, rfl, rfl, he, h1, h2⟩ := ho
  rcases nt_k hkk with rfl | rfl | rfl | rfl | rfl | rfl | rfl | rfl
  · exact gz_get C hd (hy ▸ fl_X11_89_3) he h1 h2 rfl kk
  · exact gz_get C hd (hy ▸ fl_X11_89_10) he h1 h2 rfl kk
  · exact gz_get C hd (hy ▸ fl_X11_89_8) he h1 h2 rfl kk
  · exact gz_get C hd (hy ▸ fl_X11_89_7) he h1 h2 rfl kk
  · exact gz_get C hd (hy ▸ fl_X11_89_0) he h1 h2 rfl kk
  · exact gz_get C hd (hy ▸ fl_X11_89_6) he h1 h2 rfl kk
  · exact gz_get C hd (hy ▸ fl_X11_89_2) he h1 h2 rfl kk
  · exact gz_get C hd (hy ▸ fl_X11_89_1) he h1 h2 rfl kk
theorem gz_sim (C : zC G y p s m args meth c) {f2 : Mem} (h : sim f f2) (k : Gz G y R Z p e s m args below meth c kc ks pc ls st f2 n) : Gz G y R Z p e s m args below meth c kc ks pc ls st f n :=
  fun H locs la hP hS hl => k H locs la (hP.sim h) hS hl
end GZ
