def gd (y : MD) (pc : Nat) (i : Instr) (len pc2 : Nat) : Prop := decode y.2.1 pc = .ok (i, len) ∧ pc + len = pc2
def gj (y : MD) (pc : Nat) (i : Instr) (off : Int) (pc2 tgt : Nat) : Prop := decode y.2.1 pc = .ok (i, 3) ∧ pc + 3 = pc2 ∧ (pc : Int) + off = (tgt : Int)
def gs1 (y : MD) (ls : List (Option Value)) (i : Nat) (v : Value) (ls' : List (Option Value)) : Prop := i < y.2.2.1 ∧ gok ls i = true ∧ ls.set i (some v) = ls'
def gs2 (y : MD) (ls : List (Option Value)) (i : Nat) (v : Value) (ls' : List (Option Value)) : Prop := i + 1 < y.2.2.1 ∧ gok ls i = true ∧ (ls.set i (some v)).set (i + 1) none = ls'
section GOROWS
variable {G : GX} {y : MD} {d mc ms : Nat} {Q : RQ} {kc ks pc pc2 : Nat} {ls ls' : List (Option Value)} {st : List Value} {f : Mem} {n : Nat}
theorem go_iconst {a : Int} {v : Int32} (hd : gd y pc (.iconst a) 1 pc2) (hv : Int32.ofInt a = v) (k : Go G y d mc ms Q kc ks pc2 ls (.int v :: st) f n) : Go G y d mc ms Q kc ks pc ls st f n := by
  obtain ⟨hd, rfl⟩ := hd
  intro p e s m args below meth c C H locs la hP hS hl
  exact lv_iconst C.1 C.2.1 hd hv (k p e s m args below meth c C H locs la hP hS hl)
theorem go_bipush {a : Int} {v : Int32} (hd : gd y pc (.bipush a) 2 pc2) (hv : (Int8.ofInt a).toInt32 = v) (k : Go G y d mc ms Q kc ks pc2 ls (.int v :: st) f n) : Go G y d mc ms Q kc ks pc ls st f n := by
  obtain ⟨hd, rfl⟩ := hd
  intro p e s m args below meth c C H locs la hP hS hl
  exact lv_bipush C.1 C.2.1 hd hv (k p e s m args below meth c C H locs la hP hS hl)
theorem go_sipush {a : Int} {v : Int32} (hd : gd y pc (.sipush a) 3 pc2) (hv : (Int16.ofInt a).toInt32 = v) (k : Go G y d mc ms Q kc ks pc2 ls (.int v :: st) f n) : Go G y d mc ms Q kc ks pc ls st f n := by
  obtain ⟨hd, rfl⟩ := hd
  intro p e s m args below meth c C H locs la hP hS hl
  exact lv_sipush C.1 C.2.1 hd hv (k p e s m args below meth c C H locs la hP hS hl)
theorem go_lconst {a : Fin 2} {v : Int64} (hd : gd y pc (.lconst a) 1 pc2) (hv : Int64.ofNat (a : Nat) = v) (k : Go G y d mc ms Q kc ks pc2 ls (.long v :: st) f n) : Go G y d mc ms Q kc ks pc ls st f n := by
  obtain ⟨hd, rfl⟩ := hd
  intro p e s m args below meth c C H locs la hP hS hl
  exact lv_lconst C.1 C.2.1 hd hv (k p e s m args below meth c C H locs la hP hS hl)
theorem go_null  (hd : gd y pc (.aconst_null) 1 pc2) (k : Go G y d mc ms Q kc ks pc2 ls (.null :: st) f n) : Go G y d mc ms Q kc ks pc ls st f n := by
  obtain ⟨hd, rfl⟩ := hd
  intro p e s m args below meth c C H locs la hP hS hl
  exact lv_null C.1 C.2.1 hd (k p e s m args below meth c C H locs la hP hS hl)
theorem go_iload_n {a : Fin 4} {x : Int32} (hd : gd y pc (.iload_n a) 1 pc2) (hx : ls[(a : Nat)]? = some (some (.int x))) (k : Go G y d mc ms Q kc ks pc2 ls (.int x :: st) f n) : Go G y d mc ms Q kc ks pc ls st f n := by
  obtain ⟨hd, rfl⟩ := hd
  intro p e s m args below meth c C H locs la hP hS hl
  exact lv_iload_n C.1 C.2.1 hd rfl (gl_at hl hx) (k p e s m args below meth c C H locs la hP hS hl)
theorem go_iload {a : Nat} {x : Int32} (hd : gd y pc (.iload a) 2 pc2) (hx : ls[a]? = some (some (.int x))) (k : Go G y d mc ms Q kc ks pc2 ls (.int x :: st) f n) : Go G y d mc ms Q kc ks pc ls st f n := by
  obtain ⟨hd, rfl⟩ := hd
  intro p e s m args below meth c C H locs la hP hS hl
  exact lv_iload C.1 C.2.1 hd (gl_at hl hx) (k p e s m args below meth c C H locs la hP hS hl)
theorem go_istore_n {a : Fin 4} {x : Int32} (hd : gd y pc (.istore_n a) 1 pc2) (hs : gs1 y ls (a : Nat) (.int x) ls') (k : Go G y d mc ms Q kc ks pc2 ls' st f n) : Go G y d mc ms Q kc ks pc ls (.int x :: st) f n := by
  obtain ⟨hd, rfl⟩ := hd
  obtain ⟨h1, h2, h3⟩ := hs
  intro p e s m args below meth c C H locs la hP hS hl
  exact lv_istore_n C.1 C.2.1 hd rfl hl h1 rfl (fun la hl => k p e s m args below meth c C H locs la hP hS (gl_set1 h2 h3 hl))
theorem go_istore {a : Nat} {x : Int32} (hd : gd y pc (.istore a) 2 pc2) (hs : gs1 y ls a (.int x) ls') (k : Go G y d mc ms Q kc ks pc2 ls' st f n) : Go G y d mc ms Q kc ks pc ls (.int x :: st) f n := by
  obtain ⟨hd, rfl⟩ := hd
  obtain ⟨h1, h2, h3⟩ := hs
  intro p e s m args below meth c C H locs la hP hS hl
  exact lv_istore C.1 C.2.1 hd hl h1 rfl (fun la hl => k p e s m args below meth c C H locs la hP hS (gl_set1 h2 h3 hl))
theorem go_lload_n {a : Fin 4} {x : Int64} (hd : gd y pc (.lload_n a) 1 pc2) (hx : ls[(a : Nat)]? = some (some (.long x))) (k : Go G y d mc ms Q kc ks pc2 ls (.long x :: st) f n) : Go G y d mc ms Q kc ks pc ls st f n := by
  obtain ⟨hd, rfl⟩ := hd
  intro p e s m args below meth c C H locs la hP hS hl
  exact lv_lload_n C.1 C.2.1 hd rfl (gl_at hl hx) (k p e s m args below meth c C H locs la hP hS hl)
theorem go_lload {a : Nat} {x : Int64} (hd : gd y pc (.lload a) 2 pc2) (hx : ls[a]? = some (some (.long x))) (k : Go G y d mc ms Q kc ks pc2 ls (.long x :: st) f n) : Go G y d mc ms Q kc ks pc ls st f n := by
  obtain ⟨hd, rfl⟩ := hd
  intro p e s m args below meth c C H locs la hP hS hl
  exact lv_lload C.1 C.2.1 hd (gl_at hl hx) (k p e s m args below meth c C H locs la hP hS hl)
theorem go_lstore_n {a : Fin 4} {x : Int64} (hd : gd y pc (.lstore_n a) 1 pc2) (hs : gs2 y ls (a : Nat) (.long x) ls') (k : Go G y d mc ms Q kc ks pc2 ls' st f n) : Go G y d mc ms Q kc ks pc ls (.long x :: st) f n := by
  obtain ⟨hd, rfl⟩ := hd
  obtain ⟨h1, h2, h3⟩ := hs
  intro p e s m args below meth c C H locs la hP hS hl
  exact lv_lstore_n C.1 C.2.1 hd rfl hl h1 rfl (fun la hl => k p e s m args below meth c C H locs la hP hS (gl_set2 h2 h3 hl))
theorem go_lstore {a : Nat} {x : Int64} (hd : gd y pc (.lstore a) 2 pc2) (hs : gs2 y ls a (.long x) ls') (k : Go G y d mc ms Q kc ks pc2 ls' st f n) : Go G y d mc ms Q kc ks pc ls (.long x :: st) f n := by
  obtain ⟨hd, rfl⟩ := hd
  obtain ⟨h1, h2, h3⟩ := hs
  intro p e s m args below meth c C H locs la hP hS hl
  exact lv_lstore C.1 C.2.1 hd hl h1 rfl (fun la hl => k p e s m args below meth c C H locs la hP hS (gl_set2 h2 h3 hl))
theorem go_aload_n {a : Fin 4} {x : Nat} (hd : gd y pc (.aload_n a) 1 pc2) (hx : ls[(a : Nat)]? = some (some (.ref x))) (k : Go G y d mc ms Q kc ks pc2 ls (.ref x :: st) f n) : Go G y d mc ms Q kc ks pc ls st f n := by
  obtain ⟨hd, rfl⟩ := hd
  intro p e s m args below meth c C H locs la hP hS hl
  exact lv_aload_n C.1 C.2.1 hd rfl (gl_at hl hx) (k p e s m args below meth c C H locs la hP hS hl)
theorem go_aload {a : Nat} {x : Nat} (hd : gd y pc (.aload a) 2 pc2) (hx : ls[a]? = some (some (.ref x))) (k : Go G y d mc ms Q kc ks pc2 ls (.ref x :: st) f n) : Go G y d mc ms Q kc ks pc ls st f n := by
  obtain ⟨hd, rfl⟩ := hd
  intro p e s m args below meth c C H locs la hP hS hl
  exact lv_aload C.1 C.2.1 hd (gl_at hl hx) (k p e s m args below meth c C H locs la hP hS hl)
theorem go_astore_n {a : Fin 4} {x : Nat} (hd : gd y pc (.astore_n a) 1 pc2) (hs : gs1 y ls (a : Nat) (.ref x) ls') (k : Go G y d mc ms Q kc ks pc2 ls' st f n) : Go G y d mc ms Q kc ks pc ls (.ref x :: st) f n := by
  obtain ⟨hd, rfl⟩ := hd
  obtain ⟨h1, h2, h3⟩ := hs
  intro p e s m args below meth c C H locs la hP hS hl
  exact lv_astore_n C.1 C.2.1 hd rfl hl h1 rfl (fun la hl => k p e s m args below meth c C H locs la hP hS (gl_set1 h2 h3 hl))
theorem go_astore {a : Nat} {x : Nat} (hd : gd y pc (.astore a) 2 pc2) (hs : gs1 y ls a (.ref x) ls') (k : Go G y d mc ms Q kc ks pc2 ls' st f n) : Go G y d mc ms Q kc ks pc ls (.ref x :: st) f n := by
  obtain ⟨hd, rfl⟩ := hd
  obtain ⟨h1, h2, h3⟩ := hs
  intro p e s m args below meth c C H locs la hP hS hl
  exact lv_astore C.1 C.2.1 hd hl h1 rfl (fun la hl => k p e s m args below meth c C H locs la hP hS (gl_set1 h2 h3 hl))
theorem go_aload_nN {a : Fin 4} (hd : gd y pc (.aload_n a) 1 pc2) (hx : ls[(a : Nat)]? = some (some .null)) (k : Go G y d mc ms Q kc ks pc2 ls (.null :: st) f n) : Go G y d mc ms Q kc ks pc ls st f n := by
  obtain ⟨hd, rfl⟩ := hd
  intro p e s m args below meth c C H locs la hP hS hl
  exact lv_aload_nN C.1 C.2.1 hd rfl (gl_at hl hx) (k p e s m args below meth c C H locs la hP hS hl)
theorem go_aloadN {a : Nat} (hd : gd y pc (.aload a) 2 pc2) (hx : ls[a]? = some (some .null)) (k : Go G y d mc ms Q kc ks pc2 ls (.null :: st) f n) : Go G y d mc ms Q kc ks pc ls st f n := by
  obtain ⟨hd, rfl⟩ := hd
  intro p e s m args below meth c C H locs la hP hS hl
  exact lv_aloadN C.1 C.2.1 hd (gl_at hl hx) (k p e s m args below meth c C H locs la hP hS hl)
theorem go_astore_nN {a : Fin 4} (hd : gd y pc (.astore_n a) 1 pc2) (hs : gs1 y ls (a : Nat) .null ls') (k : Go G y d mc ms Q kc ks pc2 ls' st f n) : Go G y d mc ms Q kc ks pc ls (.null :: st) f n := by
  obtain ⟨hd, rfl⟩ := hd
  obtain ⟨h1, h2, h3⟩ := hs
  intro p e s m args below meth c C H locs la hP hS hl
  exact lv_astore_nN C.1 C.2.1 hd rfl hl h1 rfl (fun la hl => k p e s m args below meth c C H locs la hP hS (gl_set1 h2 h3 hl))
theorem go_astoreN {a : Nat} (hd : gd y pc (.astore a) 2 pc2) (hs : gs1 y ls a .null ls') (k : Go G y d mc ms Q kc ks pc2 ls' st f n) : Go G y d mc ms Q kc ks pc ls (.null :: st) f n := by
  obtain ⟨hd, rfl⟩ := hd
  obtain ⟨h1, h2, h3⟩ := hs
  intro p e s m args below meth c C H locs la hP hS hl
  exact lv_astoreN C.1 C.2.1 hd hl h1 rfl (fun la hl => k p e s m args below meth c C H locs la hP hS (gl_set1 h2 h3 hl))
theorem go_iinc {i : Nat} {a : Int} {x v : Int32} (hd : gd y pc (.iinc i a) 3 pc2) (hx : ls[i]? = some (some (.int x))) (hv : x + Int32.ofInt a = v) (hs : gs1 y ls i (.int v) ls') (k : Go G y d mc ms Q kc ks pc2 ls' st f n) : Go G y d mc ms Q kc ks pc ls st f n := by
  obtain ⟨hd, rfl⟩ := hd
  obtain ⟨h1, h2, h3⟩ := hs
  intro p e s m args below meth c C H locs la hP hS hl
  obtain ⟨j, hj⟩ := List.getElem?_of_mem (by have := gl_mem ls 0 i _ hx; rw [Nat.zero_add] at this; exact this)
  exact lv_iinc C.1 C.2.1 hd hl hj hv h1 rfl (fun la hl => k p e s m args below meth c C H locs la hP hS (gl_set1 h2 h3 hl))
theorem go_iadd {x z : Int32} (hd : gd y pc (.iadd) 1 pc2) (k : Go G y d mc ms Q kc ks pc2 ls (.int (x + z) :: st) f n) : Go G y d mc ms Q kc ks pc ls (.int z :: .int x :: st) f n := by
  obtain ⟨hd, rfl⟩ := hd
  intro p e s m args below meth c C H locs la hP hS hl
  exact lv_iadd C.1 C.2.1 hd (k p e s m args below meth c C H locs la hP hS hl)
theorem go_isub {x z : Int32} (hd : gd y pc (.isub) 1 pc2) (k : Go G y d mc ms Q kc ks pc2 ls (.int (x - z) :: st) f n) : Go G y d mc ms Q kc ks pc ls (.int z :: .int x :: st) f n := by
  obtain ⟨hd, rfl⟩ := hd
  intro p e s m args below meth c C H locs la hP hS hl
  exact lv_isub C.1 C.2.1 hd (k p e s m args below meth c C H locs la hP hS hl)
theorem go_imul {x z : Int32} (hd : gd y pc (.imul) 1 pc2) (k : Go G y d mc ms Q kc ks pc2 ls (.int (x * z) :: st) f n) : Go G y d mc ms Q kc ks pc ls (.int z :: .int x :: st) f n := by
  obtain ⟨hd, rfl⟩ := hd
  intro p e s m args below meth c C H locs la hP hS hl
  exact lv_imul C.1 C.2.1 hd (k p e s m args below meth c C H locs la hP hS hl)
theorem go_iand {x z : Int32} (hd : gd y pc (.iand) 1 pc2) (k : Go G y d mc ms Q kc ks pc2 ls (.int (x &&& z) :: st) f n) : Go G y d mc ms Q kc ks pc ls (.int z :: .int x :: st) f n := by
  obtain ⟨hd, rfl⟩ := hd
  intro p e s m args below meth c C H locs la hP hS hl
  exact lv_iand C.1 C.2.1 hd (k p e s m args below meth c C H locs la hP hS hl)
theorem go_ior {x z : Int32} (hd : gd y pc (.ior) 1 pc2) (k : Go G y d mc ms Q kc ks pc2 ls (.int (x ||| z) :: st) f n) : Go G y d mc ms Q kc ks pc ls (.int z :: .int x :: st) f n := by
  obtain ⟨hd, rfl⟩ := hd
  intro p e s m args below meth c C H locs la hP hS hl
  exact lv_ior C.1 C.2.1 hd (k p e s m args below meth c C H locs la hP hS hl)
theorem go_ixor {x z : Int32} (hd : gd y pc (.ixor) 1 pc2) (k : Go G y d mc ms Q kc ks pc2 ls (.int (x ^^^ z) :: st) f n) : Go G y d mc ms Q kc ks pc ls (.int z :: .int x :: st) f n := by
  obtain ⟨hd, rfl⟩ := hd
  intro p e s m args below meth c C H locs la hP hS hl
  exact lv_ixor C.1 C.2.1 hd (k p e s m args below meth c C H locs la hP hS hl)
theorem go_ladd {x z : Int64} (hd : gd y pc (.ladd) 1 pc2) (k : Go G y d mc ms Q kc ks pc2 ls (.long (x + z) :: st) f n) : Go G y d mc ms Q kc ks pc ls (.long z :: .long x :: st) f n := by
  obtain ⟨hd, rfl⟩ := hd
  intro p e s m args below meth c C H locs la hP hS hl
  exact lv_ladd C.1 C.2.1 hd (k p e s m args below meth c C H locs la hP hS hl)
theorem go_lsub {x z : Int64} (hd : gd y pc (.lsub) 1 pc2) (k : Go G y d mc ms Q kc ks pc2 ls (.long (x - z) :: st) f n) : Go G y d mc ms Q kc ks pc ls (.long z :: .long x :: st) f n := by
  obtain ⟨hd, rfl⟩ := hd
  intro p e s m args below meth c C H locs la hP hS hl
  exact lv_lsub C.1 C.2.1 hd (k p e s m args below meth c C H locs la hP hS hl)
theorem go_lmul {x z : Int64} (hd : gd y pc (.lmul) 1 pc2) (k : Go G y d mc ms Q kc ks pc2 ls (.long (x * z) :: st) f n) : Go G y d mc ms Q kc ks pc ls (.long z :: .long x :: st) f n := by
  obtain ⟨hd, rfl⟩ := hd
  intro p e s m args below meth c C H locs la hP hS hl
  exact lv_lmul C.1 C.2.1 hd (k p e s m args below meth c C H locs la hP hS hl)
theorem go_idiv {x z : Int32} (hd : gd y pc (.idiv) 1 pc2) (hz : ¬ z = 0) (k : Go G y d mc ms Q kc ks pc2 ls (.int (x / z) :: st) f n) : Go G y d mc ms Q kc ks pc ls (.int z :: .int x :: st) f n := by
  obtain ⟨hd, rfl⟩ := hd
  intro p e s m args below meth c C H locs la hP hS hl
  exact lv_idiv C.1 C.2.1 hd hz (k p e s m args below meth c C H locs la hP hS hl)
theorem go_irem {x z : Int32} (hd : gd y pc (.irem) 1 pc2) (hz : ¬ z = 0) (k : Go G y d mc ms Q kc ks pc2 ls (.int (x - x / z * z) :: st) f n) : Go G y d mc ms Q kc ks pc ls (.int z :: .int x :: st) f n := by
  obtain ⟨hd, rfl⟩ := hd
  intro p e s m args below meth c C H locs la hP hS hl
  exact lv_irem C.1 C.2.1 hd hz (k p e s m args below meth c C H locs la hP hS hl)
theorem go_ldiv {x z : Int64} (hd : gd y pc (.ldiv) 1 pc2) (hz : ¬ z = 0) (k : Go G y d mc ms Q kc ks pc2 ls (.long (x / z) :: st) f n) : Go G y d mc ms Q kc ks pc ls (.long z :: .long x :: st) f n := by
  obtain ⟨hd, rfl⟩ := hd
  intro p e s m args below meth c C H locs la hP hS hl
  exact lv_ldiv C.1 C.2.1 hd hz (k p e s m args below meth c C H locs la hP hS hl)
theorem go_lrem {x z : Int64} (hd : gd y pc (.lrem) 1 pc2) (hz : ¬ z = 0) (k : Go G y d mc ms Q kc ks pc2 ls (.long (x - x / z * z) :: st) f n) : Go G y d mc ms Q kc ks pc ls (.long z :: .long x :: st) f n := by
  obtain ⟨hd, rfl⟩ := hd
  intro p e s m args below meth c C H locs la hP hS hl
  exact lv_lrem C.1 C.2.1 hd hz (k p e s m args below meth c C H locs la hP hS hl)
theorem go_ineg {x : Int32} (hd : gd y pc (.ineg) 1 pc2) (k : Go G y d mc ms Q kc ks pc2 ls (.int (-x) :: st) f n) : Go G y d mc ms Q kc ks pc ls (.int x :: st) f n := by
  obtain ⟨hd, rfl⟩ := hd
  intro p e s m args below meth c C H locs la hP hS hl
  exact lv_ineg C.1 C.2.1 hd (k p e s m args below meth c C H locs la hP hS hl)
theorem go_lneg {x : Int64} (hd : gd y pc (.lneg) 1 pc2) (k : Go G y d mc ms Q kc ks pc2 ls (.long (-x) :: st) f n) : Go G y d mc ms Q kc ks pc ls (.long x :: st) f n := by
  obtain ⟨hd, rfl⟩ := hd
  intro p e s m args below meth c C H locs la hP hS hl
  exact lv_lneg C.1 C.2.1 hd (k p e s m args below meth c C H locs la hP hS hl)
theorem go_ishl {x z : Int32} (hd : gd y pc (.ishl) 1 pc2) (k : Go G y d mc ms Q kc ks pc2 ls (.int (x <<< (z &&& 31)) :: st) f n) : Go G y d mc ms Q kc ks pc ls (.int z :: .int x :: st) f n := by
  obtain ⟨hd, rfl⟩ := hd
  intro p e s m args below meth c C H locs la hP hS hl
  exact lv_ishl C.1 C.2.1 hd (k p e s m args below meth c C H locs la hP hS hl)
theorem go_ishr {x z : Int32} (hd : gd y pc (.ishr) 1 pc2) (k : Go G y d mc ms Q kc ks pc2 ls (.int (x >>> (z &&& 31)) :: st) f n) : Go G y d mc ms Q kc ks pc ls (.int z :: .int x :: st) f n := by
  obtain ⟨hd, rfl⟩ := hd
  intro p e s m args below meth c C H locs la hP hS hl
  exact lv_ishr C.1 C.2.1 hd (k p e s m args below meth c C H locs la hP hS hl)
theorem go_iushr {x z v : Int32} (hd : gd y pc (.iushr) 1 pc2) (hv : (x.toUInt32 >>> (z.toUInt32 &&& Int32.toUInt32 31)).toInt32 = v) (k : Go G y d mc ms Q kc ks pc2 ls (.int v :: st) f n) : Go G y d mc ms Q kc ks pc ls (.int z :: .int x :: st) f n := by
  obtain ⟨hd, rfl⟩ := hd
  intro p e s m args below meth c C H locs la hP hS hl
  exact lv_iushr C.1 C.2.1 hd hv (k p e s m args below meth c C H locs la hP hS hl)
theorem go_lshl {x : Int64} {z : Int32} (hd : gd y pc (.lshl) 1 pc2) (k : Go G y d mc ms Q kc ks pc2 ls (.long (x <<< (z.toInt64 &&& 63)) :: st) f n) : Go G y d mc ms Q kc ks pc ls (.int z :: .long x :: st) f n := by
  obtain ⟨hd, rfl⟩ := hd
  intro p e s m args below meth c C H locs la hP hS hl
  exact lv_lshl C.1 C.2.1 hd rfl (k p e s m args below meth c C H locs la hP hS hl)
theorem go_lshr {x : Int64} {z : Int32} (hd : gd y pc (.lshr) 1 pc2) (k : Go G y d mc ms Q kc ks pc2 ls (.long (x >>> (z.toInt64 &&& 63)) :: st) f n) : Go G y d mc ms Q kc ks pc ls (.int z :: .long x :: st) f n := by
  obtain ⟨hd, rfl⟩ := hd
  intro p e s m args below meth c C H locs la hP hS hl
  exact lv_lshr C.1 C.2.1 hd rfl (k p e s m args below meth c C H locs la hP hS hl)
theorem go_i2l {x : Int32} (hd : gd y pc (.i2l) 1 pc2) (k : Go G y d mc ms Q kc ks pc2 ls (.long x.toInt64 :: st) f n) : Go G y d mc ms Q kc ks pc ls (.int x :: st) f n := by
  obtain ⟨hd, rfl⟩ := hd
  intro p e s m args below meth c C H locs la hP hS hl
  exact lv_i2l C.1 C.2.1 hd rfl (k p e s m args below meth c C H locs la hP hS hl)
theorem go_l2i {x : Int64} (hd : gd y pc (.l2i) 1 pc2) (k : Go G y d mc ms Q kc ks pc2 ls (.int x.toInt32 :: st) f n) : Go G y d mc ms Q kc ks pc ls (.long x :: st) f n := by
  obtain ⟨hd, rfl⟩ := hd
  intro p e s m args below meth c C H locs la hP hS hl
  exact lv_l2i C.1 C.2.1 hd rfl (k p e s m args below meth c C H locs la hP hS hl)
theorem go_i2b {x : Int32} (hd : gd y pc (.i2b) 1 pc2) (k : Go G y d mc ms Q kc ks pc2 ls (.int x.toInt8.toInt32 :: st) f n) : Go G y d mc ms Q kc ks pc ls (.int x :: st) f n := by
  obtain ⟨hd, rfl⟩ := hd
  intro p e s m args below meth c C H locs la hP hS hl
  exact lv_i2b C.1 C.2.1 hd rfl (k p e s m args below meth c C H locs la hP hS hl)
theorem go_i2s {x : Int32} (hd : gd y pc (.i2s) 1 pc2) (k : Go G y d mc ms Q kc ks pc2 ls (.int x.toInt16.toInt32 :: st) f n) : Go G y d mc ms Q kc ks pc ls (.int x :: st) f n := by
  obtain ⟨hd, rfl⟩ := hd
  intro p e s m args below meth c C H locs la hP hS hl
  exact lv_i2s C.1 C.2.1 hd rfl (k p e s m args below meth c C H locs la hP hS hl)
theorem go_lcmp {x z : Int64} (hd : gd y pc (.lcmp) 1 pc2) (k : Go G y d mc ms Q kc ks pc2 ls (.int (lg_cmp x z) :: st) f n) : Go G y d mc ms Q kc ks pc ls (.long z :: .long x :: st) f n := by
  obtain ⟨hd, rfl⟩ := hd
  intro p e s m args below meth c C H locs la hP hS hl
  exact W.lcmp C.1 C.2.1 hd (k p e s m args below meth c C H locs la hP hS hl)
theorem go_dup {v : Value} (hd : gd y pc (.dup) 1 pc2) (hv : v.category = 1) (k : Go G y d mc ms Q kc ks pc2 ls (v :: v :: st) f n) : Go G y d mc ms Q kc ks pc ls (v :: st) f n := by
  obtain ⟨hd, rfl⟩ := hd
  intro p e s m args below meth c C H locs la hP hS hl
  exact lv_dup C.1 C.2.1 hd hv (k p e s m args below meth c C H locs la hP hS hl)
theorem go_pop {v : Value} (hd : gd y pc (.pop) 1 pc2) (hv : v.category = 1) (k : Go G y d mc ms Q kc ks pc2 ls st f n) : Go G y d mc ms Q kc ks pc ls (v :: st) f n := by
  obtain ⟨hd, rfl⟩ := hd
  intro p e s m args below meth c C H locs la hP hS hl
  exact lv_pop C.1 C.2.1 hd hv (k p e s m args below meth c C H locs la hP hS hl)
theorem go_dup2 {v w : Value} (hd : gd y pc (.dup2) 1 pc2) (hv : v.category = 1) (hw : w.category = 1) (k : Go G y d mc ms Q kc ks pc2 ls (v :: w :: v :: w :: st) f n) : Go G y d mc ms Q kc ks pc ls (v :: w :: st) f n := by
  obtain ⟨hd, rfl⟩ := hd
  intro p e s m args below meth c C H locs la hP hS hl
  exact lv_dup2_11 C.1 C.2.1 hd hv hw (k p e s m args below meth c C H locs la hP hS hl)
theorem go_if_eq {x : Int32} {off : Int} {tgt : Nat} (hd : gj y pc (.ifCond .eq off) off pc2 tgt) (kt : x = 0 → Go G y d mc ms Q kc ks tgt ls st f n) (kf : ¬ x = 0 → Go G y d mc ms Q kc ks pc2 ls st f n) : Go G y d mc ms Q kc ks pc ls (.int x :: st) f n := by
  obtain ⟨hd, rfl, ht⟩ := hd
  intro p e s m args below meth c C H locs la hP hS hl
  exact lv_if_eq C.1 C.2.1 hd ht (fun h => kt h p e s m args below meth c C H locs la hP hS hl) (fun h => kf h p e s m args below meth c C H locs la hP hS hl)
theorem go_icmp_eq {x z : Int32} {off : Int} {tgt : Nat} (hd : gj y pc (.if_icmp .eq off) off pc2 tgt) (kt : x = z → Go G y d mc ms Q kc ks tgt ls st f n) (kf : ¬ x = z → Go G y d mc ms Q kc ks pc2 ls st f n) : Go G y d mc ms Q kc ks pc ls (.int z :: .int x :: st) f n := by
  obtain ⟨hd, rfl, ht⟩ := hd
  intro p e s m args below meth c C H locs la hP hS hl
  exact lv_icmp_eq C.1 C.2.1 hd ht (fun h => kt h p e s m args below meth c C H locs la hP hS hl) (fun h => kf h p e s m args below meth c C H locs la hP hS hl)
theorem go_if_ne {x : Int32} {off : Int} {tgt : Nat} (hd : gj y pc (.ifCond .ne off) off pc2 tgt) (kt : ¬ x = 0 → Go G y d mc ms Q kc ks tgt ls st f n) (kf : x = 0 → Go G y d mc ms Q kc ks pc2 ls st f n) : Go G y d mc ms Q kc ks pc ls (.int x :: st) f n := by
  obtain ⟨hd, rfl, ht⟩ := hd
  intro p e s m args below meth c C H locs la hP hS hl
  exact lv_if_ne C.1 C.2.1 hd ht (fun h => kt h p e s m args below meth c C H locs la hP hS hl) (fun h => kf h p e s m args below meth c C H locs la hP hS hl)
theorem go_icmp_ne {x z : Int32} {off : Int} {tgt : Nat} (hd : gj y pc (.if_icmp .ne off) off pc2 tgt) (kt : ¬ x = z → Go G y d mc ms Q kc ks tgt ls st f n) (kf : x = z → Go G y d mc ms Q kc ks pc2 ls st f n) : Go G y d mc ms Q kc ks pc ls (.int z :: .int x :: st) f n := by
  obtain ⟨hd, rfl, ht⟩ := hd
  intro p e s m args below meth c C H locs la hP hS hl
  exact lv_icmp_ne C.1 C.2.1 hd ht (fun h => kt h p e s m args below meth c C H locs la hP hS hl) (fun h => kf h p e s m args below meth c C H locs la hP hS hl)
theorem go_if_lt {x : Int32} {off : Int} {tgt : Nat} (hd : gj y pc (.ifCond .lt off) off pc2 tgt) (kt : x < 0 → Go G y d mc ms Q kc ks tgt ls st f n) (kf : ¬ x < 0 → Go G y d mc ms Q kc ks pc2 ls st f n) : Go G y d mc ms Q kc ks pc ls (.int x :: st) f n := by
  obtain ⟨hd, rfl, ht⟩ := hd
  intro p e s m args below meth c C H locs la hP hS hl
  exact lv_if_lt C.1 C.2.1 hd ht (fun h => kt h p e s m args below meth c C H locs la hP hS hl) (fun h => kf h p e s m args below meth c C H locs la hP hS hl)
theorem go_icmp_lt {x z : Int32} {off : Int} {tgt : Nat} (hd : gj y pc (.if_icmp .lt off) off pc2 tgt) (kt : x < z → Go G y d mc ms Q kc ks tgt ls st f n) (kf : ¬ x < z → Go G y d mc ms Q kc ks pc2 ls st f n) : Go G y d mc ms Q kc ks pc ls (.int z :: .int x :: st) f n := by
  obtain ⟨hd, rfl, ht⟩ := hd
  intro p e s m args below meth c C H locs la hP hS hl
  exact lv_icmp_lt C.1 C.2.1 hd ht (fun h => kt h p e s m args below meth c C H locs la hP hS hl) (fun h => kf h p e s m args below meth c C H locs la hP hS hl)
theorem go_if_ge {x : Int32} {off : Int} {tgt : Nat} (hd : gj y pc (.ifCond .ge off) off pc2 tgt) (kt : 0 ≤ x → Go G y d mc ms Q kc ks tgt ls st f n) (kf : ¬ 0 ≤ x → Go G y d mc ms Q kc ks pc2 ls st f n) : Go G y d mc ms Q kc ks pc ls (.int x :: st) f n := by
  obtain ⟨hd, rfl, ht⟩ := hd
  intro p e s m args below meth c C H locs la hP hS hl
  exact lv_if_ge C.1 C.2.1 hd ht (fun h => kt h p e s m args below meth c C H locs la hP hS hl) (fun h => kf h p e s m args below meth c C H locs la hP hS hl)
theorem go_icmp_ge {x z : Int32} {off : Int} {tgt : Nat} (hd : gj y pc (.if_icmp .ge off) off pc2 tgt) (kt : z ≤ x → Go G y d mc ms Q kc ks tgt ls st f n) (kf : ¬ z ≤ x → Go G y d mc ms Q kc ks pc2 ls st f n) : Go G y d mc ms Q kc ks pc ls (.int z :: .int x :: st) f n := by
  obtain ⟨hd, rfl, ht⟩ := hd
  intro p e s m args below meth c C H locs la hP hS hl
  exact lv_icmp_ge C.1 C.2.1 hd ht (fun h => kt h p e s m args below meth c C H locs la hP hS hl) (fun h => kf h p e s m args below meth c C H locs la hP hS hl)
theorem go_if_gt {x : Int32} {off : Int} {tgt : Nat} (hd : gj y pc (.ifCond .gt off) off pc2 tgt) (kt : 0 < x → Go G y d mc ms Q kc ks tgt ls st f n) (kf : ¬ 0 < x → Go G y d mc ms Q kc ks pc2 ls st f n) : Go G y d mc ms Q kc ks pc ls (.int x :: st) f n := by
  obtain ⟨hd, rfl, ht⟩ := hd
  intro p e s m args below meth c C H locs la hP hS hl
  exact lv_if_gt C.1 C.2.1 hd ht (fun h => kt h p e s m args below meth c C H locs la hP hS hl) (fun h => kf h p e s m args below meth c C H locs la hP hS hl)
theorem go_icmp_gt {x z : Int32} {off : Int} {tgt : Nat} (hd : gj y pc (.if_icmp .gt off) off pc2 tgt) (kt : z < x → Go G y d mc ms Q kc ks tgt ls st f n) (kf : ¬ z < x → Go G y d mc ms Q kc ks pc2 ls st f n) : Go G y d mc ms Q kc ks pc ls (.int z :: .int x :: st) f n := by
  obtain ⟨hd, rfl, ht⟩ := hd
  intro p e s m args below meth c C H locs la hP hS hl
  exact lv_icmp_gt C.1 C.2.1 hd ht (fun h => kt h p e s m args below meth c C H locs la hP hS hl) (fun h => kf h p e s m args below meth c C H locs la hP hS hl)
theorem go_if_le {x : Int32} {off : Int} {tgt : Nat} (hd : gj y pc (.ifCond .le off) off pc2 tgt) (kt : x ≤ 0 → Go G y d mc ms Q kc ks tgt ls st f n) (kf : ¬ x ≤ 0 → Go G y d mc ms Q kc ks pc2 ls st f n) : Go G y d mc ms Q kc ks pc ls (.int x :: st) f n := by
  obtain ⟨hd, rfl, ht⟩ := hd
  intro p e s m args below meth c C H locs la hP hS hl
  exact lv_if_le C.1 C.2.1 hd ht (fun h => kt h p e s m args below meth c C H locs la hP hS hl) (fun h => kf h p e s m args below meth c C H locs la hP hS hl)
theorem go_icmp_le {x z : Int32} {off : Int} {tgt : Nat} (hd : gj y pc (.if_icmp .le off) off pc2 tgt) (kt : x ≤ z → Go G y d mc ms Q kc ks tgt ls st f n) (kf : ¬ x ≤ z → Go G y d mc ms Q kc ks pc2 ls st f n) : Go G y d mc ms Q kc ks pc ls (.int z :: .int x :: st) f n := by
  obtain ⟨hd, rfl, ht⟩ := hd
  intro p e s m args below meth c C H locs la hP hS hl
  exact lv_icmp_le C.1 C.2.1 hd ht (fun h => kt h p e s m args below meth c C H locs la hP hS hl) (fun h => kf h p e s m args below meth c C H locs la hP hS hl)
theorem go_goto {off : Int} {tgt : Nat} (hd : gj y pc (.goto off) off pc2 tgt) (k : Go G y d mc ms Q kc ks tgt ls st f n) : Go G y d mc ms Q kc ks pc ls st f n := by
  obtain ⟨hd, rfl, ht⟩ := hd
  intro p e s m args below meth c C H locs la hP hS hl
  exact lv_goto C.1 C.2.1 hd ht (k p e s m args below meth c C H locs la hP hS hl)
theorem go_ifnonnull {x : Nat} {off : Int} {tgt : Nat} (hd : gj y pc (.ifnonnull off) off pc2 tgt) (k : Go G y d mc ms Q kc ks tgt ls st f n) : Go G y d mc ms Q kc ks pc ls (.ref x :: st) f n := by
  obtain ⟨hd, rfl, ht⟩ := hd
  intro p e s m args below meth c C H locs la hP hS hl
  exact lv_ifnonnull C.1 C.2.1 hd ht (k p e s m args below meth c C H locs la hP hS hl)
theorem go_ifnull {x : Nat} {off : Int} {tgt : Nat} (hd : gj y pc (.ifnull off) off pc2 tgt) (k : Go G y d mc ms Q kc ks pc2 ls st f n) : Go G y d mc ms Q kc ks pc ls (.ref x :: st) f n := by
  obtain ⟨hd, rfl, ht⟩ := hd
  intro p e s m args below meth c C H locs la hP hS hl
  exact lv_ifnull C.1 C.2.1 hd (k p e s m args below meth c C H locs la hP hS hl)
theorem go_ifnullN {off : Int} {tgt : Nat} (hd : gj y pc (.ifnull off) off pc2 tgt) (k : Go G y d mc ms Q kc ks tgt ls st f n) : Go G y d mc ms Q kc ks pc ls (.null :: st) f n := by
  obtain ⟨hd, rfl, ht⟩ := hd
  intro p e s m args below meth c C H locs la hP hS hl
  exact lv_ifnullN C.1 C.2.1 hd ht (k p e s m args below meth c C H locs la hP hS hl)
theorem go_ifnonnullN {off : Int} {tgt : Nat} (hd : gj y pc (.ifnonnull off) off pc2 tgt) (k : Go G y d mc ms Q kc ks pc2 ls st f n) : Go G y d mc ms Q kc ks pc ls (.null :: st) f n := by
  obtain ⟨hd, rfl, ht⟩ := hd
  intro p e s m args below meth c C H locs la hP hS hl
  exact lv_ifnonnullN C.1 C.2.1 hd (k p e s m args below meth c C H locs la hP hS hl)
theorem go_ldc {i : Nat} {v : Int32} (hd : gd y pc (.ldc i) 2 pc2) (hw : Cond.constant y.1.cls i v ∈ gT) (k : Go G y d mc ms Q kc ks pc2 ls (.int v :: st) f n) : Go G y d mc ms Q kc ks pc ls st f n := by
  obtain ⟨hd, rfl⟩ := hd
  intro p e s m args below meth c C H locs la hP hS hl
  exact lv_ldc C.1 C.2.1 C.2.2.2.1 (C.2.2.2.2.1 _ (List.mem_cons_of_mem _ hw)) hd (k p e s m args below meth c C H locs la hP hS hl)
theorem go_ldcw {i : Nat} {v : Int32} (hd : gd y pc (.ldc_w i) 3 pc2) (hw : Cond.constant y.1.cls i v ∈ gT) (k : Go G y d mc ms Q kc ks pc2 ls (.int v :: st) f n) : Go G y d mc ms Q kc ks pc ls st f n := by
  obtain ⟨hd, rfl⟩ := hd
  intro p e s m args below meth c C H locs la hP hS hl
  exact lv_ldcw C.1 C.2.1 C.2.2.2.1 (C.2.2.2.2.1 _ (List.mem_cons_of_mem _ hw)) hd (k p e s m args below meth c C H locs la hP hS hl)
theorem go_ldc2 {i : Nat} {v : Int64} (hd : gd y pc (.ldc2_w i) 3 pc2) (hw : Cond.constantLong y.1.cls i v ∈ gT) (k : Go G y d mc ms Q kc ks pc2 ls (.long v :: st) f n) : Go G y d mc ms Q kc ks pc ls st f n := by
  obtain ⟨hd, rfl⟩ := hd
  intro p e s m args below meth c C H locs la hP hS hl
  exact lv_ldc2 C.1 C.2.1 C.2.2.2.1 (C.2.2.2.2.1 _ (List.mem_cons_of_mem _ hw)) hd (k p e s m args below meth c C H locs la hP hS hl)
theorem go_tableOut {dflt lo hi : Int} {offs : Array Int} {len : Nat} {x : Int32} {tgt : Nat} (hd : decode y.2.1 pc = .ok (.tableswitch dflt lo hi offs, len)) (h : x.toInt < lo ∨ hi < x.toInt) (ht : (pc : Int) + dflt = (tgt : Int)) (k : Go G y d mc ms Q kc ks tgt ls st f n) : Go G y d mc ms Q kc ks pc ls (.int x :: st) f n := by
  intro p e s m args below meth c C H locs la hP hS hl
  exact lv_tableOut C.1 C.2.1 hd h ht (k p e s m args below meth c C H locs la hP hS hl)
theorem go_tableIn {dflt lo hi : Int} {offs : Array Int} {len : Nat} {x : Int32} {off : Int} {tgt : Nat} (hd : decode y.2.1 pc = .ok (.tableswitch dflt lo hi offs, len)) (h1 : ¬ x.toInt < lo) (h2 : ¬ hi < x.toInt) (ho : offs[(x.toInt - lo).toNat]? = some off) (ht : (pc : Int) + off = (tgt : Int)) (k : Go G y d mc ms Q kc ks tgt ls st f n) : Go G y d mc ms Q kc ks pc ls (.int x :: st) f n := by
  intro p e s m args below meth c C H locs la hP hS hl
  exact lv_tableIn C.1 C.2.1 hd h1 h2 ho ht (k p e s m args below meth c C H locs la hP hS hl)
theorem go_lookup {dflt : Int} {ps : Array (Int × Int)} {len : Nat} {x : Int32} {off : Int} {tgt : Nat} (hd : decode y.2.1 pc = .ok (.lookupswitch dflt ps, len)) (hp : (ps.toList.zip (ps.toList.drop 1)).all (fun (a, next) => a.1 < next.1) = true) (ho : Op.lookupswitch.offset ps.toList dflt x.toInt = off) (ht : (pc : Int) + off = (tgt : Int)) (k : Go G y d mc ms Q kc ks tgt ls st f n) : Go G y d mc ms Q kc ks pc ls (.int x :: st) f n := by
  intro p e s m args below meth c C H locs la hP hS hl
  exact lv_lookup C.1 C.2.1 hd hp ho ht (k p e s m args below meth c C H locs la hP hS hl)
theorem go_weak (hs : gsub ls' ls) (k : Go G y d mc ms Q kc ks pc ls' st f n) : Go G y d mc ms Q kc ks pc ls st f n := by
  intro p e s m args below meth c C H locs la hP hS hl
  exact k p e s m args below meth c C H locs la hP hS (gl_sub hl hs)
theorem go_widen {kc' ks' : Nat} (h1 : kc ≤ kc') (h2 : ks ≤ ks') (k : Go G y d mc ms Q kc' ks' pc ls st f n) : Go G y d mc ms Q kc ks pc ls st f n := by
  intro p e s m args below meth c C H locs la hP hS hl
  exact W.widen h1 h2 (k p e s m args below meth c C H locs la hP hS hl)
end GOROWS
