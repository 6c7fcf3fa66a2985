/-! The walk in my own words: J says 'from any heap that holds the world w, with these locals and this stack, the method at pc comes to Q'. What stays the same through a body is jC. -/
section JB
def jC (p : Program) (s : State) (m : MethodId) (args : Array Value) (meth : Method) (c : Code) (cc : ByteArray) (nL : Nat) (own : String) (Ts : List Cond) (D : va_G) (cl : List vw_C) (tys : List (ClassId × FieldType)) (A : Nat → Prop) : Prop :=
  p.tables.exec = Jvm.exec ∧ c.code = cc ∧ c.maxLocals = nL ∧ s.vm.findClass own = some m.cls ∧ (∀ w ∈ Ts, w.before args s = true) ∧ va_K D cl tys s ∧ (∀ q : Nat, s.heap.size ≤ q → A q) ∧ meth.locks = false ∧ GoodIn Ts Ts
def J (p : Program) (l : Launch) (e : Env) (R : Room) (s : State) (m : MethodId) (args : Array Value) (below : List Frame) (meth : Method) (c : Code) (D : va_G) (cl : List vw_C) (A : Nat → Prop) (nL cells slots : Nat) (Q : State → Prop) (w : va_W) (pc : Nat) (lv : List (Nat × Value)) (st : List Value) : Prop :=
  ∀ (H : Heap) (locs : List Loc) (ls : Array Slot), va_P D cl w H → va_D A w → va_S A s.heap H locs → lv_has ls nL lv → W p l e R s m args below meth c H locs cells slots Q (F0 m pc ls st)
variable {p : Program} {l : Launch} {e : Env} {R : Room} {s : State} {m : MethodId} {args : Array Value} {below : List Frame} {meth : Method} {c : Code} {cc : ByteArray} {nL : Nat} {own : String} {Ts : List Cond} {D : va_G} {cl : List vw_C} {tys : List (ClassId × FieldType)} {A : Nat → Prop} {cells slots : Nat} {Q : State → Prop} {w : va_W} {pc : Nat} {lv : List (Nat × Value)} {st : List Value}
theorem j_world {w' : va_W} (hw : w = w') (kk : J p l e R s m args below meth c D cl A nL cells slots Q w' pc lv st) : J p l e R s m args below meth c D cl A nL cells slots Q w pc lv st := by subst hw; exact kk
theorem j_lv {lv' : List (Nat × Value)} (ks : List Nat) (hl : lv_pick lv ks = lv') (kk : J p l e R s m args below meth c D cl A nL cells slots Q w pc lv' st) : J p l e R s m args below meth c D cl A nL cells slots Q w pc lv st :=
  fun H locs ls hP hD hS h => kk H locs ls hP hD hS (lv_sub h ks hl)
theorem j_eqi {v v' : Int32} (hv : v = v') (kk : J p l e R s m args below meth c D cl A nL cells slots Q w pc lv (.int v' :: st)) : J p l e R s m args below meth c D cl A nL cells slots Q w pc lv (.int v :: st) := by subst hv; exact kk
theorem j_widen {k n : Nat} (h1 : cells ≤ k) (h2 : slots ≤ n) (kk : J p l e R s m args below meth c D cl A nL k n Q w pc lv st) : J p l e R s m args below meth c D cl A nL cells slots Q w pc lv st :=
  fun H locs ls hP hD hS h => W.widen h1 h2 (kk H locs ls hP hD hS h)
theorem j_iconst (h : jC p s m args meth c cc nL own Ts D cl tys A) {n : Int} {v : Int32} (hd : decode cc pc = .ok (.iconst n, 1)) (hv : Int32.ofInt n = v) (kk : J p l e R s m args below meth c D cl A nL cells slots Q w (pc + 1) lv (.int v :: st)) : J p l e R s m args below meth c D cl A nL cells slots Q w pc lv st :=
  fun H locs ls hP hD hS hl => lv_iconst h.1 h.2.1 hd hv (kk H locs ls hP hD hS hl)
theorem j_bipush (h : jC p s m args meth c cc nL own Ts D cl tys A) {n : Int} {v : Int32} (hd : decode cc pc = .ok (.bipush n, 2)) (hv : (Int8.ofInt n).toInt32 = v) (kk : J p l e R s m args below meth c D cl A nL cells slots Q w (pc + 2) lv (.int v :: st)) : J p l e R s m args below meth c D cl A nL cells slots Q w pc lv st :=
  fun H locs ls hP hD hS hl => lv_bipush h.1 h.2.1 hd hv (kk H locs ls hP hD hS hl)
theorem j_sipush (h : jC p s m args meth c cc nL own Ts D cl tys A) {n : Int} {v : Int32} (hd : decode cc pc = .ok (.sipush n, 3)) (hv : (Int16.ofInt n).toInt32 = v) (kk : J p l e R s m args below meth c D cl A nL cells slots Q w (pc + 3) lv (.int v :: st)) : J p l e R s m args below meth c D cl A nL cells slots Q w pc lv st :=
  fun H locs ls hP hD hS hl => lv_sipush h.1 h.2.1 hd hv (kk H locs ls hP hD hS hl)
theorem j_lconst (h : jC p s m args meth c cc nL own Ts D cl tys A) {n : Fin 2} {v : Int64} (hd : decode cc pc = .ok (.lconst n, 1)) (hv : Int64.ofNat (n : Nat) = v) (kk : J p l e R s m args below meth c D cl A nL cells slots Q w (pc + 1) lv (.long v :: st)) : J p l e R s m args below meth c D cl A nL cells slots Q w pc lv st :=
  fun H locs ls hP hD hS hl => lv_lconst h.1 h.2.1 hd hv (kk H locs ls hP hD hS hl)
theorem j_iload_n (h : jC p s m args meth c cc nL own Ts D cl tys A) (j : Nat) {k : Fin 4} {i : Nat} {x : Int32} (hd : decode cc pc = .ok (.iload_n k, 1)) (hi : (k : Nat) = i) (hj : lv[j]? = some (i, .int x)) (kk : J p l e R s m args below meth c D cl A nL cells slots Q w (pc + 1) lv (.int x :: st)) : J p l e R s m args below meth c D cl A nL cells slots Q w pc lv st :=
  fun H locs ls hP hD hS hl => lv_iload_n h.1 h.2.1 hd hi (lv_at hl j hj) (kk H locs ls hP hD hS hl)
theorem j_iload (h : jC p s m args meth c cc nL own Ts D cl tys A) (j : Nat) {i : Nat} {x : Int32} (hd : decode cc pc = .ok (.iload i, 2)) (hj : lv[j]? = some (i, .int x)) (kk : J p l e R s m args below meth c D cl A nL cells slots Q w (pc + 2) lv (.int x :: st)) : J p l e R s m args below meth c D cl A nL cells slots Q w pc lv st :=
  fun H locs ls hP hD hS hl => lv_iload h.1 h.2.1 hd (lv_at hl j hj) (kk H locs ls hP hD hS hl)
theorem j_aload_n (h : jC p s m args meth c cc nL own Ts D cl tys A) (j : Nat) {k : Fin 4} {i x : Nat} (hd : decode cc pc = .ok (.aload_n k, 1)) (hi : (k : Nat) = i) (hj : lv[j]? = some (i, .ref x)) (kk : J p l e R s m args below meth c D cl A nL cells slots Q w (pc + 1) lv (.ref x :: st)) : J p l e R s m args below meth c D cl A nL cells slots Q w pc lv st :=
  fun H locs ls hP hD hS hl => lv_aload_n h.1 h.2.1 hd hi (lv_at hl j hj) (kk H locs ls hP hD hS hl)
theorem j_aload (h : jC p s m args meth c cc nL own Ts D cl tys A) (j : Nat) {i x : Nat} (hd : decode cc pc = .ok (.aload i, 2)) (hj : lv[j]? = some (i, .ref x)) (kk : J p l e R s m args below meth c D cl A nL cells slots Q w (pc + 2) lv (.ref x :: st)) : J p l e R s m args below meth c D cl A nL cells slots Q w pc lv st :=
  fun H locs ls hP hD hS hl => lv_aload h.1 h.2.1 hd (lv_at hl j hj) (kk H locs ls hP hD hS hl)
theorem j_istore_n (h : jC p s m args meth c cc nL own Ts D cl tys A) {k : Fin 4} {i : Nat} {x : Int32} {lv' : List (Nat × Value)} (hd : decode cc pc = .ok (.istore_n k, 1)) (hi : (k : Nat) = i) (hn : i < nL) (hv : (i, Value.int x) :: lv.filter (fun q => !(q.1 == i) && !(q.1 + 1 == i && q.2.category == 2)) = lv') (kk : J p l e R s m args below meth c D cl A nL cells slots Q w (pc + 1) lv' st) : J p l e R s m args below meth c D cl A nL cells slots Q w pc lv (.int x :: st) :=
  fun H locs ls hP hD hS hl => lv_istore_n h.1 h.2.1 hd hi hl hn hv (fun ls' hl' => kk H locs ls' hP hD hS hl')
theorem j_istore (h : jC p s m args meth c cc nL own Ts D cl tys A) {i : Nat} {x : Int32} {lv' : List (Nat × Value)} (hd : decode cc pc = .ok (.istore i, 2)) (hn : i < nL) (hv : (i, Value.int x) :: lv.filter (fun q => !(q.1 == i) && !(q.1 + 1 == i && q.2.category == 2)) = lv') (kk : J p l e R s m args below meth c D cl A nL cells slots Q w (pc + 2) lv' st) : J p l e R s m args below meth c D cl A nL cells slots Q w pc lv (.int x :: st) :=
  fun H locs ls hP hD hS hl => lv_istore h.1 h.2.1 hd hl hn hv (fun ls' hl' => kk H locs ls' hP hD hS hl')
theorem j_astore_n (h : jC p s m args meth c cc nL own Ts D cl tys A) {k : Fin 4} {i x : Nat} {lv' : List (Nat × Value)} (hd : decode cc pc = .ok (.astore_n k, 1)) (hi : (k : Nat) = i) (hn : i < nL) (hv : (i, Value.ref x) :: lv.filter (fun q => !(q.1 == i) && !(q.1 + 1 == i && q.2.category == 2)) = lv') (kk : J p l e R s m args below meth c D cl A nL cells slots Q w (pc + 1) lv' st) : J p l e R s m args below meth c D cl A nL cells slots Q w pc lv (.ref x :: st) :=
  fun H locs ls hP hD hS hl => lv_astore_n h.1 h.2.1 hd hi hl hn hv (fun ls' hl' => kk H locs ls' hP hD hS hl')
theorem j_astore (h : jC p s m args meth c cc nL own Ts D cl tys A) {i x : Nat} {lv' : List (Nat × Value)} (hd : decode cc pc = .ok (.astore i, 2)) (hn : i < nL) (hv : (i, Value.ref x) :: lv.filter (fun q => !(q.1 == i) && !(q.1 + 1 == i && q.2.category == 2)) = lv') (kk : J p l e R s m args below meth c D cl A nL cells slots Q w (pc + 2) lv' st) : J p l e R s m args below meth c D cl A nL cells slots Q w pc lv (.ref x :: st) :=
  fun H locs ls hP hD hS hl => lv_astore h.1 h.2.1 hd hl hn hv (fun ls' hl' => kk H locs ls' hP hD hS hl')
theorem j_iinc (h : jC p s m args meth c cc nL own Ts D cl tys A) (j : Nat) {i : Nat} {n : Int} {x v : Int32} {lv' : List (Nat × Value)} (hd : decode cc pc = .ok (.iinc i n, 3)) (hj : lv[j]? = some (i, .int x)) (hx : x + Int32.ofInt n = v) (hn : i < nL) (hv : (i, Value.int v) :: lv.filter (fun q => !(q.1 == i) && !(q.1 + 1 == i && q.2.category == 2)) = lv') (kk : J p l e R s m args below meth c D cl A nL cells slots Q w (pc + 3) lv' st) : J p l e R s m args below meth c D cl A nL cells slots Q w pc lv st :=
  fun H locs ls hP hD hS hl => lv_iinc h.1 h.2.1 hd hl hj hx hn hv (fun ls' hl' => kk H locs ls' hP hD hS hl')
theorem j_iadd (h : jC p s m args meth c cc nL own Ts D cl tys A) {x y : Int32} (hd : decode cc pc = .ok (.iadd, 1)) (kk : J p l e R s m args below meth c D cl A nL cells slots Q w (pc + 1) lv (.int (x + y) :: st)) : J p l e R s m args below meth c D cl A nL cells slots Q w pc lv (.int y :: .int x :: st) :=
  fun H locs ls hP hD hS hl => lv_iadd h.1 h.2.1 hd (kk H locs ls hP hD hS hl)
theorem j_isub (h : jC p s m args meth c cc nL own Ts D cl tys A) {x y : Int32} (hd : decode cc pc = .ok (.isub, 1)) (kk : J p l e R s m args below meth c D cl A nL cells slots Q w (pc + 1) lv (.int (x - y) :: st)) : J p l e R s m args below meth c D cl A nL cells slots Q w pc lv (.int y :: .int x :: st) :=
  fun H locs ls hP hD hS hl => lv_isub h.1 h.2.1 hd (kk H locs ls hP hD hS hl)
theorem j_imul (h : jC p s m args meth c cc nL own Ts D cl tys A) {x y : Int32} (hd : decode cc pc = .ok (.imul, 1)) (kk : J p l e R s m args below meth c D cl A nL cells slots Q w (pc + 1) lv (.int (x * y) :: st)) : J p l e R s m args below meth c D cl A nL cells slots Q w pc lv (.int y :: .int x :: st) :=
  fun H locs ls hP hD hS hl => lv_imul h.1 h.2.1 hd (kk H locs ls hP hD hS hl)
theorem j_iand (h : jC p s m args meth c cc nL own Ts D cl tys A) {x y : Int32} (hd : decode cc pc = .ok (.iand, 1)) (kk : J p l e R s m args below meth c D cl A nL cells slots Q w (pc + 1) lv (.int (x &&& y) :: st)) : J p l e R s m args below meth c D cl A nL cells slots Q w pc lv (.int y :: .int x :: st) :=
  fun H locs ls hP hD hS hl => lv_iand h.1 h.2.1 hd (kk H locs ls hP hD hS hl)
theorem j_ixor (h : jC p s m args meth c cc nL own Ts D cl tys A) {x y : Int32} (hd : decode cc pc = .ok (.ixor, 1)) (kk : J p l e R s m args below meth c D cl A nL cells slots Q w (pc + 1) lv (.int (x ^^^ y) :: st)) : J p l e R s m args below meth c D cl A nL cells slots Q w pc lv (.int y :: .int x :: st) :=
  fun H locs ls hP hD hS hl => lv_ixor h.1 h.2.1 hd (kk H locs ls hP hD hS hl)
theorem j_irem (h : jC p s m args meth c cc nL own Ts D cl tys A) {x y : Int32} (hd : decode cc pc = .ok (.irem, 1)) (hne : ¬ y = 0) (kk : J p l e R s m args below meth c D cl A nL cells slots Q w (pc + 1) lv (.int (x - x / y * y) :: st)) : J p l e R s m args below meth c D cl A nL cells slots Q w pc lv (.int y :: .int x :: st) :=
  fun H locs ls hP hD hS hl => lv_irem h.1 h.2.1 hd hne (kk H locs ls hP hD hS hl)
theorem j_i2l (h : jC p s m args meth c cc nL own Ts D cl tys A) {x : Int32} {v : Int64} (hd : decode cc pc = .ok (.i2l, 1)) (hv : x.toInt64 = v) (kk : J p l e R s m args below meth c D cl A nL cells slots Q w (pc + 1) lv (.long v :: st)) : J p l e R s m args below meth c D cl A nL cells slots Q w pc lv (.int x :: st) :=
  fun H locs ls hP hD hS hl => lv_i2l h.1 h.2.1 hd hv (kk H locs ls hP hD hS hl)
theorem j_dup (h : jC p s m args meth c cc nL own Ts D cl tys A) {va : Value} (hd : decode cc pc = .ok (.dup, 1)) (hva : va.category = 1) (kk : J p l e R s m args below meth c D cl A nL cells slots Q w (pc + 1) lv (va :: va :: st)) : J p l e R s m args below meth c D cl A nL cells slots Q w pc lv (va :: st) :=
  fun H locs ls hP hD hS hl => lv_dup h.1 h.2.1 hd hva (kk H locs ls hP hD hS hl)
theorem j_pop (h : jC p s m args meth c cc nL own Ts D cl tys A) {va : Value} (hd : decode cc pc = .ok (.pop, 1)) (hva : va.category = 1) (kk : J p l e R s m args below meth c D cl A nL cells slots Q w (pc + 1) lv st) : J p l e R s m args below meth c D cl A nL cells slots Q w pc lv (va :: st) :=
  fun H locs ls hP hD hS hl => lv_pop h.1 h.2.1 hd hva (kk H locs ls hP hD hS hl)
theorem j_dup2 (h : jC p s m args meth c cc nL own Ts D cl tys A) {va vb : Value} (hd : decode cc pc = .ok (.dup2, 1)) (hva : va.category = 1) (hvb : vb.category = 1) (kk : J p l e R s m args below meth c D cl A nL cells slots Q w (pc + 1) lv (va :: vb :: va :: vb :: st)) : J p l e R s m args below meth c D cl A nL cells slots Q w pc lv (va :: vb :: st) :=
  fun H locs ls hP hD hS hl => lv_dup2_11 h.1 h.2.1 hd hva hvb (kk H locs ls hP hD hS hl)
theorem j_dup_x1 (h : jC p s m args meth c cc nL own Ts D cl tys A) {va vb : Value} (hd : decode cc pc = .ok (.dup_x1, 1)) (hva : va.category = 1) (hvb : vb.category = 1) (kk : J p l e R s m args below meth c D cl A nL cells slots Q w (pc + 1) lv (va :: vb :: va :: st)) : J p l e R s m args below meth c D cl A nL cells slots Q w pc lv (va :: vb :: st) :=
  fun H locs ls hP hD hS hl => lv_dup_x1 h.1 h.2.1 hd hva hvb (kk H locs ls hP hD hS hl)
theorem j_goto (h : jC p s m args meth c cc nL own Ts D cl tys A) {off : Int} {tgt : Nat} (hd : decode cc pc = .ok (.goto off, 3)) (ht : (pc : Int) + off = (tgt : Int)) (kk : J p l e R s m args below meth c D cl A nL cells slots Q w tgt lv st) : J p l e R s m args below meth c D cl A nL cells slots Q w pc lv st :=
  fun H locs ls hP hD hS hl => lv_goto h.1 h.2.1 hd ht (kk H locs ls hP hD hS hl)
theorem j_if_eq (h : jC p s m args meth c cc nL own Ts D cl tys A) {x : Int32} {off : Int} {tgt : Nat} (hd : decode cc pc = .ok (.ifCond .eq off, 3)) (ht : (pc : Int) + off = (tgt : Int)) (kt : x = 0 → J p l e R s m args below meth c D cl A nL cells slots Q w tgt lv st) (kf : ¬ x = 0 → J p l e R s m args below meth c D cl A nL cells slots Q w (pc + 3) lv st) : J p l e R s m args below meth c D cl A nL cells slots Q w pc lv (.int x :: st) :=
  fun H locs ls hP hD hS hl => lv_if_eq h.1 h.2.1 hd ht (fun q => kt q H locs ls hP hD hS hl) (fun q => kf q H locs ls hP hD hS hl)
theorem j_if_ne (h : jC p s m args meth c cc nL own Ts D cl tys A) {x : Int32} {off : Int} {tgt : Nat} (hd : decode cc pc = .ok (.ifCond .ne off, 3)) (ht : (pc : Int) + off = (tgt : Int)) (kt : ¬ x = 0 → J p l e R s m args below meth c D cl A nL cells slots Q w tgt lv st) (kf : x = 0 → J p l e R s m args below meth c D cl A nL cells slots Q w (pc + 3) lv st) : J p l e R s m args below meth c D cl A nL cells slots Q w pc lv (.int x :: st) :=
  fun H locs ls hP hD hS hl => lv_if_ne h.1 h.2.1 hd ht (fun q => kt q H locs ls hP hD hS hl) (fun q => kf q H locs ls hP hD hS hl)
theorem j_if_lt (h : jC p s m args meth c cc nL own Ts D cl tys A) {x : Int32} {off : Int} {tgt : Nat} (hd : decode cc pc = .ok (.ifCond .lt off, 3)) (ht : (pc : Int) + off = (tgt : Int)) (kt : x < 0 → J p l e R s m args below meth c D cl A nL cells slots Q w tgt lv st) (kf : ¬ x < 0 → J p l e R s m args below meth c D cl A nL cells slots Q w (pc + 3) lv st) : J p l e R s m args below meth c D cl A nL cells slots Q w pc lv (.int x :: st) :=
  fun H locs ls hP hD hS hl => lv_if_lt h.1 h.2.1 hd ht (fun q => kt q H locs ls hP hD hS hl) (fun q => kf q H locs ls hP hD hS hl)
theorem j_if_ge (h : jC p s m args meth c cc nL own Ts D cl tys A) {x : Int32} {off : Int} {tgt : Nat} (hd : decode cc pc = .ok (.ifCond .ge off, 3)) (ht : (pc : Int) + off = (tgt : Int)) (kt : 0 ≤ x → J p l e R s m args below meth c D cl A nL cells slots Q w tgt lv st) (kf : ¬ 0 ≤ x → J p l e R s m args below meth c D cl A nL cells slots Q w (pc + 3) lv st) : J p l e R s m args below meth c D cl A nL cells slots Q w pc lv (.int x :: st) :=
  fun H locs ls hP hD hS hl => lv_if_ge h.1 h.2.1 hd ht (fun q => kt q H locs ls hP hD hS hl) (fun q => kf q H locs ls hP hD hS hl)
theorem j_if_gt (h : jC p s m args meth c cc nL own Ts D cl tys A) {x : Int32} {off : Int} {tgt : Nat} (hd : decode cc pc = .ok (.ifCond .gt off, 3)) (ht : (pc : Int) + off = (tgt : Int)) (kt : 0 < x → J p l e R s m args below meth c D cl A nL cells slots Q w tgt lv st) (kf : ¬ 0 < x → J p l e R s m args below meth c D cl A nL cells slots Q w (pc + 3) lv st) : J p l e R s m args below meth c D cl A nL cells slots Q w pc lv (.int x :: st) :=
  fun H locs ls hP hD hS hl => lv_if_gt h.1 h.2.1 hd ht (fun q => kt q H locs ls hP hD hS hl) (fun q => kf q H locs ls hP hD hS hl)
theorem j_if_le (h : jC p s m args meth c cc nL own Ts D cl tys A) {x : Int32} {off : Int} {tgt : Nat} (hd : decode cc pc = .ok (.ifCond .le off, 3)) (ht : (pc : Int) + off = (tgt : Int)) (kt : x ≤ 0 → J p l e R s m args below meth c D cl A nL cells slots Q w tgt lv st) (kf : ¬ x ≤ 0 → J p l e R s m args below meth c D cl A nL cells slots Q w (pc + 3) lv st) : J p l e R s m args below meth c D cl A nL cells slots Q w pc lv (.int x :: st) :=
  fun H locs ls hP hD hS hl => lv_if_le h.1 h.2.1 hd ht (fun q => kt q H locs ls hP hD hS hl) (fun q => kf q H locs ls hP hD hS hl)
theorem j_icmp_eq (h : jC p s m args meth c cc nL own Ts D cl tys A) {x y : Int32} {off : Int} {tgt : Nat} (hd : decode cc pc = .ok (.if_icmp .eq off, 3)) (ht : (pc : Int) + off = (tgt : Int)) (kt : x = y → J p l e R s m args below meth c D cl A nL cells slots Q w tgt lv st) (kf : ¬ x = y → J p l e R s m args below meth c D cl A nL cells slots Q w (pc + 3) lv st) : J p l e R s m args below meth c D cl A nL cells slots Q w pc lv (.int y :: .int x :: st) :=
  fun H locs ls hP hD hS hl => lv_icmp_eq h.1 h.2.1 hd ht (fun q => kt q H locs ls hP hD hS hl) (fun q => kf q H locs ls hP hD hS hl)
theorem j_icmp_ne (h : jC p s m args meth c cc nL own Ts D cl tys A) {x y : Int32} {off : Int} {tgt : Nat} (hd : decode cc pc = .ok (.if_icmp .ne off, 3)) (ht : (pc : Int) + off = (tgt : Int)) (kt : ¬ x = y → J p l e R s m args below meth c D cl A nL cells slots Q w tgt lv st) (kf : x = y → J p l e R s m args below meth c D cl A nL cells slots Q w (pc + 3) lv st) : J p l e R s m args below meth c D cl A nL cells slots Q w pc lv (.int y :: .int x :: st) :=
  fun H locs ls hP hD hS hl => lv_icmp_ne h.1 h.2.1 hd ht (fun q => kt q H locs ls hP hD hS hl) (fun q => kf q H locs ls hP hD hS hl)
theorem j_icmp_lt (h : jC p s m args meth c cc nL own Ts D cl tys A) {x y : Int32} {off : Int} {tgt : Nat} (hd : decode cc pc = .ok (.if_icmp .lt off, 3)) (ht : (pc : Int) + off = (tgt : Int)) (kt : x < y → J p l e R s m args below meth c D cl A nL cells slots Q w tgt lv st) (kf : ¬ x < y → J p l e R s m args below meth c D cl A nL cells slots Q w (pc + 3) lv st) : J p l e R s m args below meth c D cl A nL cells slots Q w pc lv (.int y :: .int x :: st) :=
  fun H locs ls hP hD hS hl => lv_icmp_lt h.1 h.2.1 hd ht (fun q => kt q H locs ls hP hD hS hl) (fun q => kf q H locs ls hP hD hS hl)
theorem j_icmp_ge (h : jC p s m args meth c cc nL own Ts D cl tys A) {x y : Int32} {off : Int} {tgt : Nat} (hd : decode cc pc = .ok (.if_icmp .ge off, 3)) (ht : (pc : Int) + off = (tgt : Int)) (kt : y ≤ x → J p l e R s m args below meth c D cl A nL cells slots Q w tgt lv st) (kf : ¬ y ≤ x → J p l e R s m args below meth c D cl A nL cells slots Q w (pc + 3) lv st) : J p l e R s m args below meth c D cl A nL cells slots Q w pc lv (.int y :: .int x :: st) :=
  fun H locs ls hP hD hS hl => lv_icmp_ge h.1 h.2.1 hd ht (fun q => kt q H locs ls hP hD hS hl) (fun q => kf q H locs ls hP hD hS hl)
theorem j_icmp_gt (h : jC p s m args meth c cc nL own Ts D cl tys A) {x y : Int32} {off : Int} {tgt : Nat} (hd : decode cc pc = .ok (.if_icmp .gt off, 3)) (ht : (pc : Int) + off = (tgt : Int)) (kt : y < x → J p l e R s m args below meth c D cl A nL cells slots Q w tgt lv st) (kf : ¬ y < x → J p l e R s m args below meth c D cl A nL cells slots Q w (pc + 3) lv st) : J p l e R s m args below meth c D cl A nL cells slots Q w pc lv (.int y :: .int x :: st) :=
  fun H locs ls hP hD hS hl => lv_icmp_gt h.1 h.2.1 hd ht (fun q => kt q H locs ls hP hD hS hl) (fun q => kf q H locs ls hP hD hS hl)
theorem j_icmp_le (h : jC p s m args meth c cc nL own Ts D cl tys A) {x y : Int32} {off : Int} {tgt : Nat} (hd : decode cc pc = .ok (.if_icmp .le off, 3)) (ht : (pc : Int) + off = (tgt : Int)) (kt : x ≤ y → J p l e R s m args below meth c D cl A nL cells slots Q w tgt lv st) (kf : ¬ x ≤ y → J p l e R s m args below meth c D cl A nL cells slots Q w (pc + 3) lv st) : J p l e R s m args below meth c D cl A nL cells slots Q w pc lv (.int y :: .int x :: st) :=
  fun H locs ls hP hD hS hl => lv_icmp_le h.1 h.2.1 hd ht (fun q => kt q H locs ls hP hD hS hl) (fun q => kf q H locs ls hP hD hS hl)
theorem j_tableOut (h : jC p s m args meth c cc nL own Ts D cl tys A) {dflt lo hi : Int} {offs : Array Int} {len : Nat} {x : Int32} {tgt : Nat} (hd : decode cc pc = .ok (.tableswitch dflt lo hi offs, len)) (hx : x.toInt < lo ∨ hi < x.toInt) (ht : (pc : Int) + dflt = (tgt : Int)) (kk : J p l e R s m args below meth c D cl A nL cells slots Q w tgt lv st) : J p l e R s m args below meth c D cl A nL cells slots Q w pc lv (.int x :: st) :=
  fun H locs ls hP hD hS hl => lv_tableOut h.1 h.2.1 hd hx ht (kk H locs ls hP hD hS hl)
theorem j_tableIn (h : jC p s m args meth c cc nL own Ts D cl tys A) {dflt lo hi : Int} {offs : Array Int} {len : Nat} {x : Int32} {off : Int} {tgt : Nat} (hd : decode cc pc = .ok (.tableswitch dflt lo hi offs, len)) (h1 : ¬ x.toInt < lo) (h2 : ¬ hi < x.toInt) (ho : offs[(x.toInt - lo).toNat]? = some off) (ht : (pc : Int) + off = (tgt : Int)) (kk : J p l e R s m args below meth c D cl A nL cells slots Q w tgt lv st) : J p l e R s m args below meth c D cl A nL cells slots Q w pc lv (.int x :: st) :=
  fun H locs ls hP hD hS hl => lv_tableIn h.1 h.2.1 hd h1 h2 ho ht (kk H locs ls hP hD hS hl)
theorem j_lookup (h : jC p s m args meth c cc nL own Ts D cl tys A) {dflt : Int} {ps : Array (Int × Int)} {len : Nat} {x : Int32} {off : Int} {tgt : Nat} (hd : decode cc pc = .ok (.lookupswitch dflt ps, len)) (hp : (ps.toList.zip (ps.toList.drop 1)).all (fun (a, next) => a.1 < next.1) = true) (ho : Op.lookupswitch.offset ps.toList dflt x.toInt = off) (ht : (pc : Int) + off = (tgt : Int)) (kk : J p l e R s m args below meth c D cl A nL cells slots Q w tgt lv st) : J p l e R s m args below meth c D cl A nL cells slots Q w pc lv (.int x :: st) :=
  fun H locs ls hP hD hS hl => lv_lookup h.1 h.2.1 hd hp ho ht (kk H locs ls hP hD hS hl)
theorem j_get (h : jC p s m args meth c cc nL own Ts D cl tys A) {ref C : String} {T : u_T} {N ci index a : Nat} (hin : ∀ w ∈ u_ws C T N, w ∈ Ts) (q0 : Nat) {fs : List Value} (he : w[q0]? = some (a, .inr (ci, fs))) (hc : cl[ci]? = some (C, T, N)) (k : Nat) (hk : k < N) (hlink : Cond.fieldLink own index ref (T k).2.1 (T k).2.2.1 ∈ Ts) (href : (T k).1 = ref) {v : Value} (hv : fs[k]? = some v) (hd : decode cc pc = .ok (.getfield index, 3)) (kk : J p l e R s m args below meth c D cl A nL cells slots Q w (pc + 3) lv (v :: st)) : J p l e R s m args below meth c D cl A nL cells slots Q w pc lv (.ref a :: st) :=
  fun H locs ls hP hD hS hl => va_get h.1 h.2.1 h.2.2.2.2.1 hin h.2.2.2.1 h.2.2.2.2.2.1 hP q0 he hc k hk (h.2.2.2.2.1 _ hlink) (fun _ z => by rw [← href]; exact z) hv hd (kk H locs ls hP hD hS hl)
theorem j_put (h : jC p s m args meth c cc nL own Ts D cl tys A) {ref C : String} {T : u_T} {N ci index a : Nat} (hin : ∀ w ∈ u_ws C T N, w ∈ Ts) (ty0 : Nat → FieldType) (hty : ∀ k, k < N → parseFieldDescriptor (T k).2.2.1 = some (ty0 k)) (hnm : ∀ a, a < N → ∀ b, b < N → a ≠ b → (T a).2.1 ≠ (T b).2.1) (q0 : Nat) {fs : List Value} (he : w[q0]? = some (a, .inr (ci, fs))) (hc : cl[ci]? = some (C, T, N)) (k : Nat) (hk : k < N) (hlink : Cond.fieldLink own index ref (T k).2.1 (T k).2.2.1 ∈ Ts) (href : (T k).1 = ref) (hfin : (T k).2.2.2 = false) {v : Value} (hn : narrow (ty0 k) v = v) (hfit : fits (ty0 k) v = true) (hl0 : k < fs.length) {w' : va_W} (hw : w.set q0 (a, .inr (ci, fs.set k v)) = w') (hd : decode cc pc = .ok (.putfield index, 3)) (kk : J p l e R s m args below meth c D cl A nL cells slots Q w' (pc + 3) lv st) : J p l e R s m args below meth c D cl A nL cells slots Q w pc lv (v :: .ref a :: st) := by
  subst hw
  exact fun H locs ls hP hD hS hl => va_put h.1 h.2.1 h.2.2.2.2.1 hin ty0 hty hnm h.2.2.2.1 h.2.2.2.2.2.1 hP hD hS q0 he hc k hk (h.2.2.2.2.1 _ hlink) (fun _ z => by rw [← href]; exact z) hfin (hty k hk) hn hfit hl0 hd (fun H1 locs1 hP1 hD1 hS1 => kk H1 locs1 ls hP1 hD1 hS1 hl)
theorem j_putF (h : jC p s m args meth c cc nL own Ts D cl tys A) {ref C : String} {T : u_T} {N ci index a : Nat} (hin : ∀ w ∈ u_ws C T N, w ∈ Ts) (ty0 : Nat → FieldType) (hty : ∀ k, k < N → parseFieldDescriptor (T k).2.2.1 = some (ty0 k)) (hnm : ∀ a, a < N → ∀ b, b < N → a ≠ b → (T a).2.1 ≠ (T b).2.1) (q0 : Nat) {fs : List Value} (he : w[q0]? = some (a, .inr (ci, fs))) (hc : cl[ci]? = some (C, T, N)) (k : Nat) (hk : k < N) (hlink : Cond.fieldLink own index ref (T k).2.1 (T k).2.2.1 ∈ Ts) (href : (T k).1 = ref) (hfin : (T k).2.2.2 = true) (hi : meth.name = "<init>") (ho : (T k).1 = own) {v : Value} (hn : narrow (ty0 k) v = v) (hfit : fits (ty0 k) v = true) (hl0 : k < fs.length) {w' : va_W} (hw : w.set q0 (a, .inr (ci, fs.set k v)) = w') (hd : decode cc pc = .ok (.putfield index, 3)) (kk : J p l e R s m args below meth c D cl A nL cells slots Q w' (pc + 3) lv st) : J p l e R s m args below meth c D cl A nL cells slots Q w pc lv (v :: .ref a :: st) := by
  subst hw
  exact fun H locs ls hP hD hS hl => va_putF h.1 h.2.1 h.2.2.2.2.1 hin ty0 hty hnm h.2.2.2.1 h.2.2.2.2.2.1 hP hD hS q0 he hc k hk (h.2.2.2.2.1 _ hlink) (fun _ z => by rw [← href]; exact z) hfin hi ho (hty k hk) hn hfit hl0 hd (fun H1 locs1 hP1 hD1 hS1 => kk H1 locs1 ls hP1 hD1 hS1 hl)
theorem j_iald (h : jC p s m args meth c cc nL own Ts D cl tys A) (q0 t0 : Nat) {cA : ClassId} {n a : Nat} {f : Nat → Int32} (ha : w[q0]? = some (a, .inl (cA, n, .inl f))) (ht : tys[t0]? = some (cA, .int)) {i : Int32} (hi : vp_in i n) (hd : decode cc pc = .ok (.iaload, 1)) (kk : J p l e R s m args below meth c D cl A nL cells slots Q w (pc + 1) lv (.int (f i.toNatClampNeg) :: st)) : J p l e R s m args below meth c D cl A nL cells slots Q w pc lv (.int i :: .ref a :: st) :=
  fun H locs ls hP hD hS hl => va_iald h.1 h.2.1 h.2.2.2.2.2.1 hP q0 t0 ha ht hi hd (kk H locs ls hP hD hS hl)
theorem j_zald (h : jC p s m args meth c cc nL own Ts D cl tys A) (q0 t0 : Nat) {cA : ClassId} {n a : Nat} {f : Nat → Int32} (ha : w[q0]? = some (a, .inl (cA, n, .inl f))) (ht : tys[t0]? = some (cA, .boolean)) {i : Int32} (hi : vp_in i n) (hd : decode cc pc = .ok (.baload, 1)) (kk : J p l e R s m args below meth c D cl A nL cells slots Q w (pc + 1) lv (.int (f i.toNatClampNeg) :: st)) : J p l e R s m args below meth c D cl A nL cells slots Q w pc lv (.int i :: .ref a :: st) :=
  fun H locs ls hP hD hS hl => va_zald h.1 h.2.1 h.2.2.2.2.2.1 hP q0 t0 ha ht hi hd (kk H locs ls hP hD hS hl)
theorem j_iast (h : jC p s m args meth c cc nL own Ts D cl tys A) (q0 t0 : Nat) {cA : ClassId} {n a : Nat} {f : Nat → Int32} (ha : w[q0]? = some (a, .inl (cA, n, .inl f))) (ht : tys[t0]? = some (cA, .int)) {i x : Int32} (hi : vp_in i n) {w' : va_W} (hw : w.set q0 (a, .inl (cA, n, .inl (upd f i.toNatClampNeg x))) = w') (hd : decode cc pc = .ok (.iastore, 1)) (kk : J p l e R s m args below meth c D cl A nL cells slots Q w' (pc + 1) lv st) : J p l e R s m args below meth c D cl A nL cells slots Q w pc lv (.int x :: .int i :: .ref a :: st) := by
  subst hw
  exact fun H locs ls hP hD hS hl => va_iast h.1 h.2.1 h.2.2.2.2.2.1 hP hD hS q0 t0 ha ht hi hd (fun H1 locs1 hP1 hD1 hS1 => kk H1 locs1 ls hP1 hD1 hS1 hl)
theorem j_zast (h : jC p s m args meth c cc nL own Ts D cl tys A) (q0 t0 : Nat) {cA : ClassId} {n a : Nat} {f : Nat → Int32} (ha : w[q0]? = some (a, .inl (cA, n, .inl f))) (ht : tys[t0]? = some (cA, .boolean)) {i x : Int32} (hi : vp_in i n) {w' : va_W} (hw : w.set q0 (a, .inl (cA, n, .inl (upd f i.toNatClampNeg (vp_nar .boolean x)))) = w') (hd : decode cc pc = .ok (.bastore, 1)) (kk : J p l e R s m args below meth c D cl A nL cells slots Q w' (pc + 1) lv st) : J p l e R s m args below meth c D cl A nL cells slots Q w pc lv (.int x :: .int i :: .ref a :: st) := by
  subst hw
  exact fun H locs ls hP hD hS hl => va_zast h.1 h.2.1 h.2.2.2.2.2.1 hP hD hS q0 t0 ha ht hi hd (fun H1 locs1 hP1 hD1 hS1 => kk H1 locs1 ls hP1 hD1 hS1 hl)
theorem j_alen (h : jC p s m args meth c cc nL own Ts D cl tys A) (q0 t0 : Nat) {cA : ClassId} {x : vp_A} {a : Nat} (ha : w[q0]? = some (a, .inl (cA, x))) {ty : FieldType} (ht : tys[t0]? = some (cA, ty)) {v : Int32} (hv : Int32.ofNat x.1 = v) (hd : decode cc pc = .ok (.arraylength, 1)) (kk : J p l e R s m args below meth c D cl A nL cells slots Q w (pc + 1) lv (.int v :: st)) : J p l e R s m args below meth c D cl A nL cells slots Q w pc lv (.ref a :: st) :=
  fun H locs ls hP hD hS hl => va_alen h.1 h.2.1 h.2.2.2.2.2.1 hP q0 t0 ha ht hv hd (kk H locs ls hP hD hS hl)
/-! contracts: from the world w, with these arguments, the method answers r and leaves the world w' -/
abbrev jB (D : va_G) (cl : List vw_C) (tys : List (ClassId × FieldType)) (A : Nat → Prop) (w : va_W) (t : State) : Prop := va_P D cl w t.heap ∧ va_K D cl tys t ∧ va_D A w
abbrev jPc (D : va_G) (cl : List vw_C) (tys : List (ClassId × FieldType)) (av : List Value) (w : va_W) (sz : Nat) : Array Value → State → Prop := va_Pc av (fun U => U.heap.size = sz ∧ va_P D cl w U.heap ∧ va_K D cl tys U ∧ va_D (fun _ => True) w)
abbrev jEi (D : va_G) (cl : List vw_C) (tys : List (ClassId × FieldType)) (A : Nat → Prop) (w' : va_W) (r : Int32) : Array Value → State → Outcome → State → Prop := va_Qi (fun (r' : Int32) (_ : Unit) => r' = r) (fun _ t => jB D cl tys A w' t) A
abbrev jEv (D : va_G) (cl : List vw_C) (tys : List (ClassId × FieldType)) (A : Nat → Prop) (w' : (Nat → Nat) → va_W) : Array Value → State → Outcome → State → Prop := va_Qv (fun (_ : Nat → Nat) => True) (fun u t => jB D cl tys A (w' u) t) A
def Ci (l : Launch) (y : MethodName) (cc : ByteArray) (maxL : Nat) (ret : Option FieldType) (Ts : List Cond) (rm : Room) (D : va_G) (cl : List vw_C) (tys : List (ClassId × FieldType)) (av : List Value) (w w' : va_W) (r : Int32) : Prop :=
  ∀ sz : Nat, Met l y (Cond.code y cc maxL ret :: Ts) rm (jPc D cl tys av w sz) (jEi D cl tys (va_A w sz) w' r) 0 0 (va_A w sz)
def Cv (l : Launch) (y : MethodName) (cc : ByteArray) (maxL : Nat) (ret : Option FieldType) (Ts : List Cond) (rm : Room) (D : va_G) (cl : List vw_C) (tys : List (ClassId × FieldType)) (av : List Value) (w : va_W) (w' : (Nat → Nat) → va_W) (mc ms : Nat) : Prop :=
  ∀ sz : Nat, Met l y (Cond.code y cc maxL ret :: Ts) rm (jPc D cl tys av w sz) (jEv D cl tys (va_A w sz) w') mc ms (va_A w sz)
theorem j_blind {D : va_G} {cl : List vw_C} {tys : List (ClassId × FieldType)} {av : List Value} {w : va_W} {sz : Nat} : FrameBlind (jPc D cl tys av w sz) :=
  fun a U g mk q => by
    obtain ⟨q0, q1, qP, qK, qD⟩ := q
    exact ⟨q0, q1, qP, va_K.moved (u := U) (U := U.calling g mk a) (Vm.Alike.refl U.vm) qK, qD⟩
theorem Ci_of {y : MethodName} {rm : Room} {maxL : Nat} {ret : Option FieldType} {av : List Value} {w' : va_W} {r : Int32} (hy : plainFor y = true) (hG : GoodIn Ts Ts) (hav : (lg_sl av).length ≤ maxL)
    (body : ∀ (p : Program) (e : Env) (s : State) (m : MethodId) (args : Array Value) (below : List Frame) (meth : Method) (c : Code) (A : Nat → Prop), jC p s m args meth c cc maxL y.cls Ts D cl tys A → meth.sig.returnType = ret → J p l e rm s m args below meth c D cl A maxL 0 0 (MQ below (jEi D cl tys A w' r) args s 0 0 A) w 0 (lv_args 0 av) []) : Ci l y cc maxL ret Ts rm D cl tys av w w' r := by
  intro sz
  refine va_MetF (cc := cc) (maxL := maxL) (ret := ret) hy rfl ?_
  intro p e s m args below meth c s₁ B hml hv
  obtain ⟨rfl, hsz, hP, hK, hD0⟩ := hv
  have hts0 := atoms_spec (ws := Cond.code y cc maxL ret :: Ts) B.pre
  have hts : ∀ w ∈ Ts, w.before _ s = true := fun w hw => hts0 w (List.mem_cons_of_mem _ hw)
  have hown : s.vm.findClass y.cls = some m.cls := findClass_of_methodNamed B.named
  subst hsz
  have hD := hD0.self (sz := s.heap.size)
  have hl := lv_entry av (n := maxL) hav
  rw [lg_entry_eq]
  exact body p e s m _ below meth c _ ⟨B.exec, B.bytes, hml, hown, hts, hK, fun q h => Or.inr h, B.notSynchronized, hG⟩ B.returns s.heap [] _ hP hD va_S.rf hl
theorem Cv_of {y : MethodName} {rm : Room} {maxL mc ms : Nat} {ret : Option FieldType} {av : List Value} {w' : (Nat → Nat) → va_W} (hy : plainFor y = true) (hG : GoodIn Ts Ts) (hav : (lg_sl av).length ≤ maxL)
    (body : ∀ (p : Program) (e : Env) (s : State) (m : MethodId) (args : Array Value) (below : List Frame) (meth : Method) (c : Code) (A : Nat → Prop), jC p s m args meth c cc maxL y.cls Ts D cl tys A → meth.sig.returnType = ret → meth.name = y.name → J p l e rm s m args below meth c D cl A maxL 0 0 (MQ below (jEv D cl tys A w') args s mc ms A) w 0 (lv_args 0 av) []) : Cv l y cc maxL ret Ts rm D cl tys av w w' mc ms := by
  intro sz
  refine va_MetF (cc := cc) (maxL := maxL) (ret := ret) hy rfl ?_
  intro p e s m args below meth c s₁ B hml hv
  obtain ⟨rfl, hsz, hP, hK, hD0⟩ := hv
  have hts0 := atoms_spec (ws := Cond.code y cc maxL ret :: Ts) B.pre
  have hts : ∀ w ∈ Ts, w.before _ s = true := fun w hw => hts0 w (List.mem_cons_of_mem _ hw)
  have hown : s.vm.findClass y.cls = some m.cls := findClass_of_methodNamed B.named
  subst hsz
  have hD := hD0.self (sz := s.heap.size)
  have hl := lv_entry av (n := maxL) hav
  rw [lg_entry_eq]
  exact body p e s m _ below meth c _ ⟨B.exec, B.bytes, hml, hown, hts, hK, fun q h => Or.inr h, B.notSynchronized, hG⟩ B.returns (name_of_methodNamed B.named B.method).1 s.heap [] _ hP hD va_S.rf hl
theorem j_ireturn (h : jC p s m args meth c cc nL own Ts D cl tys A) (hr : meth.sig.returnType = some .int) {v r : Int32} {w' : va_W} (hv : v = r) (hw : w = w') (hd : decode cc pc = .ok (.ireturn, 1)) : J p l e R s m args below meth c D cl A nL cells slots (MQ below (jEi D cl tys A w' r) args s cells slots A) w pc lv [.int v] := by
  subst hv; subst hw
  exact fun H locs ls hP hD hS hl => W.iret h.1 h.2.1 hr (fun t ht hW => ⟨⟨v, (), rfl, rfl, by rw [ht]; exact hP, va_K.moved hW.alike h.2.2.2.2.2.1, hD⟩, hS.F ht⟩) hS.2.2 hd (hlocks := h.2.2.2.2.2.2.2.1)
theorem j_zreturn (h : jC p s m args meth c cc nL own Ts D cl tys A) {ty : FieldType} (hr : meth.sig.returnType = some ty) {v r : Int32} (hn : narrow ty (.int v) = .int v) {w' : va_W} (hv : v = r) (hw : w = w') (hd : decode cc pc = .ok (.ireturn, 1)) : J p l e R s m args below meth c D cl A nL cells slots (MQ below (jEi D cl tys A w' r) args s cells slots A) w pc lv [.int v] := by
  subst hv; subst hw
  exact fun H locs ls hP hD hS hl => W.zret h.1 h.2.1 hr hn (fun t ht hW => ⟨⟨v, (), rfl, rfl, by rw [ht]; exact hP, va_K.moved hW.alike h.2.2.2.2.2.1, hD⟩, hS.F ht⟩) hS.2.2 hd (hlocks := h.2.2.2.2.2.2.2.1)
theorem j_vreturn (h : jC p s m args meth c cc nL own Ts D cl tys A) (hr : meth.sig.returnType = none) (u : Nat → Nat) {w' : (Nat → Nat) → va_W} (hw : w = w' u) (hd : decode cc pc = .ok (.return_, 1)) : J p l e R s m args below meth c D cl A nL cells slots (MQ below (jEv D cl tys A w') args s cells slots A) w pc lv [] := by
  subst hw
  exact fun H locs ls hP hD hS hl => W.vret h.1 h.2.1 hr (fun t ht hW => ⟨⟨u, rfl, trivial, by rw [ht]; exact hP, va_K.moved hW.alike h.2.2.2.2.2.1, hD⟩, hS.F ht⟩) hS.2.2 hd (hlocks := h.2.2.2.2.2.2.2.1)
/-! calls. The callee's world is all of the caller's (A), none of it (0), or some places of it (G) -/
theorem j_free {H : Heap} {locs : List Loc} (hD : va_D A w) (hS : va_S A s.heap H locs) (hA : ∀ q : Nat, s.heap.size ≤ q → A q) : ∀ q, va_A w H.size q → A q := by
  intro q hq
  rcases hq with ⟨k, e, hk⟩ | hq
  · exact hD.2 k (q, e) hk
  · exact hA q (Nat.le_trans hS.1 hq)
theorem j_none {H : Heap} {q : Nat} (hq : q < H.size) : ¬ va_A ([] : va_W) H.size q := by
  intro h
  rcases h with ⟨k, e, hk⟩ | h
  · simp at hk
  · omega
theorem j_goodV {y : MethodName} {bytes : ByteArray} {maxL index : Nat} {ret : Option FieldType} {C : String} (hG : GoodIn Ts Ts) (h1 : Cond.methodLink own index y ∈ Ts) (h2 : Cond.instanceMethod y ∈ Ts) (h3 : Cond.selects C y y ∈ Ts) (h4 : Cond.initialized C ∈ Ts) (h5 : Cond.code y bytes maxL ret ∈ Ts) : GoodIn Ts (wsV own index C y (Cond.code y bytes maxL ret :: Ts)) := by
  intro w hw
  refine hG w ?_
  unfold wsV at hw
  rcases List.mem_append.mp hw with hw | hw
  · simp only [List.mem_cons, List.not_mem_nil, or_false] at hw
    rcases hw with rfl | rfl | rfl | rfl
    · exact h1
    · exact h2
    · exact h3
    · exact h4
  · rcases List.mem_cons.mp hw with rfl | hw
    · exact h5
    · exact hw
theorem j_goodS {y : MethodName} {bytes : ByteArray} {maxL index : Nat} {ret : Option FieldType} (hG : GoodIn Ts Ts) (h1 : Cond.methodLink own index y ∈ Ts) (h2 : Cond.static y ∈ Ts) (h4 : Cond.initialized y.cls ∈ Ts) (h5 : Cond.code y bytes maxL ret ∈ Ts) : GoodIn Ts (va_wsS own index y (Cond.code y bytes maxL ret :: Ts)) := by
  intro w hw
  refine hG w ?_
  unfold va_wsS at hw
  rcases List.mem_append.mp hw with hw | hw
  · simp only [List.mem_cons, List.not_mem_nil, or_false] at hw
    rcases hw with rfl | rfl | rfl
    · exact h1
    · exact h2
    · exact h4
  · rcases List.mem_cons.mp hw with rfl | hw
    · exact h5
    · exact hw
theorem j_goodC {y : MethodName} {bytes : ByteArray} {maxL : Nat} {ret : Option FieldType} (hG : GoodIn Ts Ts) (h5 : Cond.code y bytes maxL ret ∈ Ts) : GoodIn Ts (Cond.code y bytes maxL ret :: Ts) := by
  intro w hw
  refine hG w ?_
  rcases List.mem_cons.mp hw with rfl | hw
  · exact h5
  · exact hw
theorem j_callVi {y : MethodName} {rmC : Room} {bytes : ByteArray} {maxL n index ci q0 N : Nat} {ret : Option FieldType} {b : Addr} {As st0 fs : List Value} {w1 : va_W} {r : Int32} {C : String} {T : u_T} (h : jC p s m args meth c cc nL own Ts D cl tys A)
    (hM : Ci l y bytes maxL ret Ts rmC D cl tys (.ref b :: As) w w1 r) (g1 : Cond.methodLink own index y ∈ Ts) (g2 : Cond.instanceMethod y ∈ Ts) (g3 : Cond.selects C y y ∈ Ts) (g4 : Cond.initialized C ∈ Ts) (g5 : Cond.code y bytes maxL ret ∈ Ts) (hz : rmC.cells = 0 ∧ rmC.slots = 0)
    (hy : y.cls = C ∧ y.cls ≠ "java/lang/invoke/MethodHandle" ∧ y.cls ≠ "java/lang/invoke/VarHandle" ∧ (parseMethodDescriptor y.desc).map (fun d => d.parameters.length) = some n) (hR : rmC.frames + 1 ≤ R.frames ∧ 8 + (maxL + 11) + rmC.locals ≤ R.locals) (hn : As.length = n) (hc : cl[ci]? = some (C, T, N)) (he : w[q0]? = some (b, .inr (ci, fs)))
    (hst : st0 = As.reverse ++ .ref b :: st) (hroom : (st.map fun v => v.category).sum ≤ 8) (hd : decode cc pc = .ok (.invokevirtual index, 3)) (hf : cells ≤ R.cells ∧ slots ≤ R.slots)
    (kk : J p l e R s m args below meth c D cl A nL cells slots Q w1 (pc + 3) lv (.int r :: st)) : J p l e R s m args below meth c D cl A nL cells slots Q w pc lv st0 := by
  subst hst
  intro H locs ls hP hD hS hl
  have hK := h.2.2.2.2.2.1
  have hFc := j_free hD hS h.2.2.2.2.2.2.1
  refine va_calli (va_runV (As := As) (rest := st) ⟨h.1, h.2.1, h.2.2.1, h.2.2.2.1, h.2.2.2.2.1⟩ (hM H.size) (cwV n h.2.2.2.2.1 (j_goodV h.2.2.2.2.2.2.2.2 g1 g2 g3 g4 g5) rfl hz.1 hz.2 hy hR) ⟨j_blind, va_recv hK hP hc he, fun U hU hW => ⟨rfl, by rw [hU], by rw [hU]; exact hP, va_K.moved hW.alike hK, hD.weaken (fun _ _ _ _ => trivial)⟩⟩ rfl hn hl.1 rfl (lv_room hroom) hd hf) hS (fun q _ hq => hFc q hq) hFc (fun r' u t H1 locs1 ht hvm hw' hB hz1 hk1 hS1 => ?_)
  obtain ⟨hP1, hK1, hD1⟩ := hB
  rw [ht] at hP1
  subst hw'
  exact kk H1 locs1 ls hP1 (hD1.weaken (fun k q _ hq => hFc q.1 hq)) hS1 hl
theorem j_callVv {y : MethodName} {rmC : Room} {bytes : ByteArray} {maxL n index ci q0 N : Nat} {ret : Option FieldType} {b : Addr} {As st0 fs : List Value} {w1 : va_W} {C : String} {T : u_T} (h : jC p s m args meth c cc nL own Ts D cl tys A)
    (hM : Cv l y bytes maxL ret Ts rmC D cl tys (.ref b :: As) w (fun _ => w1) 0 0) (g1 : Cond.methodLink own index y ∈ Ts) (g2 : Cond.instanceMethod y ∈ Ts) (g3 : Cond.selects C y y ∈ Ts) (g4 : Cond.initialized C ∈ Ts) (g5 : Cond.code y bytes maxL ret ∈ Ts) (hz : rmC.cells = 0 ∧ rmC.slots = 0)
    (hy : y.cls = C ∧ y.cls ≠ "java/lang/invoke/MethodHandle" ∧ y.cls ≠ "java/lang/invoke/VarHandle" ∧ (parseMethodDescriptor y.desc).map (fun d => d.parameters.length) = some n) (hR : rmC.frames + 1 ≤ R.frames ∧ 8 + (maxL + 11) + rmC.locals ≤ R.locals) (hn : As.length = n) (hc : cl[ci]? = some (C, T, N)) (he : w[q0]? = some (b, .inr (ci, fs)))
    (hst : st0 = As.reverse ++ .ref b :: st) (hroom : (st.map fun v => v.category).sum ≤ 8) (hd : decode cc pc = .ok (.invokevirtual index, 3)) (hf : cells ≤ R.cells ∧ slots ≤ R.slots)
    (kk : J p l e R s m args below meth c D cl A nL cells slots Q w1 (pc + 3) lv st) : J p l e R s m args below meth c D cl A nL cells slots Q w pc lv st0 := by
  subst hst
  intro H locs ls hP hD hS hl
  have hK := h.2.2.2.2.2.1
  have hFc := j_free hD hS h.2.2.2.2.2.2.1
  refine va_callv (va_runV (As := As) (rest := st) ⟨h.1, h.2.1, h.2.2.1, h.2.2.2.1, h.2.2.2.2.1⟩ (hM H.size) (cwV n h.2.2.2.2.1 (j_goodV h.2.2.2.2.2.2.2.2 g1 g2 g3 g4 g5) rfl hz.1 hz.2 hy hR) ⟨j_blind, va_recv hK hP hc he, fun U hU hW => ⟨rfl, by rw [hU], by rw [hU]; exact hP, va_K.moved hW.alike hK, hD.weaken (fun _ _ _ _ => trivial)⟩⟩ rfl hn hl.1 rfl (lv_room hroom) hd hf) hS (fun q _ hq => hFc q hq) hFc (fun u t H1 locs1 ht hvm hw' hB hz1 hk1 hS1 => ?_)
  obtain ⟨hP1, hK1, hD1⟩ := hB
  rw [ht] at hP1
  exact kk H1 locs1 ls hP1 (hD1.weaken (fun k q _ hq => hFc q.1 hq)) hS1 hl
theorem j_callSi0 {y : MethodName} {rmC : Room} {bytes : ByteArray} {maxL n index : Nat} {ret : Option FieldType} {As st0 : List Value} {r : Int32} (h : jC p s m args meth c cc nL own Ts D cl tys A)
    (hM : Ci l y bytes maxL ret Ts rmC D cl tys As [] [] r) (g1 : Cond.methodLink own index y ∈ Ts) (g2 : Cond.static y ∈ Ts) (g4 : Cond.initialized y.cls ∈ Ts) (g5 : Cond.code y bytes maxL ret ∈ Ts) (hz : rmC.cells = 0 ∧ rmC.slots = 0)
    (hy : y.cls ≠ "java/lang/invoke/MethodHandle" ∧ y.cls ≠ "java/lang/invoke/VarHandle" ∧ (parseMethodDescriptor y.desc).map (fun d => d.parameters.length) = some n) (hR : rmC.frames + 1 ≤ R.frames ∧ 8 + (maxL + 11) + rmC.locals ≤ R.locals) (hn : As.length = n)
    (hst : st0 = As.reverse ++ st) (hroom : (st.map fun v => v.category).sum ≤ 8) (hd : decode cc pc = .ok (.invokestatic index, 3)) (hf : cells ≤ R.cells ∧ slots ≤ R.slots)
    (kk : J p l e R s m args below meth c D cl A nL cells slots Q w (pc + 3) lv (.int r :: st)) : J p l e R s m args below meth c D cl A nL cells slots Q w pc lv st0 := by
  subst hst
  intro H locs ls hP hD hS hl
  have hK := h.2.2.2.2.2.1
  have hD0 : va_D A ([] : va_W) := ⟨fun i j p q h => by simp at h, fun k q h => by simp at h⟩
  have hP0 : va_P D cl ([] : va_W) H := fun k q h => by simp at h
  have hFc := j_free hD0 hS h.2.2.2.2.2.2.1
  refine va_calli (va_runS (As := As) (rest := st) ⟨h.1, h.2.1, h.2.2.1, h.2.2.2.1, h.2.2.2.2.1⟩ (hM H.size) (va_cwS n h.2.2.2.2.1 (j_goodS h.2.2.2.2.2.2.2.2 g1 g2 g4 g5) rfl hz.1 hz.2 hy hR) ⟨j_blind, fun U hU hW => ⟨rfl, by rw [hU], by rw [hU]; exact hP0, va_K.moved hW.alike hK, hD0.weaken (fun _ _ _ _ => trivial)⟩⟩ rfl hn hl.1 rfl (lv_room hroom) hd hf) hS (fun q _ hq => hFc q hq) hFc (fun r' u t H1 locs1 ht hvm hw' hB hz1 hk1 hS1 => ?_)
  subst hw'
  exact kk H1 locs1 ls (hP.kept (fun k q hk => hk1 q.1 (hP k q hk).lt (j_none (hP k q hk).lt))) hD hS1 hl
/-- behind a call: the other cells ahead of the callee's, then in any order -/
theorem j_joined {H H1 : Heap} {wc wr w1 w2 : va_W} (hP : va_P D cl w H) (hD : va_D A w) (isC isR isF : List Nat) (hC : isC.map (fun i => w[i]?) = wc.map some) (hR : isR.map (fun i => w[i]?) = wr.map some) (hn : va_nd isR = true) (hdis : ∀ i ∈ isR, i ∉ isC) (hF2 : isF.map (fun i => (wr ++ w1)[i]?) = w2.map some) (hnF : va_nd isF = true)
    (hk : ∀ q : Nat, q < H.size → ¬ va_A wc H.size q → H1[q]? = H[q]?) (hF : ∀ q, va_A wc H.size q → A q) (hP1 : va_P D cl w1 H1) (hD1 : va_D (va_A wc H.size) w1) : va_P D cl w2 H1 ∧ va_D A w2 := by
  obtain ⟨a, b⟩ := va_join hP hD isC isR hC hR hn hdis hk hF hP1 hD1
  refine ⟨fun k q hq => ?_, b.sub isF hnF hF2⟩
  have h1 : (isF.map (fun i => (wr ++ w1)[i]?))[k]? = some (some q) := by rw [hF2, List.getElem?_map, hq]; rfl
  rw [List.getElem?_map] at h1
  cases hi : isF[k]? with
  | none => rw [hi] at h1; cases h1
  | some i => rw [hi] at h1; exact a i q (Option.some.inj h1)
theorem j_part {H : Heap} {wc : va_W} (hP : va_P D cl w H) (isC : List Nat) (hC : isC.map (fun i => w[i]?) = wc.map some) : va_P D cl wc H := by
  intro k q hq
  have h1 : (isC.map (fun i => w[i]?))[k]? = some (some q) := by rw [hC, List.getElem?_map, hq]; rfl
  rw [List.getElem?_map] at h1
  cases hi : isC[k]? with
  | none => rw [hi] at h1; cases h1
  | some i => rw [hi] at h1; exact hP i q (Option.some.inj h1)
theorem j_callIG {y : MethodName} {rmC : Room} {bytes : ByteArray} {maxL n index mc ms : Nat} {b : Addr} {As st0 : List Value} {wc wr : va_W} {w1 w2 : (Nat → Nat) → va_W} (h : jC p s m args meth c cc nL own Ts D cl tys A)
    (hM : Cv l y bytes maxL none Ts rmC D cl tys (.ref b :: As) wc w1 mc ms) (g5 : Cond.code y bytes maxL none ∈ Ts) (hz : rmC.cells = mc ∧ rmC.slots = ms) (hini : Cond.initialized y.cls ∈ Ts) (hlk : Cond.methodLink own index y ∈ Ts) (hin : Cond.instanceMethod y ∈ Ts) (hy1 : y.name = "<init>")
    (hy : y.cls ≠ "java/lang/invoke/MethodHandle" ∧ y.cls ≠ "java/lang/invoke/VarHandle" ∧ (parseMethodDescriptor y.desc).map (fun d => d.parameters.length) = some n) (hR : rmC.frames + 1 ≤ R.frames ∧ 8 + (maxL + 11) + rmC.locals ≤ R.locals) (hn : As.length = n)
    (hst : st0 = As.reverse ++ .ref b :: st) (hroom : (st.map fun v => v.category).sum ≤ 8) (hd : decode cc pc = .ok (.invokespecial index, 3)) (hf : cells + mc ≤ R.cells ∧ slots + ms ≤ R.slots)
    (isC isR isF : List Nat) (hC : isC.map (fun i => w[i]?) = wc.map some) (hnC : va_nd isC = true) (hRR : isR.map (fun i => w[i]?) = wr.map some) (hnR : va_nd isR = true) (hdis : ∀ i ∈ isR, i ∉ isC) (hF2 : ∀ u, isF.map (fun i => (wr ++ w1 u)[i]?) = (w2 u).map some) (hnF : va_nd isF = true)
    (kk : ∀ u : Nat → Nat, J p l e R s m args below meth c D cl A nL (cells + mc) (slots + ms) Q (w2 u) (pc + 3) lv st) : J p l e R s m args below meth c D cl A nL cells slots Q w pc lv st0 := by
  subst hst
  intro H locs ls hP hD hS hl
  have hK := h.2.2.2.2.2.1
  have hPc := j_part hP isC hC
  have hDc := hD.sub isC hnC hC
  have hFc := j_free hDc hS h.2.2.2.2.2.2.1
  have ht9 := h.2.2.2.2.1
  refine va_callv (va_runI (As := As) (rest := st) ⟨h.1, h.2.1, h.2.2.1, h.2.2.2.1, ht9⟩ (hM H.size) (cwI n ht9 (j_goodC h.2.2.2.2.2.2.2.2 g5) rfl hz.1 hz.2 (ht9 _ hini) (ht9 _ hlk) (ht9 _ hin) hy1 hy hR) ⟨j_blind, fun U hU hW => ⟨rfl, by rw [hU], by rw [hU]; exact hPc, va_K.moved hW.alike hK, hDc.weaken (fun _ _ _ _ => trivial)⟩⟩ rfl hn hl.1 rfl (lv_room hroom) hd hf) hS (fun q _ hq => hFc q hq) hFc (fun u t H1 locs1 ht hvm hw' hB hz1 hk1 hS1 => ?_)
  obtain ⟨hP1, hK1, hD1⟩ := hB
  rw [ht] at hP1
  obtain ⟨a1, a2⟩ := j_joined hP hD isC isR isF hC hRR hnR hdis (hF2 u) hnF hk1 hFc hP1 hD1
  exact kk u H1 locs1 ls a1 a2 hS1 hl
theorem j_callING {y : MethodName} {rmC : Room} {bytes : ByteArray} {maxL n index mc ms : Nat} {b : Addr} {As st0 : List Value} {wc wr : va_W} {w1 w2 : (Nat → Nat) → va_W} (h : jC p s m args meth c cc nL own Ts D cl tys A)
    (hM : Cv l y bytes maxL none Ts rmC D cl tys (.ref b :: As) wc w1 mc ms) (g5 : Cond.code y bytes maxL none ∈ Ts) (hz : rmC.cells = mc ∧ rmC.slots = ms) (hini : Cond.initialized y.cls ∈ Ts) {host : String} (hlk : Cond.methodLinkNest own index y host ∈ Ts) (hin : Cond.instanceMethod y ∈ Ts) (hy1 : y.name = "<init>")
    (hy : y.cls ≠ "java/lang/invoke/MethodHandle" ∧ y.cls ≠ "java/lang/invoke/VarHandle" ∧ (parseMethodDescriptor y.desc).map (fun d => d.parameters.length) = some n) (hR : rmC.frames + 1 ≤ R.frames ∧ 8 + (maxL + 11) + rmC.locals ≤ R.locals) (hn : As.length = n)
    (hst : st0 = As.reverse ++ .ref b :: st) (hroom : (st.map fun v => v.category).sum ≤ 8) (hd : decode cc pc = .ok (.invokespecial index, 3)) (hf : cells + mc ≤ R.cells ∧ slots + ms ≤ R.slots)
    (isC isR isF : List Nat) (hC : isC.map (fun i => w[i]?) = wc.map some) (hnC : va_nd isC = true) (hRR : isR.map (fun i => w[i]?) = wr.map some) (hnR : va_nd isR = true) (hdis : ∀ i ∈ isR, i ∉ isC) (hF2 : ∀ u, isF.map (fun i => (wr ++ w1 u)[i]?) = (w2 u).map some) (hnF : va_nd isF = true)
    (kk : ∀ u : Nat → Nat, J p l e R s m args below meth c D cl A nL (cells + mc) (slots + ms) Q (w2 u) (pc + 3) lv st) : J p l e R s m args below meth c D cl A nL cells slots Q w pc lv st0 := by
  subst hst
  intro H locs ls hP hD hS hl
  have hK := h.2.2.2.2.2.1
  have hPc := j_part hP isC hC
  have hDc := hD.sub isC hnC hC
  have hFc := j_free hDc hS h.2.2.2.2.2.2.1
  have ht9 := h.2.2.2.2.1
  refine va_callv (va_runIN (As := As) (rest := st) ⟨h.1, h.2.1, h.2.2.1, h.2.2.2.1, ht9⟩ (hM H.size) ⟨va_cnB n ht9 (j_goodC h.2.2.2.2.2.2.2.2 g5) rfl hz.1 hz.2 (va_Nw.of rfl (ht9 _ hlk)) (ht9 _ hini) hy hR, hy1, ht9 _ hin⟩ ⟨j_blind, fun U hU hW => ⟨rfl, by rw [hU], by rw [hU]; exact hPc, va_K.moved hW.alike hK, hDc.weaken (fun _ _ _ _ => trivial)⟩⟩ rfl hn hl.1 rfl (lv_room hroom) hd hf) hS (fun q _ hq => hFc q hq) hFc (fun u t H1 locs1 ht hvm hw' hB hz1 hk1 hS1 => ?_)
  obtain ⟨hP1, hK1, hD1⟩ := hB
  rw [ht] at hP1
  obtain ⟨a1, a2⟩ := j_joined hP hD isC isR isF hC hRR hnR hdis (hF2 u) hnF hk1 hFc hP1 hD1
  exact kk u H1 locs1 ls a1 a2 hS1 hl
theorem j_callSvG {y : MethodName} {rmC : Room} {bytes : ByteArray} {maxL n index : Nat} {ret : Option FieldType} {As st0 : List Value} {wc wr w1 w2 : va_W} (h : jC p s m args meth c cc nL own Ts D cl tys A)
    (hM : Cv l y bytes maxL ret Ts rmC D cl tys As wc (fun _ => w1) 0 0) (g1 : Cond.methodLink own index y ∈ Ts) (g2 : Cond.static y ∈ Ts) (g4 : Cond.initialized y.cls ∈ Ts) (g5 : Cond.code y bytes maxL ret ∈ Ts) (hz : rmC.cells = 0 ∧ rmC.slots = 0)
    (hy : y.cls ≠ "java/lang/invoke/MethodHandle" ∧ y.cls ≠ "java/lang/invoke/VarHandle" ∧ (parseMethodDescriptor y.desc).map (fun d => d.parameters.length) = some n) (hR : rmC.frames + 1 ≤ R.frames ∧ 8 + (maxL + 11) + rmC.locals ≤ R.locals) (hn : As.length = n)
    (hst : st0 = As.reverse ++ st) (hroom : (st.map fun v => v.category).sum ≤ 8) (hd : decode cc pc = .ok (.invokestatic index, 3)) (hf : cells ≤ R.cells ∧ slots ≤ R.slots)
    (isC isR isF : List Nat) (hC : isC.map (fun i => w[i]?) = wc.map some) (hnC : va_nd isC = true) (hRR : isR.map (fun i => w[i]?) = wr.map some) (hnR : va_nd isR = true) (hdis : ∀ i ∈ isR, i ∉ isC) (hF2 : isF.map (fun i => (wr ++ w1)[i]?) = w2.map some) (hnF : va_nd isF = true)
    (kk : J p l e R s m args below meth c D cl A nL cells slots Q w2 (pc + 3) lv st) : J p l e R s m args below meth c D cl A nL cells slots Q w pc lv st0 := by
  subst hst
  intro H locs ls hP hD hS hl
  have hK := h.2.2.2.2.2.1
  have hPc := j_part hP isC hC
  have hDc := hD.sub isC hnC hC
  have hFc := j_free hDc hS h.2.2.2.2.2.2.1
  refine va_callv (va_runS (As := As) (rest := st) ⟨h.1, h.2.1, h.2.2.1, h.2.2.2.1, h.2.2.2.2.1⟩ (hM H.size) (va_cwS n h.2.2.2.2.1 (j_goodS h.2.2.2.2.2.2.2.2 g1 g2 g4 g5) rfl hz.1 hz.2 hy hR) ⟨j_blind, fun U hU hW => ⟨rfl, by rw [hU], by rw [hU]; exact hPc, va_K.moved hW.alike hK, hDc.weaken (fun _ _ _ _ => trivial)⟩⟩ rfl hn hl.1 rfl (lv_room hroom) hd hf) hS (fun q _ hq => hFc q hq) hFc (fun u t H1 locs1 ht hvm hw' hB hz1 hk1 hS1 => ?_)
  obtain ⟨hP1, hK1, hD1⟩ := hB
  rw [ht] at hP1
  obtain ⟨a1, a2⟩ := j_joined hP hD isC isR isF hC hRR hnR hdis hF2 hnF hk1 hFc hP1 hD1
  exact kk H1 locs1 ls a1 a2 hS1 hl
theorem j_objInit (h : jC p s m args meth c cc nL own Ts D cl tys A) {idx a : Nat} (hlk : Cond.methodLink own idx Lib.objectInit ∈ Ts) (hin : Cond.instanceMethod Lib.objectInit ∈ Ts) (hco : Cond.code Lib.objectInit ⟨#[0xb1]⟩ 1 none ∈ Ts) (hd : decode cc pc = .ok (.invokespecial idx, 3)) (hframes : 1 ≤ R.frames) (hroom : (st.map fun v => v.category).sum + 12 ≤ R.locals)
    (kk : J p l e R s m args below meth c D cl A nL cells slots Q w (pc + 3) lv st) : J p l e R s m args below meth c D cl A nL cells slots Q w pc lv (.ref a :: st) :=
  fun H locs ls hP hD hS hl => W.objInit h.1 h.2.1 h.2.2.2.1 (h.2.2.2.2.1 _ hlk) (h.2.2.2.2.1 _ hin) (h.2.2.2.2.1 _ hco) rfl (by rw [h.2.2.1]; exact hl.1) rfl hd hframes (by simpa [JFrame.monitorRoom] using hroom) (kk H locs ls hP hD hS hl)
theorem j_new (h : jC p s m args meth c cc nL own Ts D cl tys A) {C : String} {T : u_T} {N ci index : Nat} (hin : ∀ w ∈ u_ws C T N, w ∈ Ts) (ty : Nat → FieldType) (hty : ∀ k, k < N → parseFieldDescriptor (T k).2.2.1 = some (ty k)) (hcl : Cond.classLink own index C ∈ Ts) (hinst : Cond.instantiable C N ∈ Ts) (hini : Cond.initialized C ∈ Ts) (hc : cl[ci]? = some (C, T, N)) {fs : List Value} (hfs : ∀ j, j < N → defaultValue (ty j) = vp_V fs j) (hf : cells + 1 ≤ R.cells ∧ slots + N ≤ R.slots) (hd : decode cc pc = .ok (.new index, 3))
    (kk : ∀ q : Nat, J p l e R s m args below meth c D cl A nL (cells + 1) (slots + N) Q (w ++ [(q, .inr (ci, fs))]) (pc + 3) lv (.ref q :: st)) : J p l e R s m args below meth c D cl A nL cells slots Q w pc lv st :=
  fun H locs ls hP hD hS hl => va_new h.1 h.2.1 h.2.2.2.2.1 hin ty hty h.2.2.2.1 (h.2.2.2.2.1 _ hcl) (h.2.2.2.2.1 _ hinst) (h.2.2.2.2.1 _ hini) h.2.2.2.2.2.1 hP hD hS h.2.2.2.2.2.2.1 hc hfs hf.1 hf.2 hd (fun q H1 hP1 hD1 hS1 => kk q H1 locs ls hP1 hD1 hS1 hl)
theorem j_newarr (h : jC p s m args meth c cc nL own Ts D cl tys A) {atype : ArrayType} {ty : FieldType} (harr : Cond.arrayClass (newarray.typeOf atype) ∈ Ts) (hty : newarray.typeOf atype = ty) (t0 : Nat) {cA : ClassId} (ht : tys[t0]? = some (cA, ty)) (hra : ∀ (U : State) (cB : ClassId), va_RA U cB ty → U.vm.findClass ("[" ++ ty.toString) = some cB) {n : Int32} {N' : Nat} {a0 : vp_A} (ha : ∀ cA : ClassId, vp_cell cA a0 = arrV cA N' (fun _ => defaultValue ty)) (hn : ¬ n < 0) (hN : n.toNatClampNeg = N') (hbytes : N' * componentBytes ty ≤ 536870912) (hf : cells + 1 ≤ R.cells ∧ slots + N' ≤ R.slots) (hd : decode cc pc = .ok (.newarray atype, 2))
    (kk : ∀ q : Nat, J p l e R s m args below meth c D cl A nL (cells + 1) (slots + N') Q (w ++ [(q, .inl (cA, a0))]) (pc + 2) lv (.ref q :: st)) : J p l e R s m args below meth c D cl A nL cells slots Q w pc lv (.int n :: st) :=
  fun H locs ls hP hD hS hl => va_newa h.1 h.2.1 (h.2.2.2.2.1 _ harr) hty h.2.2.2.2.2.1 hP hD hS h.2.2.2.2.2.2.1 ha hn hN hbytes hf.1 hf.2 hd (fun q cB H1 hK1 hP1 hD1 hS1 => by
    have h1 := hra s cA (h.2.2.2.2.2.1.2 t0 _ ht).2
    have h2 := hra s cB (hK1.2 tys.length (cB, ty) (by rw [List.getElem?_append_right (Nat.le_refl _), Nat.sub_self]; rfl)).2
    cases Option.some.inj (h1.symm.trans h2)
    exact kk q H1 locs ls hP1 hD1 hS1 hl)
theorem j_perm (isF : List Nat) {w2 : va_W} (hF2 : isF.map (fun i => w[i]?) = w2.map some) (hnF : va_nd isF = true) (kk : J p l e R s m args below meth c D cl A nL cells slots Q w2 pc lv st) : J p l e R s m args below meth c D cl A nL cells slots Q w pc lv st :=
  fun H locs ls hP hD hS hl => kk H locs ls (j_part hP isF hF2) (hD.sub isF hnF hF2) hS hl
end JB
