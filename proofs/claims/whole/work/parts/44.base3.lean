/-! the same walk where nothing is written: the heap is the one of the entry -/
section JR
def jR (p : Program) (l : Launch) (e : Env) (R : Room) (s : State) (m : MethodId) (args : Array Value) (below : List Frame) (meth : Method) (c : Code) (nL : Nat) (Q : State → Prop) (pc : Nat) (lv : List (Nat × Value)) (st : List Value) : Prop :=
  ∀ ls : Array Slot, lv_has ls nL lv → W p l e R s m args below meth c s.heap [] 0 0 Q (F0 m pc ls st)
variable {p : Program} {l : Launch} {e : Env} {R : Room} {s : State} {m : MethodId} {args : Array Value} {below : List Frame} {meth : Method} {c : Code} {cc : ByteArray} {nL : Nat} {own : String} {Ts : List Cond} {D : va_G} {cl : List vw_C} {tys : List (ClassId × FieldType)} {A : Nat → Prop} {cells slots : Nat} {Q : State → Prop} {w : va_W} {pc : Nat} {lv : List (Nat × Value)} {st : List Value}
theorem r_iconst (h : jC p s m args meth c cc nL own Ts D cl tys A) {n : Int} {v : Int32} (hd : decode cc pc = .ok (.iconst n, 1)) (hv : Int32.ofInt n = v) (kk : jR p l e R s m args below meth c nL Q (pc + 1) lv (.int v :: st)) : jR p l e R s m args below meth c nL Q pc lv st :=
  fun ls hl => lv_iconst h.1 h.2.1 hd hv (kk ls hl)
theorem r_bipush (h : jC p s m args meth c cc nL own Ts D cl tys A) {n : Int} {v : Int32} (hd : decode cc pc = .ok (.bipush n, 2)) (hv : (Int8.ofInt n).toInt32 = v) (kk : jR p l e R s m args below meth c nL Q (pc + 2) lv (.int v :: st)) : jR p l e R s m args below meth c nL Q pc lv st :=
  fun ls hl => lv_bipush h.1 h.2.1 hd hv (kk ls hl)
theorem r_sipush (h : jC p s m args meth c cc nL own Ts D cl tys A) {n : Int} {v : Int32} (hd : decode cc pc = .ok (.sipush n, 3)) (hv : (Int16.ofInt n).toInt32 = v) (kk : jR p l e R s m args below meth c nL Q (pc + 3) lv (.int v :: st)) : jR p l e R s m args below meth c nL Q pc lv st :=
  fun ls hl => lv_sipush h.1 h.2.1 hd hv (kk ls hl)
theorem r_iload_n (h : jC p s m args meth c cc nL own Ts D cl tys A) (j : Nat) {k : Fin 4} {i : Nat} {x : Int32} (hd : decode cc pc = .ok (.iload_n k, 1)) (hi : (k : Nat) = i) (hj : lv[j]? = some (i, .int x)) (kk : jR p l e R s m args below meth c nL Q (pc + 1) lv (.int x :: st)) : jR p l e R s m args below meth c nL Q pc lv st :=
  fun ls hl => lv_iload_n h.1 h.2.1 hd hi (lv_at hl j hj) (kk ls hl)
theorem r_iload (h : jC p s m args meth c cc nL own Ts D cl tys A) (j : Nat) {i : Nat} {x : Int32} (hd : decode cc pc = .ok (.iload i, 2)) (hj : lv[j]? = some (i, .int x)) (kk : jR p l e R s m args below meth c nL Q (pc + 2) lv (.int x :: st)) : jR p l e R s m args below meth c nL Q pc lv st :=
  fun ls hl => lv_iload h.1 h.2.1 hd (lv_at hl j hj) (kk ls hl)
theorem r_aload_n (h : jC p s m args meth c cc nL own Ts D cl tys A) (j : Nat) {k : Fin 4} {i x : Nat} (hd : decode cc pc = .ok (.aload_n k, 1)) (hi : (k : Nat) = i) (hj : lv[j]? = some (i, .ref x)) (kk : jR p l e R s m args below meth c nL Q (pc + 1) lv (.ref x :: st)) : jR p l e R s m args below meth c nL Q pc lv st :=
  fun ls hl => lv_aload_n h.1 h.2.1 hd hi (lv_at hl j hj) (kk ls hl)
theorem r_aload (h : jC p s m args meth c cc nL own Ts D cl tys A) (j : Nat) {i x : Nat} (hd : decode cc pc = .ok (.aload i, 2)) (hj : lv[j]? = some (i, .ref x)) (kk : jR p l e R s m args below meth c nL Q (pc + 2) lv (.ref x :: st)) : jR p l e R s m args below meth c nL Q pc lv st :=
  fun ls hl => lv_aload h.1 h.2.1 hd (lv_at hl j hj) (kk ls hl)
theorem r_goto (h : jC p s m args meth c cc nL own Ts D cl tys A) {off : Int} {tgt : Nat} (hd : decode cc pc = .ok (.goto off, 3)) (ht : (pc : Int) + off = (tgt : Int)) (kk : jR p l e R s m args below meth c nL Q tgt lv st) : jR p l e R s m args below meth c nL Q pc lv st :=
  fun ls hl => lv_goto h.1 h.2.1 hd ht (kk ls hl)
theorem r_pop (h : jC p s m args meth c cc nL own Ts D cl tys A) {va : Value} (hd : decode cc pc = .ok (.pop, 1)) (hva : va.category = 1) (kk : jR p l e R s m args below meth c nL Q (pc + 1) lv st) : jR p l e R s m args below meth c nL Q pc lv (va :: st) :=
  fun ls hl => lv_pop h.1 h.2.1 hd hva (kk ls hl)
theorem r_dup (h : jC p s m args meth c cc nL own Ts D cl tys A) {va : Value} (hd : decode cc pc = .ok (.dup, 1)) (hva : va.category = 1) (kk : jR p l e R s m args below meth c nL Q (pc + 1) lv (va :: va :: st)) : jR p l e R s m args below meth c nL Q pc lv (va :: st) :=
  fun ls hl => lv_dup h.1 h.2.1 hd hva (kk ls hl)
theorem r_istore_n (h : jC p s m args meth c cc nL own Ts D cl tys A) {k : Fin 4} {i : Nat} {x : Int32} {lv' : List (Nat × Value)} (hd : decode cc pc = .ok (.istore_n k, 1)) (hi : (k : Nat) = i) (hn : i < nL) (hv : (i, Value.int x) :: lv.filter (fun q => !(q.1 == i) && !(q.1 + 1 == i && q.2.category == 2)) = lv') (kk : jR p l e R s m args below meth c nL Q (pc + 1) lv' st) : jR p l e R s m args below meth c nL Q pc lv (.int x :: st) :=
  fun ls hl => lv_istore_n h.1 h.2.1 hd hi hl hn hv (fun ls' hl' => kk ls' hl')
theorem r_istore (h : jC p s m args meth c cc nL own Ts D cl tys A) {i : Nat} {x : Int32} {lv' : List (Nat × Value)} (hd : decode cc pc = .ok (.istore i, 2)) (hn : i < nL) (hv : (i, Value.int x) :: lv.filter (fun q => !(q.1 == i) && !(q.1 + 1 == i && q.2.category == 2)) = lv') (kk : jR p l e R s m args below meth c nL Q (pc + 2) lv' st) : jR p l e R s m args below meth c nL Q pc lv (.int x :: st) :=
  fun ls hl => lv_istore h.1 h.2.1 hd hl hn hv (fun ls' hl' => kk ls' hl')
theorem r_iadd (h : jC p s m args meth c cc nL own Ts D cl tys A) {x y : Int32} (hd : decode cc pc = .ok (.iadd, 1)) (kk : jR p l e R s m args below meth c nL Q (pc + 1) lv (.int (x + y) :: st)) : jR p l e R s m args below meth c nL Q pc lv (.int y :: .int x :: st) :=
  fun ls hl => lv_iadd h.1 h.2.1 hd (kk ls hl)
theorem r_isub (h : jC p s m args meth c cc nL own Ts D cl tys A) {x y : Int32} (hd : decode cc pc = .ok (.isub, 1)) (kk : jR p l e R s m args below meth c nL Q (pc + 1) lv (.int (x - y) :: st)) : jR p l e R s m args below meth c nL Q pc lv (.int y :: .int x :: st) :=
  fun ls hl => lv_isub h.1 h.2.1 hd (kk ls hl)
theorem r_if_eq (h : jC p s m args meth c cc nL own Ts D cl tys A) {x : Int32} {off : Int} {tgt : Nat} (hd : decode cc pc = .ok (.ifCond .eq off, 3)) (ht : (pc : Int) + off = (tgt : Int)) (kt : x = 0 → jR p l e R s m args below meth c nL Q tgt lv st) (kf : ¬ x = 0 → jR p l e R s m args below meth c nL Q (pc + 3) lv st) : jR p l e R s m args below meth c nL Q pc lv (.int x :: st) :=
  fun ls hl => lv_if_eq h.1 h.2.1 hd ht (fun q => kt q ls hl) (fun q => kf q ls hl)
theorem r_if_ne (h : jC p s m args meth c cc nL own Ts D cl tys A) {x : Int32} {off : Int} {tgt : Nat} (hd : decode cc pc = .ok (.ifCond .ne off, 3)) (ht : (pc : Int) + off = (tgt : Int)) (kt : ¬ x = 0 → jR p l e R s m args below meth c nL Q tgt lv st) (kf : x = 0 → jR p l e R s m args below meth c nL Q (pc + 3) lv st) : jR p l e R s m args below meth c nL Q pc lv (.int x :: st) :=
  fun ls hl => lv_if_ne h.1 h.2.1 hd ht (fun q => kt q ls hl) (fun q => kf q ls hl)
theorem r_if_lt (h : jC p s m args meth c cc nL own Ts D cl tys A) {x : Int32} {off : Int} {tgt : Nat} (hd : decode cc pc = .ok (.ifCond .lt off, 3)) (ht : (pc : Int) + off = (tgt : Int)) (kt : x < 0 → jR p l e R s m args below meth c nL Q tgt lv st) (kf : ¬ x < 0 → jR p l e R s m args below meth c nL Q (pc + 3) lv st) : jR p l e R s m args below meth c nL Q pc lv (.int x :: st) :=
  fun ls hl => lv_if_lt h.1 h.2.1 hd ht (fun q => kt q ls hl) (fun q => kf q ls hl)
theorem r_if_ge (h : jC p s m args meth c cc nL own Ts D cl tys A) {x : Int32} {off : Int} {tgt : Nat} (hd : decode cc pc = .ok (.ifCond .ge off, 3)) (ht : (pc : Int) + off = (tgt : Int)) (kt : 0 ≤ x → jR p l e R s m args below meth c nL Q tgt lv st) (kf : ¬ 0 ≤ x → jR p l e R s m args below meth c nL Q (pc + 3) lv st) : jR p l e R s m args below meth c nL Q pc lv (.int x :: st) :=
  fun ls hl => lv_if_ge h.1 h.2.1 hd ht (fun q => kt q ls hl) (fun q => kf q ls hl)
theorem r_if_gt (h : jC p s m args meth c cc nL own Ts D cl tys A) {x : Int32} {off : Int} {tgt : Nat} (hd : decode cc pc = .ok (.ifCond .gt off, 3)) (ht : (pc : Int) + off = (tgt : Int)) (kt : 0 < x → jR p l e R s m args below meth c nL Q tgt lv st) (kf : ¬ 0 < x → jR p l e R s m args below meth c nL Q (pc + 3) lv st) : jR p l e R s m args below meth c nL Q pc lv (.int x :: st) :=
  fun ls hl => lv_if_gt h.1 h.2.1 hd ht (fun q => kt q ls hl) (fun q => kf q ls hl)
theorem r_if_le (h : jC p s m args meth c cc nL own Ts D cl tys A) {x : Int32} {off : Int} {tgt : Nat} (hd : decode cc pc = .ok (.ifCond .le off, 3)) (ht : (pc : Int) + off = (tgt : Int)) (kt : x ≤ 0 → jR p l e R s m args below meth c nL Q tgt lv st) (kf : ¬ x ≤ 0 → jR p l e R s m args below meth c nL Q (pc + 3) lv st) : jR p l e R s m args below meth c nL Q pc lv (.int x :: st) :=
  fun ls hl => lv_if_le h.1 h.2.1 hd ht (fun q => kt q ls hl) (fun q => kf q ls hl)
theorem r_icmp_eq (h : jC p s m args meth c cc nL own Ts D cl tys A) {x y : Int32} {off : Int} {tgt : Nat} (hd : decode cc pc = .ok (.if_icmp .eq off, 3)) (ht : (pc : Int) + off = (tgt : Int)) (kt : x = y → jR p l e R s m args below meth c nL Q tgt lv st) (kf : ¬ x = y → jR p l e R s m args below meth c nL Q (pc + 3) lv st) : jR p l e R s m args below meth c nL Q pc lv (.int y :: .int x :: st) :=
  fun ls hl => lv_icmp_eq h.1 h.2.1 hd ht (fun q => kt q ls hl) (fun q => kf q ls hl)
theorem r_icmp_ne (h : jC p s m args meth c cc nL own Ts D cl tys A) {x y : Int32} {off : Int} {tgt : Nat} (hd : decode cc pc = .ok (.if_icmp .ne off, 3)) (ht : (pc : Int) + off = (tgt : Int)) (kt : ¬ x = y → jR p l e R s m args below meth c nL Q tgt lv st) (kf : x = y → jR p l e R s m args below meth c nL Q (pc + 3) lv st) : jR p l e R s m args below meth c nL Q pc lv (.int y :: .int x :: st) :=
  fun ls hl => lv_icmp_ne h.1 h.2.1 hd ht (fun q => kt q ls hl) (fun q => kf q ls hl)
theorem r_icmp_lt (h : jC p s m args meth c cc nL own Ts D cl tys A) {x y : Int32} {off : Int} {tgt : Nat} (hd : decode cc pc = .ok (.if_icmp .lt off, 3)) (ht : (pc : Int) + off = (tgt : Int)) (kt : x < y → jR p l e R s m args below meth c nL Q tgt lv st) (kf : ¬ x < y → jR p l e R s m args below meth c nL Q (pc + 3) lv st) : jR p l e R s m args below meth c nL Q pc lv (.int y :: .int x :: st) :=
  fun ls hl => lv_icmp_lt h.1 h.2.1 hd ht (fun q => kt q ls hl) (fun q => kf q ls hl)
theorem r_icmp_ge (h : jC p s m args meth c cc nL own Ts D cl tys A) {x y : Int32} {off : Int} {tgt : Nat} (hd : decode cc pc = .ok (.if_icmp .ge off, 3)) (ht : (pc : Int) + off = (tgt : Int)) (kt : y ≤ x → jR p l e R s m args below meth c nL Q tgt lv st) (kf : ¬ y ≤ x → jR p l e R s m args below meth c nL Q (pc + 3) lv st) : jR p l e R s m args below meth c nL Q pc lv (.int y :: .int x :: st) :=
  fun ls hl => lv_icmp_ge h.1 h.2.1 hd ht (fun q => kt q ls hl) (fun q => kf q ls hl)
theorem r_icmp_gt (h : jC p s m args meth c cc nL own Ts D cl tys A) {x y : Int32} {off : Int} {tgt : Nat} (hd : decode cc pc = .ok (.if_icmp .gt off, 3)) (ht : (pc : Int) + off = (tgt : Int)) (kt : y < x → jR p l e R s m args below meth c nL Q tgt lv st) (kf : ¬ y < x → jR p l e R s m args below meth c nL Q (pc + 3) lv st) : jR p l e R s m args below meth c nL Q pc lv (.int y :: .int x :: st) :=
  fun ls hl => lv_icmp_gt h.1 h.2.1 hd ht (fun q => kt q ls hl) (fun q => kf q ls hl)
theorem r_icmp_le (h : jC p s m args meth c cc nL own Ts D cl tys A) {x y : Int32} {off : Int} {tgt : Nat} (hd : decode cc pc = .ok (.if_icmp .le off, 3)) (ht : (pc : Int) + off = (tgt : Int)) (kt : x ≤ y → jR p l e R s m args below meth c nL Q tgt lv st) (kf : ¬ x ≤ y → jR p l e R s m args below meth c nL Q (pc + 3) lv st) : jR p l e R s m args below meth c nL Q pc lv (.int y :: .int x :: st) :=
  fun ls hl => lv_icmp_le h.1 h.2.1 hd ht (fun q => kt q ls hl) (fun q => kf q ls hl)
theorem r_get (hP : va_P D cl w s.heap) (h : jC p s m args meth c cc nL own Ts D cl tys A) {ref C : String} {T : u_T} {N ci index a : Nat} (hin : ∀ w ∈ u_ws C T N, w ∈ Ts) (q0 : Nat) {fs : List Value} (he : w[q0]? = some (a, .inr (ci, fs))) (hc : cl[ci]? = some (C, T, N)) (k : Nat) (hk : k < N) (hlink : Cond.fieldLink own index ref (T k).2.1 (T k).2.2.1 ∈ Ts) (href : (T k).1 = ref) {v : Value} (hv : fs[k]? = some v) (hd : decode cc pc = .ok (.getfield index, 3)) (kk : jR p l e R s m args below meth c nL Q (pc + 3) lv (v :: st)) : jR p l e R s m args below meth c nL Q pc lv (.ref a :: st) :=
  fun ls hl => va_get h.1 h.2.1 h.2.2.2.2.1 hin h.2.2.2.1 h.2.2.2.2.2.1 hP q0 he hc k hk (h.2.2.2.2.1 _ hlink) (fun _ z => by rw [← href]; exact z) hv hd (kk ls hl)
def CR (l : Launch) (y : MethodName) (cc : ByteArray) (maxL : Nat) (ret : Option FieldType) (Ts : List Cond) (rm : Room) (D : va_G) (cl : List vw_C) (tys : List (ClassId × FieldType)) (av : List Value) (w : va_W) (r : Int32) : Prop :=
  ∀ sz : Nat, Met l y (Cond.code y cc maxL ret :: Ts) rm (jPc D cl tys av w sz) (QcRead r) 0 0 (fun _ => False)
theorem CR_of {y : MethodName} {rm : Room} {maxL : Nat} {ret : Option FieldType} {av : List Value} {r : Int32} (hy : plainFor y = true) (hG : GoodIn Ts Ts) (hav : (lg_sl av).length ≤ maxL)
    (body : ∀ (p : Program) (e : Env) (s : State) (m : MethodId) (args : Array Value) (below : List Frame) (meth : Method) (c : Code) (A : Nat → Prop), jC p s m args meth c cc maxL y.cls Ts D cl tys A → va_P D cl w s.heap → meth.sig.returnType = ret → jR p l e rm s m args below meth c maxL (MQ below (QcRead r) args s 0 0 (fun _ => False)) 0 (lv_args 0 av) []) : CR l y cc maxL ret Ts rm D cl tys av w r := by
  intro sz
  refine va_MetF (cc := cc) (maxL := maxL) (ret := ret) hy rfl ?_
  intro p e s m args below meth c s₁ B hml hv
  obtain ⟨rfl, hsz, hP, hK, hD0⟩ := hv
  have hts0 := atoms_spec (ws := Cond.code y cc maxL ret :: Ts) B.pre
  have hts : ∀ w ∈ Ts, w.before _ s = true := fun w hw => hts0 w (List.mem_cons_of_mem _ hw)
  have hown : s.vm.findClass y.cls = some m.cls := findClass_of_methodNamed B.named
  have hl := lv_entry av (n := maxL) hav
  rw [lg_entry_eq]
  exact body p e s m _ below meth c (fun _ => True) ⟨B.exec, B.bytes, hml, hown, hts, hK, fun q h => trivial, B.notSynchronized, hG⟩ hP B.returns _ hl
theorem r_ireturn (h : jC p s m args meth c cc nL own Ts D cl tys A) (hr : meth.sig.returnType = some .int) {v r : Int32} (hv : v = r) (hd : decode cc pc = .ok (.ireturn, 1)) : jR p l e R s m args below meth c nL (MQ below (QcRead r) args s 0 0 (fun _ => False)) pc lv [.int v] := by
  subst hv
  exact fun ls hl => W.iret h.1 h.2.1 hr (fun t ht hW => ⟨rfl, ht⟩) (fun _ z => by cases z) hd (hlocks := h.2.2.2.2.2.2.2.1)
theorem r_zreturn (h : jC p s m args meth c cc nL own Ts D cl tys A) {ty : FieldType} (hr : meth.sig.returnType = some ty) {v r : Int32} (hn : narrow ty (.int v) = .int v) (hv : v = r) (hd : decode cc pc = .ok (.ireturn, 1)) : jR p l e R s m args below meth c nL (MQ below (QcRead r) args s 0 0 (fun _ => False)) pc lv [.int v] := by
  subst hv
  exact fun ls hl => W.zret h.1 h.2.1 hr hn (fun t ht hW => ⟨rfl, ht⟩) (fun _ z => by cases z) hd (hlocks := h.2.2.2.2.2.2.2.1)
theorem r_callV {y : MethodName} {rmC : Room} {bytes : ByteArray} {maxL n index ci q0 N : Nat} {ret : Option FieldType} {b : Addr} {As st0 fs : List Value} {r : Int32} {C : String} {T : u_T} (hP : va_P D cl w s.heap) (hD : va_D (fun _ => True) w) (h : jC p s m args meth c cc nL own Ts D cl tys A)
    (hM : CR l y bytes maxL ret Ts rmC D cl tys (.ref b :: As) w r) (g1 : Cond.methodLink own index y ∈ Ts) (g2 : Cond.instanceMethod y ∈ Ts) (g3 : Cond.selects C y y ∈ Ts) (g4 : Cond.initialized C ∈ Ts) (g5 : Cond.code y bytes maxL ret ∈ Ts) (hz : rmC.cells = 0 ∧ rmC.slots = 0)
    (hy : y.cls = C ∧ y.cls ≠ "java/lang/invoke/MethodHandle" ∧ y.cls ≠ "java/lang/invoke/VarHandle" ∧ (parseMethodDescriptor y.desc).map (fun d => d.parameters.length) = some n) (hR : rmC.frames + 1 ≤ R.frames ∧ 8 + (maxL + 11) + rmC.locals ≤ R.locals) (hn : As.length = n) (hc : cl[ci]? = some (C, T, N)) (he : w[q0]? = some (b, .inr (ci, fs)))
    (hst : st0 = As.reverse ++ .ref b :: st) (hroom : (st.map fun v => v.category).sum ≤ 8) (hd : decode cc pc = .ok (.invokevirtual index, 3))
    (kk : jR p l e R s m args below meth c nL Q (pc + 3) lv (.int r :: st)) : jR p l e R s m args below meth c nL Q pc lv st0 := by
  subst hst
  intro ls hl
  have hK := h.2.2.2.2.2.1
  exact W.callR (W.runV (As := As) (rest := st) ⟨h.1, h.2.1, h.2.2.1, h.2.2.2.1, h.2.2.2.2.1⟩ (hM s.heap.size) (cwV n h.2.2.2.2.1 (j_goodV h.2.2.2.2.2.2.2.2 g1 g2 g3 g4 g5) rfl hz.1 hz.2 hy hR) ⟨j_blind, va_recv hK hP hc he, fun U hU hW => ⟨rfl, by rw [hU], by rw [hU]; exact hP, va_K.moved hW.alike hK, hD⟩⟩ rfl hn hl.1 rfl (lv_room hroom) hd ⟨Nat.zero_le _, Nat.zero_le _⟩) (kk ls hl)
theorem r_callS {y : MethodName} {rmC : Room} {bytes : ByteArray} {maxL n index : Nat} {ret : Option FieldType} {As st0 : List Value} {r : Int32} (h : jC p s m args meth c cc nL own Ts D cl tys A)
    (hM : CR l y bytes maxL ret Ts rmC D cl tys As [] r) (g1 : Cond.methodLink own index y ∈ Ts) (g2 : Cond.static y ∈ Ts) (g4 : Cond.initialized y.cls ∈ Ts) (g5 : Cond.code y bytes maxL ret ∈ Ts) (hz : rmC.cells = 0 ∧ rmC.slots = 0)
    (hy : y.cls ≠ "java/lang/invoke/MethodHandle" ∧ y.cls ≠ "java/lang/invoke/VarHandle" ∧ (parseMethodDescriptor y.desc).map (fun d => d.parameters.length) = some n) (hR : rmC.frames + 1 ≤ R.frames ∧ 8 + (maxL + 11) + rmC.locals ≤ R.locals) (hn : As.length = n)
    (hst : st0 = As.reverse ++ st) (hroom : (st.map fun v => v.category).sum ≤ 8) (hd : decode cc pc = .ok (.invokestatic index, 3))
    (kk : jR p l e R s m args below meth c nL Q (pc + 3) lv (.int r :: st)) : jR p l e R s m args below meth c nL Q pc lv st0 := by
  subst hst
  intro ls hl
  have hK := h.2.2.2.2.2.1
  have hD0 : va_D (fun _ => True) ([] : va_W) := ⟨fun i j p q h => by simp at h, fun k q h => by simp at h⟩
  have hP0 : va_P D cl ([] : va_W) s.heap := fun k q h => by simp at h
  exact W.callR (W.runS (As := As) (rest := st) ⟨h.1, h.2.1, h.2.2.1, h.2.2.2.1, h.2.2.2.2.1⟩ (hM s.heap.size) (va_cwS n h.2.2.2.2.1 (j_goodS h.2.2.2.2.2.2.2.2 g1 g2 g4 g5) rfl hz.1 hz.2 hy hR) ⟨j_blind, fun U hU hW => ⟨rfl, by rw [hU], by rw [hU]; exact hP0, va_K.moved hW.alike hK, hD0⟩⟩ rfl hn hl.1 rfl (lv_room hroom) hd ⟨Nat.zero_le _, Nat.zero_le _⟩) (kk ls hl)
/-! the end by a throw of E: the world is as it was, one cell of six slots is new -/
def jQt (D : va_G) (cl : List vw_C) (tys : List (ClassId × FieldType)) (A : Nat → Prop) (w : va_W) (E : String) : Array Value → State → Outcome → State → Prop := fun _ st o t =>
  ∃ (q : Addr) (ce : Cell), o = .threw q ∧ jB D cl tys A w t ∧ va_F A st t ∧ t.heap[q]? = some ce ∧ ce.vm = .none ∧ st.vm.findClass E = some ce.cls ∧ st.WarmedH t.vm ∧ st.sameButNew ({ t with vm := st.vm } : State) [] 1 6
def jMT (below : List Frame) (D : va_G) (cl : List vw_C) (tys : List (ClassId × FieldType)) (A : Nat → Prop) (w : va_W) (E : String) (args : Array Value) (s : State) : State → Prop := fun t => ∃ o, t.status = .running ∧ Ended t below o ∧ jQt D cl tys A w E args s o t
theorem r_same {U : State} {k n : Nat} (h : s.sameButNew ({ U with vm := s.vm } : State) [] k n) : s.heap.size ≤ U.heap.size ∧ ∀ q : Nat, q < s.heap.size → U.heap[q]? = s.heap[q]? := by
  obtain ⟨-, h2, -, -, -, h6⟩ := h
  refine ⟨h2, fun q hq => ?_⟩
  have e0 : s.heap[q]? = some s.heap[q] := Array.getElem?_eq_getElem hq
  obtain ⟨c9, e1, e2, -, e4⟩ := h6 q _ e0
  have e3 : c9.slots = (s.heap[q]).slots := Array.ext_getElem? (fun i => e4 i (fun z => by cases z))
  rw [e3] at e2
  rw [e0, ← show c9 = s.heap[q] from e2]
  exact e1
theorem r_throw (hP : va_P D cl w s.heap) (hD : va_D A w) (h : jC p s m args meth c cc nL own Ts D cl tys A) (hl0 : l.stackTraces = false) {cls text : String} {names : List String} {ik is ic sa : Nat} (hcls : Bundle.fit cls = true) (hnames : ∀ n ∈ names, Bundle.fit n = true) (hk : Cond.classLink own ik cls ∈ Ts) (hini : Cond.initialized cls ∈ Ts) (hins : Cond.instantiable cls 6 ∈ Ts)
    (hat : ∀ w ∈ Bundle.ownAtoms own ic cls names, w.before args s = true) (hstr : (Cond.stringRef own is text).before args s = true) (hev : (Term.string own is).eval args s none [] s = some (.ref sa))
    (d0 : decode cc pc = .ok (.new ik, 3)) (d3 : decode cc (pc + 3) = .ok (.dup, 1)) (d4 : decode cc (pc + 4) = .ok (.ldc is, 2)) (d6 : decode cc (pc + 6) = .ok (.invokespecial ic, 3)) (d9 : decode cc (pc + 9) = .ok (.athrow, 1))
    (hout : ∀ x ∈ c.exceptionTable.toList, covers x (pc + 9) = false) (hRf : names.length + 3 < R.frames) (hRl : (st.map fun v => v.category).sum + (13 * (names.length + 1) + 43) ≤ R.locals) (hRc : 0 + 1 ≤ R.cells ∧ 0 + 6 ≤ R.slots) :
    jR p l e R s m args below meth c nL (jMT below D cl tys A w cls args s) pc lv st := by
  intro ls hl T hT X
  obtain ⟨hx, hb, hml, hown, hts, hK, hA, hlocks, -⟩ := h
  have htr : e.platform.stackTraces = false := by rw [X.admits.platform]; exact hl0
  obtain ⟨vm₁, cX, kX, hfX, hkX, -, -, X₁, st1⟩ := X.newCold hx hown (hts _ hk) (hts _ hins) (hts _ hini) (g := F0 m pc ls st) rfl (by rw [hb]; exact d0) hRc.1 hRc.2
  generalize hT1 : (T.setVm vm₁).pushCell { cls := cX, slots := kX.instanceTypes.map defaultValue, vm := .none } = T1 at X₁ st1
  have hcell : T1.heap[T.heap.size]? = some (freshCell cX kX) := by rw [← hT1]; exact State.heap_pushCell_size _ _
  have e3 : decode c.code (pc + 3) = .ok (.dup, 1) := by rw [hb]; exact d3
  have e4 : decode c.code (pc + 4) = .ok (.ldc is, 2) := by rw [hb]; exact d4
  have hcat : (Value.ref T.heap.size).category = 1 := rfl
  obtain ⟨U, hsteps, hrun, hend, hW, hsame, ce, hce, hO⟩ := X₁.ctorThrowS hx htr hown hcls hnames hat (fun x hx => by cases hx) hfX hkX hcell (by rw [hT]; exact Nat.le_refl _) (msg := .ref sa) rfl
    (g := { method := m, pc := pc + 6, locals := ls, stack := .ref sa :: .ref T.heap.size :: .ref T.heap.size :: st, locked := none }) rfl (by rw [hml]; exact hl.1) rfl rfl (rest := st) rfl
    (by rw [hb]; exact d6) (by rw [hb]; exact d9) hout hRf (by simp only [List.map_cons, List.sum_cons, hcat, JFrame.monitorRoom]; omega) hlocks
  obtain ⟨f1, f2⟩ := r_same hsame
  refine ⟨U, st1 _ ?_, .threw T.heap.size, hrun, hend, T.heap.size, ce, rfl, ⟨hP.kept (fun k q hq => f2 q.1 (hP k q hq).lt), va_K.moved hW.alike hK, hD⟩, ⟨f1, fun q h1 _ => f2 q h1⟩, hce, hO.vm, hO.cls, hW, hsame⟩
  show Steps p.tables e below (T1.setTop { method := m, pc := pc + 3, locals := ls, stack := .ref T.heap.size :: st, locked := none }) _
  jvm_step X₁.here [X₁.here.top, hx, e3, Value.category]
  exact X₁.ldcString hx hown hstr hev (g := { method := m, pc := pc + 4, locals := ls, stack := .ref T.heap.size :: .ref T.heap.size :: st, locked := none }) rfl e4 _ hsteps
end JR
