/-! methods with an exception table: the law's helpers. Ch: a contract whose method may make one cell of six slots (a thrown one, caught inside) -/
section JH
variable {p : Program} {l : Launch} {e : Env} {R : Room} {s : State} {m : MethodId} {args : Array Value} {below : List Frame} {meth : Method} {c : Code} {cc : ByteArray} {nL : Nat} {own : String} {Ts : List Cond} {D : va_G} {cl : List vw_C} {tys : List (ClassId × FieldType)} {A : Nat → Prop} {cells slots : Nat} {Q : State → Prop} {w : va_W} {pc : Nat} {lv : List (Nat × Value)} {st : List Value}
def Ch (l : Launch) (y : MethodName) (cc : ByteArray) (maxL : Nat) (ret : Option FieldType) (hh : List (Nat × Nat × Nat × Nat)) (Ts : List Cond) (rm : Room) (D : va_G) (cl : List vw_C) (tys : List (ClassId × FieldType)) (av : List Value) (w w' : va_W) (r : Int32) : Prop :=
  ∀ sz : Nat, Met l y (Cond.codeWith y cc maxL ret hh :: Ts) rm (jPz D cl tys av w sz) (jEi D cl tys (va_A w sz) w' r) 1 6 (va_A w sz)
theorem jC_sub {tys' : List (ClassId × FieldType)} (h : jC p s m args meth c cc nL own Ts D cl tys A) (is : List Nat) (hs : is.filterMap (fun i => tys[i]?) = tys') : jC p s m args meth c cc nL own Ts D cl tys' A :=
  ⟨h.1, h.2.1, h.2.2.1, h.2.2.2.1, h.2.2.2.2.1, h.2.2.2.2.2.1.sub is hs, h.2.2.2.2.2.2⟩
theorem Ch_of {y : MethodName} {rm : Room} {maxL : Nat} {ret : Option FieldType} {hh : List (Nat × Nat × Nat × Nat)} {av : List Value} {w' : va_W} {r : Int32} (hy : plainName y.cls = true) (hG : GoodIn Ts Ts) (hav : (lg_sl av).length ≤ maxL)
    (body : ∀ (p : Program) (e : Env) (s : State) (m : MethodId) (args : Array Value) (below : List Frame) (meth : Method) (c : Code) (A : Nat → Prop), jC p s m args meth c cc maxL y.cls Ts D cl tys A → meth.sig.returnType = ret → c.exceptionTable.toList.map (fun h => (h.startPc, h.endPc, h.handlerPc, h.catchType)) = hh → (∀ (H : Heap) (locs : List Loc), va_S A s.heap H locs → jZ A s H) → J p l e rm s m args below meth c D cl A maxL 0 0 (MQ below (jEi D cl tys A w' r) args s 1 6 A) w 0 (lv_args 0 av) []) : Ch l y cc maxL ret hh Ts rm D cl tys av w w' r := by
  intro sz
  refine va_MetW (cc := cc) (maxL := maxL) (ret := ret) (hh := hh) hy rfl ?_
  intro p e s m args below meth c s₁ B hml hv
  obtain ⟨rfl, hsz, hP, hK, hD0, hZ⟩ := hv
  have hts0 := atoms_spec (ws := Cond.codeWith y cc maxL ret hh :: Ts) B.pre
  have hts : ∀ w ∈ Ts, w.before _ s = true := fun w hw => hts0 w (List.mem_cons_of_mem _ hw)
  have hown : s.vm.findClass y.cls = some m.cls := findClass_of_methodNamed B.named
  obtain ⟨m9, meth9, c9, hn9, hm9, hc9, -, -, htab, -⟩ := Cond.codeWith_spec (hts0 _ List.mem_cons_self)
  cases Option.some.inj (B.named.symm.trans hn9)
  cases Option.some.inj (B.method.symm.trans hm9)
  have hcc : c9 = c := by
    have h1 := B.here.code
    rw [B.state] at h1
    have h2 : s.code? m = some c := h1
    rw [State.code?_eq, hm9] at h2
    exact Option.some.inj (hc9.symm.trans h2)
  subst hcc
  subst hsz
  have hD := hD0.self (sz := s.heap.size)
  have hl := lv_entry av (n := maxL) hav
  rw [lg_entry_eq]
  exact body p e s m _ below meth _ _ ⟨B.exec, B.bytes, hml, hown, hts, hK, fun q h => Or.inr h, B.notSynchronized, hG⟩ B.returns htab (fun H locs hS => hZ.kept (fun q h1 h2 => hS.2.1 q h1 h2)) s.heap [] _ hP hD va_S.rf hl
theorem j_laload (h : jC p s m args meth c cc nL own Ts D cl tys A) (q0 t0 : Nat) {cA : ClassId} {n a : Nat} {f : Nat → Int64} (ha : w[q0]? = some (a, .inl (cA, n, .inr (.inl f)))) (ht : tys[t0]? = some (cA, .long)) {i : Int32} (hi : vp_in i n) (hd : decode cc pc = .ok (.laload, 1)) (kk : J p l e R s m args below meth c D cl A nL cells slots Q w (pc + 1) lv (.long (f i.toNatClampNeg) :: st)) : J p l e R s m args below meth c D cl A nL cells slots Q w pc lv (.int i :: .ref a :: st) :=
  fun H locs ls hP hD hS hl => va_lald h.1 h.2.1 h.2.2.2.2.2.1 hP q0 t0 ha ht hi hd (kk H locs ls hP hD hS hl)
theorem j_lastore (h : jC p s m args meth c cc nL own Ts D cl tys A) (q0 t0 : Nat) {cA : ClassId} {n a : Nat} {f : Nat → Int64} (ha : w[q0]? = some (a, .inl (cA, n, .inr (.inl f)))) (ht : tys[t0]? = some (cA, .long)) {i : Int32} {x : Int64} (hi : vp_in i n) {w' : va_W} (hw : w.set q0 (a, .inl (cA, n, .inr (.inl (vp_updL f i.toNatClampNeg x)))) = w') (hd : decode cc pc = .ok (.lastore, 1)) (kk : J p l e R s m args below meth c D cl A nL cells slots Q w' (pc + 1) lv st) : J p l e R s m args below meth c D cl A nL cells slots Q w pc lv (.long x :: .int i :: .ref a :: st) := by
  subst hw
  exact fun H locs ls hP hD hS hl => va_last h.1 h.2.1 h.2.2.2.2.2.1 hP hD hS q0 t0 ha ht hi hd (fun H1 locs1 hP1 hD1 hS1 => kk H1 locs1 ls hP1 hD1 hS1 hl)
theorem j_lcmp (h : jC p s m args meth c cc nL own Ts D cl tys A) {x y : Int64} (hd : decode cc pc = .ok (.lcmp, 1)) (kk : J p l e R s m args below meth c D cl A nL cells slots Q w (pc + 1) lv (.int (lg_cmp x y) :: st)) : J p l e R s m args below meth c D cl A nL cells slots Q w pc lv (.long y :: .long x :: st) :=
  fun H locs ls hP hD hS hl => W.lcmp h.1 h.2.1 hd (kk H locs ls hP hD hS hl)
theorem z_cast {E : String} (hE : E ∈ zE) (hZ : ∀ (H : Heap) (locs : List Loc), va_S A s.heap H locs → jZ A s H) : (Cond.castable E E).before args s = true := by
  obtain ⟨U0, h1, ⟨k0, k1, k2, k3, k4, k5⟩, h3⟩ := hZ s.heap [] va_S.rf
  exact va_Nw.use rfl (va_Nw.warmC h1 (k1 E hE))
theorem z_nc {q : String × String} (hq : q ∈ zP) (hZ : ∀ (H : Heap) (locs : List Loc), va_S A s.heap H locs → jZ A s H) : va_Nc q.1 q.2 s := by
  obtain ⟨U0, h1, ⟨k0, k1, k2, k3, k4, k5⟩, h3⟩ := hZ s.heap [] va_S.rf
  exact va_Nc.moved h1.alike (k2 q hq)
/-! the table's rows -/
theorem tab1 {L : List ExceptionTableEntry} {q1 : Nat × Nat × Nat × Nat} (h : L.map (fun h => (h.startPc, h.endPc, h.handlerPc, h.catchType)) = [q1]) : L = [⟨q1.1, q1.2.1, q1.2.2.1, q1.2.2.2⟩] := by
  cases L with
  | nil => cases h
  | cons x r => cases r with
    | nil => cases h; rfl
    | cons _ _ => cases h
theorem tab2 {L : List ExceptionTableEntry} {q1 q2 : Nat × Nat × Nat × Nat} (h : L.map (fun h => (h.startPc, h.endPc, h.handlerPc, h.catchType)) = [q1, q2]) : L = [⟨q1.1, q1.2.1, q1.2.2.1, q1.2.2.2⟩, ⟨q2.1, q2.2.1, q2.2.2.1, q2.2.2.2⟩] := by
  cases L with
  | nil => cases h
  | cons x r => cases r with
    | nil => cases h
    | cons x2 r => cases r with
      | nil => cases h; rfl
      | cons _ _ => cases h
theorem tab3 {L : List ExceptionTableEntry} {q1 q2 q3 : Nat × Nat × Nat × Nat} (h : L.map (fun h => (h.startPc, h.endPc, h.handlerPc, h.catchType)) = [q1, q2, q3]) : L = [⟨q1.1, q1.2.1, q1.2.2.1, q1.2.2.2⟩, ⟨q2.1, q2.2.1, q2.2.2.1, q2.2.2.2⟩, ⟨q3.1, q3.2.1, q3.2.2.1, q3.2.2.2⟩] := by
  cases L with
  | nil => cases h
  | cons x r => cases r with
    | nil => cases h
    | cons x2 r => cases r with
      | nil => cases h
      | cons x3 r => cases r with
        | nil => cases h; rfl
        | cons _ _ => cases h
/-! a static method with a table, called -/
theorem w_callSW {T : State} {locs : List Loc} (X : Stand p l e R s m args below meth c T locs cells slots) (hexec : p.tables.exec = Jvm.exec) {index : Nat} {y : MethodName} {bytes : ByteArray} {maxL : Nat} {ret : Option FieldType} {hh : List (Nat × Nat × Nat × Nat)}
    (hown : s.vm.findClass own = some m.cls) (hlink : (Cond.methodLink own index y).before args s = true) (hstat : (Cond.static y).before args s = true) (hinit : (Cond.initialized y.cls).before args s = true)
    (hcode : (Cond.codeWith y bytes maxL ret hh).before args s = true) (hy : y.cls ≠ "java/lang/invoke/MethodHandle" ∧ y.cls ≠ "java/lang/invoke/VarHandle")
    {W : Nat} {Pre : Pt → Array Value → Prop} {Post : Pt → Array Value → Option Value → Pt → Prop} (hK : Back l R p e below s args y 3 W Pre Post)
    {g : JFrame} (hg : g.method = m) (hsize : g.locals.size = c.maxLocals) {argsL rest : List Value} (hlen : ∀ sig, parseMethodDescriptor y.desc = some sig → argsL.length = sig.parameters.length)
    (hstack : g.stack = argsL.reverse ++ rest) (hW : 2 * g.monitorRoom + (rest.map fun v => v.category).sum ≤ W) (hdg : decode c.code g.pc = .ok (.invokestatic index, 3))
    (hpre : ∀ vm₁, s.WarmedH vm₁ → Pre ⟨T.setVm vm₁, locs, cells, slots⟩ argsL.toArray) :
    ∃ (v : Option Value) (vm₁ : Vm) (B : Pt), s.WarmedH vm₁ ∧ Stand p l e R s m args below meth c B.U B.locs B.cells B.slots ∧ Post ⟨T.setVm vm₁, locs, cells, slots⟩ argsL.toArray v B ∧
      ∀ target, Steps p.tables e below (B.U.setTop { g with pc := g.pc + 3, stack := v.toList ++ rest }) target → Steps p.tables e below (T.setTop g) target := by
  obtain ⟨mk, methM, cM, hnamed, hmethM, -, -, -, -, -, -, hsigM⟩ := Cond.codeWith_spec hcode
  have hstatic : methM.isStatic = true := Cond.static_spec hnamed hmethM hstat
  obtain ⟨kP, hkP, -⟩ := className_of_methodNamed hnamed
  have hinitP : kP.init = .initialized := Cond.initialized_spec (findClass_of_methodNamed hnamed) hkP hinit
  obtain ⟨vm₁, X₁, hstep₁⟩ := X.invokestatic hexec hown hlink hnamed hmethM hstatic hkP hinitP hy (g := g) hg (argsL := argsL) (rest := rest) (hlen _ hsigM) hstack hdg
  obtain ⟨v, B, X', hpost, hsteps⟩ := hK m meth c ⟨T.setVm vm₁, locs, cells, slots⟩ { g with stack := rest } (.invokestatic index) mk argsL.toArray X₁ hg hsize hdg hW (X₁.named hnamed) (hpre vm₁ X₁.warmed)
  exact ⟨v, vm₁, B, X₁.warmed, X', hpost, fun target h => hstep₁ _ fun acts => by rw [doInvoke_state]; exact hsteps.trans h⟩
theorem j_callSW {y : MethodName} {rmC : Room} {bytes : ByteArray} {maxL n index : Nat} {ret : Option FieldType} {hh : List (Nat × Nat × Nat × Nat)} {As st0 : List Value} {wc wr w1 w2 : va_W} {r : Int32} (h : jC p s m args meth c cc nL own Ts D cl tys A) (hZ : ∀ (H : Heap) (locs : List Loc), va_S A s.heap H locs → jZ A s H)
    (hM : Ch l y bytes maxL ret hh Ts rmC D cl tys As wc w1 r) (g1 : Cond.methodLink own index y ∈ Ts) (g2 : Cond.static y ∈ Ts) (g4 : Cond.initialized y.cls ∈ Ts) (g5 : Cond.codeWith y bytes maxL ret hh ∈ Ts) (hz : rmC.cells = 1 ∧ rmC.slots = 6)
    (hy : y.cls ≠ "java/lang/invoke/MethodHandle" ∧ y.cls ≠ "java/lang/invoke/VarHandle" ∧ (parseMethodDescriptor y.desc).map (fun d => d.parameters.length) = some n) (hR : rmC.frames + 1 ≤ R.frames ∧ 8 + (maxL + 11) + rmC.locals ≤ R.locals) (hn : As.length = n)
    (hst : st0 = As.reverse ++ st) (hroom : (st.map fun v => v.category).sum ≤ 8) (hd : decode cc pc = .ok (.invokestatic index, 3)) (hf : cells + 1 ≤ R.cells ∧ slots + 6 ≤ R.slots)
    (isC isR isF : List Nat) (hC : isC.map (fun i => w[i]?) = wc.map some) (hnC : va_nd isC = true) (hRR : isR.map (fun i => w[i]?) = wr.map some) (hnR : va_nd isR = true) (hdis : ∀ i ∈ isR, i ∉ isC) (hF2 : isF.map (fun i => (wr ++ w1)[i]?) = w2.map some) (hnF : va_nd isF = true)
    (kk : J p l e R s m args below meth c D cl A nL (cells + 1) (slots + 6) Q w2 (pc + 3) lv (.int r :: st)) : J p l e R s m args below meth c D cl A nL cells slots Q w pc lv st0 := by
  subst hst
  intro H locs ls hP hD hS hl
  obtain ⟨hx1, hb, hml, hown, ht, hK, hA, hlocks, hG⟩ := h
  have hPc := j_part hP isC hC
  have hDc := hD.sub isC hnC hC
  have hFc := j_free hDc hS hA
  have hgw : GoodIn Ts (Cond.codeWith y bytes maxL ret hh :: Ts) := fun w hw => (List.mem_cons.mp hw).elim (fun e9 => by rw [e9]; exact hG _ g5) (fun z => hG w z)
  have hbk : Back l R p e below s args y 3 8 (PreOf R 1 6 (jPz D cl tys As wc H.size)) (PostOf (jEi D cl tys (va_A wc H.size) w1 r) 1 6 (va_A wc H.size)) :=
    va_backW (hh := hh) (bytes := bytes) (maxL := maxL) (ret := ret) (hM H.size) j_blindz hz.1 hz.2 hR.1 hR.2 (pay_in ht hgw) List.mem_cons_self (fun a' U hW => word_at hW (hG _ g4).2 (ht _ g4))
  have hlen : ∀ sig, parseMethodDescriptor y.desc = some sig → As.length = sig.parameters.length := fun sig h9 => by
    have h2 := hy.2.2
    rw [h9] at h2
    rw [hn]
    exact (Option.some.inj h2).symm
  have hrun : va_Run p l e R s m args below meth c H locs cells slots 1 6 (F0 m pc ls (As.reverse ++ st)) st (jEi D cl tys (va_A wc H.size) w1 r As.toArray) (va_A wc H.size) := by
    intro T hT X
    obtain ⟨v, vm₁, ⟨U', l2, c2, s2⟩, hW₁, X', ⟨g', mk, t, L, e1, e2, hq, h1, hL, h2, h3⟩, st9⟩ := w_callSW X hx1 (bytes := bytes) (maxL := maxL) (ret := ret) (hh := hh) hown (ht _ g1) (ht _ g2) (ht _ g4) (ht _ g5) ⟨hy.1, hy.2.1⟩ hbk (g := F0 m pc ls (As.reverse ++ st)) rfl (by rw [hml]; exact hl.1) (argsL := As) (rest := st) hlen rfl (lv_room hroom) (by rw [hb]; exact hd)
      (fun vm₁ hW₁ => ⟨hf.1, hf.2, rfl, by show (T.setVm vm₁).heap.size = H.size; rw [show (T.setVm vm₁).heap = H from hT], by rw [show (T.setVm vm₁).heap = H from hT]; exact hPc, va_K.moved (u := s) (U := T.setVm vm₁) hW₁.alike hK, hDc.weaken (fun _ _ _ _ => trivial), by
        rw [show (T.setVm vm₁).heap = H from hT]
        exact ((hZ H locs hS).narrow (fun q hq => Or.inl (hFc q hq))).warm (V := T.setVm vm₁) hW₁⟩)
    dsimp only [Pt.U, Pt.locs, Pt.cells, Pt.slots] at X' e1 e2 h1 h2 h3 st9
    subst h1; subst h2; subst h3
    exact ⟨v, (T.setVm vm₁).calling g' mk As.toArray, t, U', L, hT, X', hL, e1, e2, hq, st9⟩
  refine va_calli hrun hS (fun q _ hq => hFc q hq) hFc (fun r' u t H1 locs1 ht9 hvm hw' hB hz1 hk1 hS1 => ?_)
  obtain ⟨hP1, hK1, hD1⟩ := hB
  rw [ht9] at hP1
  subst hw'
  obtain ⟨a1, a2⟩ := j_joined hP hD isC isR isF hC hRR hnR hdis hF2 hnF hk1 hFc hP1 hD1
  exact kk H1 locs1 ls a1 a2 hS1 hl
/-! the script: read by the law, written by nobody -/
theorem j_sld (h : jC p s m args meth c cc nL own Ts D cl tys A) {b L : Nat} {xs : Nat → Int32} (hX : va_X b L xs s s.heap) (hbl : b < s.heap.size) (hbA : ¬ A b) {i : Int32} (hi : vp_in i L) (hd : decode cc pc = .ok (.iaload, 1)) (kk : J p l e R s m args below meth c D cl A nL cells slots Q w (pc + 1) lv (.int (xs i.toNatClampNeg) :: st)) : J p l e R s m args below meth c D cl A nL cells slots Q w pc lv (.int i :: .ref b :: st) :=
  fun H locs ls hP hD hS hl => va_sld h.1 h.2.1 hX hbl hbA hS hi hd (kk H locs ls hP hD hS hl)
theorem j_slen (h : jC p s m args meth c cc nL own Ts D cl tys A) {b L : Nat} {xs : Nat → Int32} (hX : va_X b L xs s s.heap) (hbl : b < s.heap.size) (hbA : ¬ A b) (hd : decode cc pc = .ok (.arraylength, 1)) (kk : J p l e R s m args below meth c D cl A nL cells slots Q w (pc + 1) lv (.int (Int32.ofNat L) :: st)) : J p l e R s m args below meth c D cl A nL cells slots Q w pc lv (.ref b :: st) :=
  fun H locs ls hP hD hS hl => va_slen h.1 h.2.1 hX hbl hbA hS hd (kk H locs ls hP hD hS hl)
end JH
