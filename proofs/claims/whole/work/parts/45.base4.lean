/-! what a throw wants of the start: words that the one list can't hold, two statics, the texts. It is said of a state U0 (the law's entry) whose cells nobody changes -/
section JT
variable {p : Program} {l : Launch} {e : Env} {R : Room} {s : State} {m : MethodId} {args : Array Value} {below : List Frame} {meth : Method} {c : Code} {cc : ByteArray} {nL : Nat} {own : String} {Ts : List Cond} {D : va_G} {cl : List vw_C} {tys : List (ClassId × FieldType)} {A : Nat → Prop} {cells slots : Nat} {Q : State → Prop} {w : va_W} {pc : Nat} {lv : List (Nat × Value)} {st : List Value}
def zE : List String := ["java/lang/IllegalArgumentException", "java/lang/IllegalStateException", "java/lang/UnsupportedOperationException", "java/lang/IndexOutOfBoundsException"]
def zT : List (Nat × String) := [(40, "no such kind"), (45, "no such register"), (59, "cycles were done"), (68, "there are 64 words"), (75, "h is not 0 .. 63"), (90, "n is not 1 .. 2000"), (92, "there are no words"), (105, "no such stage or what"), (129, "no such committed one or what"), (144, "no such place"), (149, "no such cause")]
def zP : List (String × String) := [("java/lang/IllegalStateException", "java/lang/IllegalArgumentException"), ("java/lang/UnsupportedOperationException", "java/lang/IllegalArgumentException"), ("java/lang/UnsupportedOperationException", "java/lang/IllegalStateException")]
def zS : List (String × String) := [("UNASSIGNED_STACK", Bundle.steD), ("SUPPRESSED_SENTINEL", Bundle.listD)]
def zD : List MethodName := [Bundle.initS "java/lang/RuntimeException", Bundle.initS "java/lang/Exception", Bundle.initS Bundle.tN]
def zW (U : State) : Prop := (∀ y ∈ zD, va_Nw (.declares y) U) ∧ (∀ E ∈ zE, va_Nw (.castable E E) U) ∧ (∀ q ∈ zP, va_Nc q.1 q.2 U) ∧ (∀ q ∈ zS, (Cond.laysStatic Bundle.tN q.1 q.2).before #[] U = true ∧ (Cond.isRef (.static Bundle.tN q.1 q.2)).before #[] U = true) ∧ (Cond.initialized Bundle.tN).before #[] U = true ∧ ∀ q ∈ zT, ∃ a : Nat, vk_R "StageCycles" q.1 q.2 a U
def jZ (A : Nat → Prop) (U : State) (H : Heap) : Prop := ∃ U0 : State, U0.WarmedH U.vm ∧ zW U0 ∧ ∀ q : Nat, q < U0.heap.size → ¬ A q ∧ H[q]? = U0.heap[q]?
theorem jZ.warm {U V : State} {H : Heap} (h : jZ A U H) (hW : U.WarmedH V.vm) : jZ A V H := by
  obtain ⟨U0, h1, h2, h3⟩ := h
  exact ⟨U0, State.WarmedH.trans h1 hW, h2, h3⟩
theorem jZ.kept {U : State} {H H1 : Heap} (h : jZ A U H) (hk : ∀ q : Nat, q < H.size → ¬ A q → H1[q]? = H[q]?) : jZ A U H1 := by
  obtain ⟨U0, h1, h2, h3⟩ := h
  refine ⟨U0, h1, h2, fun q hq => ⟨(h3 q hq).1, ?_⟩⟩
  have e := (h3 q hq).2
  have hlt : q < H.size := by
    rw [Array.getElem?_eq_getElem hq] at e
    exact (Array.getElem?_eq_some_iff.mp e).1
  rw [hk q hlt (h3 q hq).1]
  exact e
theorem jZ.narrow {B : Nat → Prop} {U : State} {H : Heap} (h : jZ A U H) (hB : ∀ q : Nat, B q → A q ∨ H.size ≤ q) : jZ B U H := by
  obtain ⟨U0, h1, h2, h3⟩ := h
  refine ⟨U0, h1, h2, fun q hq => ⟨fun z => ?_, (h3 q hq).2⟩⟩
  rcases hB q z with z | z
  · exact (h3 q hq).1 z
  · have e := (h3 q hq).2
    rw [Array.getElem?_eq_getElem hq] at e
    have := (Array.getElem?_eq_some_iff.mp e).1
    omega
theorem z_lays {U0 : State} (hvm : U0.vm.Alike s.vm) (hh : ∀ q : Nat, q < U0.heap.size → s.heap[q]? = U0.heap[q]?) {C n d : String} (h0 : (Cond.laysStatic C n d).before #[] U0 = true) : (Cond.laysStatic C n d).before args s = true := by
  obtain ⟨c9, k, i, f, a, cell, h1, h2, h3, h4, h5, h6, h7, h8, h9⟩ := Cond.laysStatic_spec h0
  obtain ⟨k', hi', he⟩ := State.fieldFound?_setVm hvm h2
  show (Cond.laysStatic C n d).holds args s none s [] = true
  exact Cond.laysStatic_of (by rw [hvm.findClass]; exact h1) hi' h3 (by rw [he]; exact h4) (by rw [hh a (Array.getElem?_eq_some_iff.mp h5).1]; exact h5) h6 h7 h8 (by rw [he]; exact h9)
theorem z_ref {U0 : State} (hvm : U0.vm.Alike s.vm) (hh : ∀ q : Nat, q < U0.heap.size → s.heap[q]? = U0.heap[q]?) {C n d : String} (h0 : (Cond.laysStatic C n d).before #[] U0 = true) (hi : (Cond.initialized C).before #[] U0 = true) (hr : (Cond.isRef (.static C n d)).before #[] U0 = true) : (Cond.isRef (.static C n d)).before args s = true := by
  have hz := va_Zqof (A := fun _ => False) h0 hi hr (fun _ _ z => z)
  have one : ∀ v : Value, v.isRef = true → va_Z C n d v (fun _ => False) U0 U0.heap → (Cond.isRef (.static C n d)).before args s = true := by
    intro v hv z
    obtain ⟨cf, kf, fi, f, a, cell, h1, h2, h3, h4, h5, h6, h7, -⟩ := (va_Z.moved hvm z).kept (fun q hq _ => hh q hq)
    have he : (Term.static C n d).eval args s none [] s = some v := by
      simp [Term.eval, State.fieldNamed?, h1, h2, h4, h5, h6, h7]
    simp only [Cond.before, Cond.holds, Cond.value, he]
    cases v <;> simp_all [Value.isRef]
  rcases hz with z | ⟨t, z⟩
  · exact one _ rfl z
  · exact one _ rfl z
def zNames : List String := ["java/lang/RuntimeException", "java/lang/Exception"]
def zFive (E : String) : List Cond := [.declares (Bundle.initS "java/lang/RuntimeException"), .declares (Bundle.initS "java/lang/Exception"), .declares (Bundle.initS Bundle.tN), .castable E E, .laysStatic Bundle.tN "UNASSIGNED_STACK" Bundle.steD, .laysStatic Bundle.tN "SUPPRESSED_SENTINEL" Bundle.listD, .isRef (.static Bundle.tN "UNASSIGNED_STACK" Bundle.steD), .isRef (.static Bundle.tN "SUPPRESSED_SENTINEL" Bundle.listD)]
theorem z_at (ic : Nat) {E : String} (hE : E ∈ zE) (hall : (Bundle.ownAtoms "StageCycles" ic E zNames).all (fun w => decide (w ∈ TB) || decide (w ∈ zFive E)) = true) (hts : ∀ w ∈ TB, w.before args s = true) (hZ : jZ A s s.heap) : ∀ w ∈ Bundle.ownAtoms "StageCycles" ic E zNames, w.before args s = true := by
  intro w9 hw
  obtain ⟨U0, h1, ⟨k0, k1, k2, k3, k4, k5⟩, h3⟩ := hZ
  have hh : ∀ q : Nat, q < U0.heap.size → s.heap[q]? = U0.heap[q]? := fun q hq => (h3 q hq).2
  have hd := List.all_eq_true.mp hall w9 hw
  simp only [Bool.or_eq_true, decide_eq_true_eq] at hd
  rcases hd with hd | hd
  · exact hts w9 hd
  · simp only [zFive, List.mem_cons, List.not_mem_nil, or_false] at hd
    rcases hd with rfl | rfl | rfl | rfl | rfl | rfl | rfl | rfl
    · exact va_Nw.use rfl (va_Nw.warmD h1 (k0 _ (by simp [zD])))
    · exact va_Nw.use rfl (va_Nw.warmD h1 (k0 _ (by simp [zD])))
    · exact va_Nw.use rfl (va_Nw.warmD h1 (k0 _ (by simp [zD])))
    · exact va_Nw.use rfl (va_Nw.warmC h1 (k1 E hE))
    · exact z_lays h1.alike hh (k3 ("UNASSIGNED_STACK", Bundle.steD) (by simp [zS])).1
    · exact z_lays h1.alike hh (k3 ("SUPPRESSED_SENTINEL", Bundle.listD) (by simp [zS])).1
    · exact z_ref h1.alike hh (k3 ("UNASSIGNED_STACK", Bundle.steD) (by simp [zS])).1 k4 (k3 ("UNASSIGNED_STACK", Bundle.steD) (by simp [zS])).2
    · exact z_ref h1.alike hh (k3 ("SUPPRESSED_SENTINEL", Bundle.listD) (by simp [zS])).1 k4 (k3 ("SUPPRESSED_SENTINEL", Bundle.listD) (by simp [zS])).2
theorem z_text {k : Nat} {tx : String} (hq : (k, tx) ∈ zT) (hZ : jZ A s s.heap) : ∃ a : Nat, (Cond.stringRef "StageCycles" k tx).before args s = true ∧ (Term.string "StageCycles" k).eval args s none [] s = some (.ref a) := by
  obtain ⟨U0, h1, ⟨k0, k1, k2, k3, k4, k5⟩, h3⟩ := hZ
  obtain ⟨a, ha⟩ := k5 _ hq
  exact ⟨a, (vk_R.warm h1 ha).1, (vk_R.warm h1 ha).2⟩
/-! a method that throws E -/
abbrev jPz (D : va_G) (cl : List vw_C) (tys : List (ClassId × FieldType)) (av : List Value) (w : va_W) (sz : Nat) : Array Value → State → Prop := va_Pc av (fun U => U.heap.size = sz ∧ va_P D cl w U.heap ∧ va_K D cl tys U ∧ va_D (fun _ => True) w ∧ jZ (va_A w sz) U U.heap)
def CT (l : Launch) (y : MethodName) (cc : ByteArray) (maxL : Nat) (ret : Option FieldType) (Ts : List Cond) (rm : Room) (D : va_G) (cl : List vw_C) (tys : List (ClassId × FieldType)) (av : List Value) (w : va_W) (E : String) : Prop :=
  ∀ sz : Nat, MetFree l y (headSpec (Cond.code y cc maxL ret :: Ts) rm) (jPz D cl tys av w sz) (fun _ _ _ _ _ => True) (jQt D cl tys (va_A w sz) w E)
theorem j_blindz {av : List Value} {sz : Nat} : FrameBlind (jPz D cl tys av w sz) :=
  fun a U g mk q => by
    obtain ⟨q0, q1, qP, qK, qD, qX⟩ := q
    exact ⟨q0, q1, qP, va_K.moved (u := U) (U := U.calling g mk a) (Vm.Alike.refl U.vm) qK, qD, jZ.warm (V := U.calling g mk a) qX (State.WarmedH.refl U)⟩
theorem CT_of {y : MethodName} {rm : Room} {maxL : Nat} {ret : Option FieldType} {av : List Value} {E : String} (hy : plainFor y = true) (hG : GoodIn Ts Ts) (hav : (lg_sl av).length ≤ maxL)
    (body : ∀ (p : Program) (e : Env) (s : State) (m : MethodId) (args : Array Value) (below : List Frame) (meth : Method) (c : Code) (A : Nat → Prop), jC p s m args meth c cc maxL y.cls Ts D cl tys A → va_P D cl w s.heap → va_D A w → jZ A s s.heap → (∀ x ∈ c.exceptionTable.toList, False) → jR p l e rm s m args below meth c maxL (jMT below D cl tys A w E args s) 0 (lv_args 0 av) []) : CT l y cc maxL ret Ts rm D cl tys av w E := by
  intro sz
  refine MetFree.of_bodySF (code := cc) (maxLocals := maxL) (ret := ret) hy ?_ ?_
  · intro args s m h hn
    obtain ⟨meth, c, h1, h2, h3, h4, h5, h6, -, -⟩ := Cond.code_spec hn (atoms_spec (ws := Cond.code y cc maxL ret :: Ts) h _ List.mem_cons_self)
    exact ⟨meth, c, h1, h2, h3, h4, h5, h6⟩
  · intro p e s m args below meth c s₁ B hml hv _
    obtain ⟨rfl, hsz, hP, hK, hD0, hZ⟩ := hv
    have hts0 := atoms_spec (ws := Cond.code y cc maxL ret :: Ts) B.pre
    have hts : ∀ w ∈ Ts, w.before _ s = true := fun w hw => hts0 w (List.mem_cons_of_mem _ hw)
    have hown : s.vm.findClass y.cls = some m.cls := findClass_of_methodNamed B.named
    have hne := B.noHandlers (hts0 _ List.mem_cons_self)
    subst hsz
    have hD := hD0.self (sz := s.heap.size)
    have hl := lv_entry av (n := maxL) hav
    have hh0 : s₁.heap = s.heap := by rw [B.state]; rfl
    have K := body p e s m _ below meth c _ ⟨B.exec, B.bytes, hml, hown, hts, hK, fun q h => Or.inr h, B.notSynchronized, hG⟩ hP hD hZ (fun x hx => by
      have : c.exceptionTable.toList = [] := by simpa [Array.isEmpty_iff] using hne
      rw [this] at hx
      cases hx) _ hl
    rw [lg_entry_eq]
    obtain ⟨t, a1, o, b1, b2, b3⟩ := K s₁ hh0 (Stand.of_body B)
    exact ⟨t, o, a1, b1, b2, b3⟩
/-! the caller: the callee throws E, a row of the caller's table takes it -/
theorem j_callT {y : MethodName} {rmC : Room} {bytes : ByteArray} {maxL n index ci q0 N : Nat} {ret : Option FieldType} {b : Addr} {As st0 fs : List Value} {wc wr : va_W} {C E name : String} {T : u_T} (h : jC p s m args meth c cc nL own Ts D cl tys A) (hZ : ∀ (H : Heap) (locs : List Loc), va_S A s.heap H locs → jZ A s H)
    (hM : CT l y bytes maxL ret Ts rmC D cl tys (.ref b :: As) wc E) (g1 : Cond.methodLink own index y ∈ Ts) (g2 : Cond.instanceMethod y ∈ Ts) (g3 : Cond.selects C y y ∈ Ts) (g4 : Cond.initialized C ∈ Ts) (g5 : Cond.code y bytes maxL ret ∈ Ts) (hz : rmC.cells = 1 ∧ rmC.slots = 6)
    (hy : y.cls = C ∧ y.cls ≠ "java/lang/invoke/MethodHandle" ∧ y.cls ≠ "java/lang/invoke/VarHandle" ∧ (parseMethodDescriptor y.desc).map (fun d => d.parameters.length) = some n) (hR : rmC.frames + 1 ≤ R.frames ∧ 8 + (maxL + 11) + rmC.locals ≤ R.locals) (hn : As.length = n) (hc : cl[ci]? = some (C, T, N)) (he : w[q0]? = some (b, .inr (ci, fs)))
    (hst : st0 = As.reverse ++ .ref b :: st) (hroom : (st.map fun v => v.category).sum ≤ 8) (hd : decode cc pc = .ok (.invokevirtual index, 3)) (hf : cells + 1 ≤ R.cells ∧ slots + 6 ≤ R.slots)
    (isC isR isF : List Nat) (hC : isC.map (fun i => w[i]?) = wc.map some) (hnC : va_nd isC = true) (hRR : isR.map (fun i => w[i]?) = wr.map some) (hnR : va_nd isR = true) (hdis : ∀ i ∈ isR, i ∉ isC) (hF2 : isF.map (fun i => (wr ++ wc)[i]?) = w.map some) (hnF : va_nd isF = true)
    (pre : List ExceptionTableEntry) (x : ExceptionTableEntry) (suf : List ExceptionTableEntry) (hsplit : c.exceptionTable.toList = pre ++ x :: suf)
    (hpass : ∀ z ∈ pre, z.catchType ≠ 0 ∧ ∃ nm : String, (Cond.classLink own z.catchType nm).before args s = true ∧ va_Nc E nm s) (hx : covers x pc = true) (h0 : x.catchType ≠ 0) (hlink : (Cond.classLink own x.catchType name).before args s = true) (hcast : (Cond.castable E name).before args s = true)
    (kk : ∀ q9 : Nat, J p l e R s m args below meth c D cl A nL (cells + 1) (slots + 6) Q w x.handlerPc lv [.ref q9]) : J p l e R s m args below meth c D cl A nL cells slots Q w pc lv st0 := by
  subst hst
  intro H locs ls hP hD hS hl T0 hT X
  obtain ⟨hx1, hb, hml, hown, ht, hK, hA, hlocks, hG⟩ := h
  obtain ⟨rfl, hy2, hy3, hyn⟩ := hy
  have hPc := j_part hP isC hC
  have hDc := hD.sub isC hnC hC
  have hFc := j_free hDc hS hA
  have hpl : e.platform.magicAccessors = ({} : Platform).magicAccessors := by rw [X.admits.platform]
  obtain ⟨cellB, hcB, hoB, hclB⟩ := va_recv hK hP hc he
  obtain ⟨mk, methM, hnamed, hmethM, hstM, habM⟩ := Cond.instanceMethod_spec (ht _ g2)
  obtain ⟨methM', cM, hmethM', -, -, -, -, -, -, hsigM⟩ := Cond.code_spec hnamed (ht _ g5)
  cases hmethM.symm.trans hmethM'
  obtain ⟨c2, r2, m2, q1, q2, q3, q4, kP, hkP, hkPi⟩ := Cond.selects_spec (ht _ g3)
  cases hclB.symm.trans q1
  cases (State.methodFound?_of_named hnamed ⟨hy2, hy3⟩).symm.trans q2
  cases hnamed.symm.trans q3
  have hselP : selectMethod e.platform s.vm cellB.cls mk = .method mk := by rw [Launch.admits_selectMethod X.admits]; exact q4
  have hlen : As.length = methM.sig.parameters.length := by
    rw [hsigM] at hyn
    rw [hn]
    exact (Option.some.inj hyn).symm
  obtain ⟨vm₁, X₁, hstep₁⟩ := X.invokevirtual hx1 hown (ht _ g1) hnamed hmethM hstM hkP hkPi ⟨hy2, hy3⟩ (a := b) (cell := cellB) (by rw [hT]; exact hcB)
    (fun z hz9 => by rw [hz9] at hoB; cases hoB) hselP hmethM habM hkP hkPi (g := F0 m pc ls (As.reverse ++ .ref b :: st)) rfl (argsL := As) (rest := st) hlen rfl (by rw [hb]; exact hd)
  have hB : Jvm.Free.BackT l R p e below s args y 3 8 (fun A9 a9 => A9.U.heap = H ∧ a9 = (Value.ref b :: As).toArray ∧ A9.cells + 1 ≤ R.cells ∧ A9.slots + 6 ≤ R.slots)
      (fun A9 a9 v B9 => ∃ first t : State, first.heap = A9.U.heap ∧ first.vm = A9.U.vm ∧ jQt D cl tys (va_A wc H.size) wc E a9 first (.threw v) t ∧ B9.U.heap = t.heap ∧ B9.U.vm = t.vm ∧ B9.locs = A9.locs ∧ B9.cells = A9.cells + 1 ∧ B9.slots = A9.slots + 6) := by
    refine Jvm.Free.BackT.of_free (S := headSpec (Cond.code y bytes maxL ret :: Ts) rmC) (bytes := bytes) (maxL := maxL) (ret := ret) (E := fun _ _ _ _ L k n => L = [] ∧ k = 1 ∧ n = 6) (hM H.size) hR.1 hR.2 ?_ ?_ (fun _ _ _ _ _ _ _ _ _ => trivial) ?_ ?_
    · intro m9 meth9 c9 A9 a9 X9 hp9
      have hw9 : ∀ w ∈ Ts, w.before a9 A9.U = true := fun w hw => word_at X9.warmed (hG w hw).2 (ht w hw)
      exact ⟨atoms_intro fun w hw => (List.mem_cons.mp hw).elim (fun e9 => by rw [e9]; exact hw9 _ g5) (hw9 w), hw9 _ g5, hw9 _ g4, by rw [show (headSpec (Cond.code y bytes maxL ret :: Ts) rmC).room.cells = 1 from hz.1]; exact hp9.2.2.1, by rw [show (headSpec (Cond.code y bytes maxL ret :: Ts) rmC).room.slots = 6 from hz.2]; exact hp9.2.2.2⟩
    · intro m9 meth9 c9 A9 a9 g9 mk9 X9 hp9
      refine j_blindz a9 A9.U g9 mk9 ?_
      obtain ⟨e1, e2, -, -⟩ := hp9
      refine ⟨e2, by rw [e1], by rw [e1]; exact hPc, va_K.moved X9.warmed.alike hK, hDc.weaken (fun _ _ _ _ => trivial), ?_⟩
      rw [e1]
      exact ((hZ H locs hS).narrow (fun q hq => Or.inl (hFc q hq))).warm X9.warmed
    · intro a9 first o9 t9 hq9
      obtain ⟨q9, ce, ho, -, -, -, -, -, hW9, hs9⟩ := hq9
      exact ⟨[], 1, 6, ⟨⟨q9, ho⟩, hW9, hs9⟩, rfl, rfl, rfl⟩
    · intro m9 meth9 c9 A9 a9 g9 mk9 v9 t9 L9 k9 n9 X9 hp9 hq9 hfe9 hE9
      obtain ⟨rfl, rfl, rfl⟩ := hE9
      exact ⟨A9.U.calling g9 mk9 a9, t9, rfl, rfl, hq9, rfl, rfl, by simp, rfl, rfl⟩
  obtain ⟨v, ⟨U9, l9, c9, s9⟩, X', ⟨first, t, f1, f2, ⟨q9, ce, ho, ⟨hP1, hK1, hD1⟩, hF, hce, hcv, hcl9, hW9, hs9⟩, e1, e2, e3, e4, e5⟩, hsteps⟩ := hB m meth c ⟨T0.setVm vm₁, locs, cells, slots⟩ (F0 m pc ls st) (.invokevirtual index) mk (Value.ref b :: As).toArray X₁ rfl (by rw [hml]; exact hl.1) (by rw [hb]; exact hd) (lv_room hroom) (X₁.named hnamed) ⟨hT, rfl, hf.1, hf.2⟩
  try dsimp only [Pt.U, Pt.locs, Pt.cells, Pt.slots] at X'
  try dsimp only [Pt.U, Pt.locs, Pt.cells, Pt.slots] at e1
  try dsimp only [Pt.U, Pt.locs, Pt.cells, Pt.slots] at e2
  try dsimp only [Pt.U, Pt.locs, Pt.cells, Pt.slots] at e3
  try dsimp only [Pt.U, Pt.locs, Pt.cells, Pt.slots] at e4
  try dsimp only [Pt.U, Pt.locs, Pt.cells, Pt.slots] at e5
  try dsimp only [Pt.U, Pt.locs, Pt.cells, Pt.slots] at hsteps
  try dsimp only [Pt.U, Pt.locs, Pt.cells, Pt.slots] at f1
  try dsimp only [Pt.U, Pt.locs, Pt.cells, Pt.slots] at f2
  subst e3; subst e4; subst e5
  obtain rfl : v = q9 := by cases ho; rfl
  have hheap : first.heap = H := f1.trans hT
  have hvm1 : s.WarmedH first.vm := by rw [f2]; exact X₁.warmed
  have hcls : s.vm.findClass E = some ce.cls := by
    rw [hvm1.alike.findClass] at hcl9
    exact hcl9
  obtain ⟨c3, c4, hc3, hc4, hasg⟩ := Cond.castable_spec hcast
  cases Option.some.inj (hc3.symm.trans hcls)
  obtain ⟨c5, hc5, hcl5⟩ := Cond.classLink_spec hown hlink e.platform hpl
  cases Option.some.inj (hc4.symm.trans hc5)
  obtain ⟨vm', X2, st2⟩ := X'.thenCaughtThrough v (g := F0 m pc ls st) rfl ((hstep₁ _ fun acts => by rw [doInvoke_state]; exact Steps.refl _).trans hsteps) (by rw [e1]; exact hce) (by rw [hcv]; rfl) (by obtain ⟨k9, h9, -⟩ := Vm.findClass_spec hcls; exact ⟨k9, h9⟩) pre x suf hsplit
    (fun z hz9 => by
      obtain ⟨hz0, nm, hl1, a8, b8, k1, k2, k3⟩ := hpass z hz9
      obtain ⟨c6, hc6, hcl6⟩ := Cond.classLink_spec hown hl1 e.platform hpl
      cases Option.some.inj (k1.symm.trans hcls)
      cases Option.some.inj (k2.symm.trans hc6)
      exact Or.inr ⟨hz0, _, hcl6, k3⟩) hx (Or.inr ⟨h0, c4, hcl5, hasg⟩)
  obtain ⟨hFz, hFk⟩ := hF
  rw [hheap] at hFz hFk
  obtain ⟨a1, a2⟩ := j_joined hP hD isC isR isF hC hRR hnR hdis hF2 hnF hFk hFc hP1 hD1
  have hS2 : va_S A s.heap t.heap l9 := ⟨Nat.le_trans hS.1 hFz, fun q g7 g8 => by rw [hFk q (Nat.lt_of_lt_of_le g7 hS.1) (fun z => g8 (hFc q z))]; exact hS.2.1 q g7 g8, hS.2.2⟩
  obtain ⟨t2, b1, b2⟩ := kk v t.heap l9 ls a1 a2 hS2 hl (U9.setVm vm') e1 X2
  exact ⟨t2, st2.trans b1, b2⟩
/-- a call into some places of the world, with an answer -/
theorem j_callViG {y : MethodName} {rmC : Room} {bytes : ByteArray} {maxL n index ci q0 N : Nat} {ret : Option FieldType} {b : Addr} {As st0 fs : List Value} {wc wr w1 w2 : va_W} {r : Int32} {C : String} {T : u_T} (h : jC p s m args meth c cc nL own Ts D cl tys A)
    (hM : Ci l y bytes maxL ret Ts rmC D cl tys (.ref b :: As) wc w1 r) (g1 : Cond.methodLink own index y ∈ Ts) (g2 : Cond.instanceMethod y ∈ Ts) (g3 : Cond.selects C y y ∈ Ts) (g4 : Cond.initialized C ∈ Ts) (g5 : Cond.code y bytes maxL ret ∈ Ts) (hz : rmC.cells = 0 ∧ rmC.slots = 0)
    (hy : y.cls = C ∧ y.cls ≠ "java/lang/invoke/MethodHandle" ∧ y.cls ≠ "java/lang/invoke/VarHandle" ∧ (parseMethodDescriptor y.desc).map (fun d => d.parameters.length) = some n) (hR : rmC.frames + 1 ≤ R.frames ∧ 8 + (maxL + 11) + rmC.locals ≤ R.locals) (hn : As.length = n) (hc : cl[ci]? = some (C, T, N)) (he : w[q0]? = some (b, .inr (ci, fs)))
    (hst : st0 = As.reverse ++ .ref b :: st) (hroom : (st.map fun v => v.category).sum ≤ 8) (hd : decode cc pc = .ok (.invokevirtual index, 3)) (hf : cells ≤ R.cells ∧ slots ≤ R.slots)
    (isC isR isF : List Nat) (hC : isC.map (fun i => w[i]?) = wc.map some) (hnC : va_nd isC = true) (hRR : isR.map (fun i => w[i]?) = wr.map some) (hnR : va_nd isR = true) (hdis : ∀ i ∈ isR, i ∉ isC) (hF2 : isF.map (fun i => (wr ++ w1)[i]?) = w2.map some) (hnF : va_nd isF = true)
    (kk : J p l e R s m args below meth c D cl A nL cells slots Q w2 (pc + 3) lv (.int r :: st)) : J p l e R s m args below meth c D cl A nL cells slots Q w pc lv st0 := by
  subst hst
  intro H locs ls hP hD hS hl
  have hK := h.2.2.2.2.2.1
  have hPc := j_part hP isC hC
  have hDc := hD.sub isC hnC hC
  have hFc := j_free hDc hS h.2.2.2.2.2.2.1
  refine va_calli (va_runV (As := As) (rest := st) ⟨h.1, h.2.1, h.2.2.1, h.2.2.2.1, h.2.2.2.2.1⟩ (hM H.size) (cwV n h.2.2.2.2.1 (j_goodV h.2.2.2.2.2.2.2.2 g1 g2 g3 g4 g5) rfl hz.1 hz.2 hy hR) ⟨j_blind, va_recv hK hP hc he, fun U hU hW => ⟨rfl, by rw [hU], by rw [hU]; exact hPc, va_K.moved hW.alike hK, hDc.weaken (fun _ _ _ _ => trivial)⟩⟩ rfl hn hl.1 rfl (lv_room hroom) hd hf) hS (fun q _ hq => hFc q hq) hFc (fun r' u t H1 locs1 ht hvm hw' hB hz1 hk1 hS1 => ?_)
  obtain ⟨hP1, hK1, hD1⟩ := hB
  rw [ht] at hP1
  subst hw'
  obtain ⟨a1, a2⟩ := j_joined hP hD isC isR isF hC hRR hnR hdis hF2 hnF hk1 hFc hP1 hD1
  exact kk H1 locs1 ls a1 a2 hS1 hl
end JT
