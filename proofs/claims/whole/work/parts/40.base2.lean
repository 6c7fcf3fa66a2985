/-! contracts with a premise of the tables beside the list: X stays while nothing but linking goes on -/
section JB2
def jSt (X : State → Prop) : Prop := ∀ (U V : State), U.WarmedH V.vm → X U → X V
def CvX (X : State → Prop) (l : Launch) (y : MethodName) (cc : ByteArray) (maxL : Nat) (ret : Option FieldType) (Ts : List Cond) (rm : Room) (D : va_G) (cl : List vw_C) (tys : List (ClassId × FieldType)) (av : List Value) (w : va_W) (w' : (Nat → Nat) → va_W) (mc ms : Nat) : Prop :=
  ∀ sz : Nat, Met l y (Cond.code y cc maxL ret :: Ts) rm (va_Pc av (fun U => U.heap.size = sz ∧ va_P D cl w U.heap ∧ va_K D cl tys U ∧ va_D (fun _ => True) w ∧ X U)) (jEv D cl tys (va_A w sz) w') mc ms (va_A w sz)
variable {p : Program} {l : Launch} {e : Env} {R : Room} {s : State} {m : MethodId} {args : Array Value} {below : List Frame} {meth : Method} {c : Code} {cc : ByteArray} {nL : Nat} {own : String} {Ts : List Cond} {D : va_G} {cl : List vw_C} {tys : List (ClassId × FieldType)} {A : Nat → Prop} {cells slots : Nat} {Q : State → Prop} {w : va_W} {pc : Nat} {lv : List (Nat × Value)} {st : List Value}
theorem j_blindX {X : State → Prop} {av : List Value} {sz : Nat} (hXs : jSt X) : FrameBlind (va_Pc av (fun U => U.heap.size = sz ∧ va_P D cl w U.heap ∧ va_K D cl tys U ∧ va_D (fun _ => True) w ∧ X U)) :=
  fun a U g mk q => by
    obtain ⟨q0, q1, qP, qK, qD, qX⟩ := q
    exact ⟨q0, q1, qP, va_K.moved (u := U) (U := U.calling g mk a) (Vm.Alike.refl U.vm) qK, qD, hXs U (U.calling g mk a) (State.WarmedH.refl U) qX⟩
theorem CvX_of {X : State → Prop} {y : MethodName} {rm : Room} {maxL mc ms : Nat} {ret : Option FieldType} {av : List Value} {w' : (Nat → Nat) → va_W} (hy : plainFor y = true) (hG : GoodIn Ts Ts) (hav : (lg_sl av).length ≤ maxL)
    (body : ∀ (p : Program) (e : Env) (s : State) (m : MethodId) (args : Array Value) (below : List Frame) (meth : Method) (c : Code) (A : Nat → Prop), jC p s m args meth c cc maxL y.cls Ts D cl tys A → X s → meth.sig.returnType = ret → meth.name = y.name → J p l e rm s m args below meth c D cl A maxL 0 0 (MQ below (jEv D cl tys A w') args s mc ms A) w 0 (lv_args 0 av) []) : CvX X l y cc maxL ret Ts rm D cl tys av w w' mc ms := by
  intro sz
  refine va_MetF (cc := cc) (maxL := maxL) (ret := ret) hy rfl ?_
  intro p e s m args below meth c s₁ B hml hv
  obtain ⟨rfl, hsz, hP, hK, hD0, hX⟩ := hv
  have hts0 := atoms_spec (ws := Cond.code y cc maxL ret :: Ts) B.pre
  have hts : ∀ w ∈ Ts, w.before _ s = true := fun w hw => hts0 w (List.mem_cons_of_mem _ hw)
  have hown : s.vm.findClass y.cls = some m.cls := findClass_of_methodNamed B.named
  subst hsz
  have hD := hD0.self (sz := s.heap.size)
  have hl := lv_entry av (n := maxL) hav
  rw [lg_entry_eq]
  exact body p e s m _ below meth c _ ⟨B.exec, B.bytes, hml, hown, hts, hK, fun q h => Or.inr h, B.notSynchronized, hG⟩ hX B.returns (name_of_methodNamed B.named B.method).1 s.heap [] _ hP hD va_S.rf hl
theorem j_callINN {y : MethodName} {rmC : Room} {bytes : ByteArray} {maxL n index mc ms : Nat} {b : Addr} {As st0 : List Value} {wc wr : va_W} {w1 w2 : (Nat → Nat) → va_W} (h : jC p s m args meth c cc nL own Ts D cl tys A)
    (hM : Cv l y bytes maxL none Ts rmC D cl tys (.ref b :: As) wc w1 mc ms) (g5 : Cond.code y bytes maxL none ∈ Ts) (hz : rmC.cells = mc ∧ rmC.slots = ms) (hini : Cond.initialized y.cls ∈ Ts) {host : String} (hlk : va_Nw (.methodLinkNest own index y host) s) (hin : Cond.instanceMethod y ∈ Ts) (hy1 : y.name = "<init>")
    (hy : y.cls ≠ "java/lang/invoke/MethodHandle" ∧ y.cls ≠ "java/lang/invoke/VarHandle" ∧ (parseMethodDescriptor y.desc).map (fun d => d.parameters.length) = some n) (hR : rmC.frames + 1 ≤ R.frames ∧ 8 + (maxL + 11) + rmC.locals ≤ R.locals) (hn : As.length = n)
    (hst : st0 = As.reverse ++ .ref b :: st) (hroom : (st.map fun v => v.category).sum ≤ 8) (hd : decode cc pc = .ok (.invokespecial index, 3)) (hf : cells + mc ≤ R.cells ∧ slots + ms ≤ R.slots)
    (isC isR isF : List Nat) (hC : isC.map (fun i => w[i]?) = wc.map some) (hnC : va_nd isC = true) (hRR : isR.map (fun i => w[i]?) = wr.map some) (hnR : va_nd isR = true) (hdis : ∀ i ∈ isR, i ∉ isC) (hF2 : ∀ u, isF.map (fun i => (wr ++ w1 u)[i]?) = (w2 u).map some) (hnF : va_nd isF = true)
    (kk : ∀ u : Nat → Nat, J p l e R s m args below meth c D cl A nL (cells + mc) (slots + ms) Q (w2 u) (pc + 3) lv st) : J p l e R s m args below meth c D cl A nL cells slots Q w pc lv st0 := by
  subst hst
  intro H locs ls hP hD hS hl
  have hK := h.2.2.2.2.2.1
  have hPc := j_part hP isC hC
  have hDc := hD.sub isC hnC hC
  have hFc := j_free hDc hS h.2.2.2.2.2.2.1
  have ht9 := h.2.2.2.2.1
  refine va_callv (va_runIN (As := As) (rest := st) ⟨h.1, h.2.1, h.2.2.1, h.2.2.2.1, ht9⟩ (hM H.size) ⟨va_cnB n ht9 (j_goodC h.2.2.2.2.2.2.2.2 g5) rfl hz.1 hz.2 hlk (ht9 _ hini) hy hR, hy1, ht9 _ hin⟩ ⟨j_blind, fun U hU hW => ⟨rfl, by rw [hU], by rw [hU]; exact hPc, va_K.moved hW.alike hK, hDc.weaken (fun _ _ _ _ => trivial)⟩⟩ rfl hn hl.1 rfl (lv_room hroom) hd hf) hS (fun q _ hq => hFc q hq) hFc (fun u t H1 locs1 ht hvm hw' hB hz1 hk1 hS1 => ?_)
  obtain ⟨hP1, hK1, hD1⟩ := hB
  rw [ht] at hP1
  obtain ⟨a1, a2⟩ := j_joined hP hD isC isR isF hC hRR hnR hdis (hF2 u) hnF hk1 hFc hP1 hD1
  exact kk u H1 locs1 ls a1 a2 hS1 hl
theorem j_callIGX {y : MethodName} {rmC : Room} {bytes : ByteArray} {maxL n index mc ms : Nat} {b : Addr} {As st0 : List Value} {wc wr : va_W} {w1 w2 : (Nat → Nat) → va_W} (h : jC p s m args meth c cc nL own Ts D cl tys A)
    {X : State → Prop} (hXs : jSt X) (hX : X s) (hM : CvX X l y bytes maxL none Ts rmC D cl tys (.ref b :: As) wc w1 mc ms) (g5 : Cond.code y bytes maxL none ∈ Ts) (hz : rmC.cells = mc ∧ rmC.slots = ms) (hini : Cond.initialized y.cls ∈ Ts) (hlk : Cond.methodLink own index y ∈ Ts) (hin : Cond.instanceMethod y ∈ Ts) (hy1 : y.name = "<init>")
    (hy : y.cls ≠ "java/lang/invoke/MethodHandle" ∧ y.cls ≠ "java/lang/invoke/VarHandle" ∧ (parseMethodDescriptor y.desc).map (fun d => d.parameters.length) = some n) (hR : rmC.frames + 1 ≤ R.frames ∧ 8 + (maxL + 11) + rmC.locals ≤ R.locals) (hn : As.length = n)
    (hst : st0 = As.reverse ++ .ref b :: st) (hroom : (st.map fun v => v.category).sum ≤ 8) (hd : decode cc pc = .ok (.invokespecial index, 3)) (hf : cells + mc ≤ R.cells ∧ slots + ms ≤ R.slots)
    (isC isR isF : List Nat) (hC : isC.map (fun i => w[i]?) = wc.map some) (hnC : va_nd isC = true) (hRR : isR.map (fun i => w[i]?) = wr.map some) (hnR : va_nd isR = true) (hdis : ∀ i ∈ isR, i ∉ isC) (hF2 : ∀ u, isF.map (fun i => (wr ++ w1 u)[i]?) = (w2 u).map some) (hnF : va_nd isF = true)
    (kk : ∀ u : Nat → Nat, J p l e R s m args below meth c D cl A nL (cells + mc) (slots + ms) Q (w2 u) (pc + 3) lv st) : J p l e R s m args below meth c D cl A nL cells slots Q w pc lv st0 := by
  subst hst
  intro H locs ls hP hD hS hl
  have hK := h.2.2.2.2.2.1
  have hPc := j_part hP isC hC
  have hDc := hD.sub isC hnC hC
  have hFc := j_free hDc hS h.2.2.2.2.2.2.1
  have ht9 := h.2.2.2.2.1
  refine va_callv (va_runI (As := As) (rest := st) ⟨h.1, h.2.1, h.2.2.1, h.2.2.2.1, ht9⟩ (hM H.size) (cwI n ht9 (j_goodC h.2.2.2.2.2.2.2.2 g5) rfl hz.1 hz.2 (ht9 _ hini) (ht9 _ hlk) (ht9 _ hin) hy1 hy hR) ⟨j_blindX hXs, fun U hU hW => ⟨rfl, by rw [hU], by rw [hU]; exact hPc, va_K.moved hW.alike hK, hDc.weaken (fun _ _ _ _ => trivial), hXs s U hW hX⟩⟩ rfl hn hl.1 rfl (lv_room hroom) hd hf) hS (fun q _ hq => hFc q hq) hFc (fun u t H1 locs1 ht hvm hw' hB hz1 hk1 hS1 => ?_)
  obtain ⟨hP1, hK1, hD1⟩ := hB
  rw [ht] at hP1
  obtain ⟨a1, a2⟩ := j_joined hP hD isC isR isF hC hRR hnR hdis (hF2 u) hnF hk1 hFc hP1 hD1
  exact kk u H1 locs1 ls a1 a2 hS1 hl
end JB2
