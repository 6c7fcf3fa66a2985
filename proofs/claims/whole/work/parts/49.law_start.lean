def R_law : String := "StageCyclesLaw"
def lw_P (b : Addr) (xs : List Int32) (args : Array Value) (s : State) : Prop := args = #[.ref b] ∧ s.IntsAt b xs ∧ xs.length ≤ 3078 ∧ (Jvm.Cond.and given_1 narrow_1).before args s = true
def lw_Q (_ : Array Value) (s : State) (o : Outcome) (t : State) : Prop := o = .returned (some (.int 1)) ∧ Framed s o t [] 1084 11781
def lw_Z (below : List Frame) (a : Array Value) (s : State) : State → Prop := fun t => ∃ o, t.status = .running ∧ Ended t below o ∧ lw_Q a s o t
/-- the law's own end, with 1 on the stack, nothing written that was there before, its room as the claim has it -/
theorem lw_ret {p : Program} {l : Launch} {e : Env} {s : State} {m : MethodId} {below : List Frame} {meth : Method} {c : Code} {b : Nat} (hx : p.tables.exec = Jvm.exec) (hb : c.code = code) (hr : meth.sig.returnType = ret) (hlocks : meth.locks = false) {pc : Nat} {H : Heap} {ls : Array Slot} (hdg : decode code pc = .ok (.ireturn, 1)) : W p l e room_1 s m #[Value.ref b] below meth c H [] 1084 11781 (lw_Z below #[Value.ref b] s) (F0 m pc ls [.int 1]) := by
  intro T hT X
  obtain ⟨fs, hret, hrun, hended, hW, hframe⟩ := X.leave (v := some (.int 1)) (hlocks := hlocks) (fun h => by rw [hr] at h; cases h)
  have hmeth' : T.vm.method? m = some meth := X.method'
  refine ⟨T.setFrames fs, ?_, .returned (some (.int 1)), hrun, hended, rfl, ⟨_, rfl⟩, hW, hframe⟩
  jvm_step X.here [X.here.top, hx, hb, hdg, hmeth', hr, ret, narrow_b1]
  (try refine ⟨rfl, ?_⟩); (try refine ⟨rfl, ?_⟩)
  first | (intro acts; rw [hret _ acts rfl rfl rfl]) | rw [hret _ _ rfl rfl rfl]
  exact Steps.refl _
/-- what holds at the law's entry: the machine, the code, the tables' words (any of lw_tbl by 'hts w (by decide +kernel)'), the script of L ints xs at the cell b, what the Statement gives of the start (any of its parts by flat_of_before) -/
def lw_At (p : Program) (s : State) (m : MethodId) (meth : Method) (c : Code) (b L : Nat) (xs : Nat → Int32) : Prop :=
  p.tables.exec = Jvm.exec ∧ c.code = code ∧ meth.sig.returnType = ret ∧ c.maxLocals = 7 ∧ s.vm.findClass R_law = some m.cls ∧ (∀ w ∈ lw_tbl, w.before #[Value.ref b] s = true) ∧ va_X b L xs s s.heap ∧ b < s.heap.size ∧ meth.locks = false ∧ (Jvm.Cond.and given_1 narrow_1).before #[Value.ref b] s = true
/-! the law's start: the premises of the tables and of the throws, the classes' numbers, the cell of the script -/
section JW
variable {p : Program} {l : Launch} {e : Env} {R : Room} {s : State} {m : MethodId} {args : Array Value} {below : List Frame} {meth : Method} {c : Code} {cc : ByteArray} {nL : Nat} {own : String} {Ts : List Cond} {D : va_G} {cl : List vw_C} {tys : List (ClassId × FieldType)} {A : Nat → Prop} {cells slots : Nat} {Q : State → Prop} {w : va_W} {pc : Nat} {lv : List (Nat × Value)} {st : List Value}
theorem zD_in : ∀ y ∈ zD, Cond.declares y ∈ lw_tbl := by decide +kernel
theorem zE_in : ∀ E ∈ zE, Cond.castable E E ∈ lw_tbl := by decide +kernel
theorem zP_in : ∀ q ∈ zP, Cond.not (.castable q.1 q.2) ∈ flatC (Jvm.Cond.and given_1 narrow_1) := by decide +kernel
theorem zS_in1 : ∀ q ∈ zS, Cond.laysStatic Bundle.tN q.1 q.2 ∈ lw_tbl := by decide +kernel
theorem zS_in2 : ∀ q ∈ zS, Cond.isRef (.static Bundle.tN q.1 q.2) ∈ flatC (Jvm.Cond.and given_1 narrow_1) := by decide +kernel
theorem zI_in : Cond.initialized Bundle.tN ∈ lw_tbl := by decide +kernel
theorem zT_in : ∀ q ∈ zT, Cond.stringRef "StageCycles" q.1 q.2 ∈ lw_tbl := by decide +kernel
theorem zX_in : Cond.methodLinkNest "StageCycles" 20 yX3_init "StageCycles" ∈ lw_tbl ∧ Cond.methodLinkNest "StageCycles$Line" 20 yX0_init "StageCycles" ∈ lw_tbl ∧ Cond.methodLinkNest "StageCycles$Line" 27 yX6_init "StageCycles" ∈ lw_tbl := by decide +kernel
theorem z_args (t : Term) {C n d : String} (ht : t = .static C n d) {A1 A2 : Array Value} {U : State} (h : (Cond.isRef t).before A1 U = true) : (Cond.isRef t).before A2 U = true := by
  subst ht
  simpa [Cond.before, Cond.holds, Cond.value, Term.eval] using h
theorem z_laysA {C n d : String} {A1 A2 : Array Value} {U : State} (h : (Cond.laysStatic C n d).before A1 U = true) : (Cond.laysStatic C n d).before A2 U = true := by
  simpa [Cond.before, Cond.holds, Cond.value, Term.eval] using h
theorem z_stringA {C tx : String} {k : Nat} {A1 A2 : Array Value} {U : State} (h : (Cond.stringRef C k tx).before A1 U = true) : (Cond.stringRef C k tx).before A2 U = true := by
  simpa [Cond.before, Cond.holds, Cond.value, Term.eval] using h
theorem zW_start {b : Nat} (hts : ∀ w ∈ lw_tbl, w.before #[Value.ref b] s = true) (hgv : (Jvm.Cond.and given_1 narrow_1).before #[Value.ref b] s = true) {cS : ClassId} (hcs : s.vm.findClass "StageCycles" = some cS) : zW s := by
  have hfl := flat_of_before _ hgv
  refine ⟨fun y hy => va_Nw.of rfl (hts _ (zD_in y hy)), fun E hE => va_Nw.of rfl (hts _ (zE_in E hE)), fun q hq => va_Nc.of (hfl _ (zP_in q hq)), fun q hq => ⟨z_laysA (hts _ (zS_in1 q hq)), z_args _ rfl (hfl _ (zS_in2 q hq))⟩, va_Nw.of rfl (hts _ zI_in), fun q hq => ?_⟩
  have h1 := z_stringA (A2 := #[]) (hts _ (zT_in q hq))
  obtain ⟨k, cf, i, a, -, -, -, -, -, hev⟩ := Cond.stringRef_spec hcs h1
  exact ⟨a, h1, hev⟩
theorem XS_start {b : Nat} (hts : ∀ w ∈ lw_tbl, w.before #[Value.ref b] s = true) : XS s := ⟨va_Nw.of rfl (hts _ zX_in.1), va_Nw.of rfl (hts _ zX_in.2.1), va_Nw.of rfl (hts _ zX_in.2.2)⟩
theorem arr_of {ty : FieldType} {a : Array Value} (h : (Cond.arrayClass ty).before a s = true) (hra : ∀ cA : ClassId, s.vm.findClass ("[" ++ ty.toString) = some cA → va_RA s cA ty) : ∃ cA : ClassId, ArrOfT s cA ty ∧ va_RA s cA ty := by
  obtain ⟨c, k, comp, h1, h2, h3⟩ := Cond.arrayClass_spec h
  exact ⟨c, fun n z => ⟨fun k h => (by cases h), k, h2, comp, h3⟩, hra c h1⟩
theorem K_start {b : Nat} (hts : ∀ w ∈ TB, w.before #[Value.ref b] s = true) : ∃ (D : va_G) (cI cZ cL : ClassId), va_K D vwCl [(cI, .int), (cZ, .boolean), (cL, .long)] s := by
  obtain ⟨c0, i0, k0⟩ := u_known (C := RX0) (T := TX0) (N := 5) (n := 5) hts iX0 (hts _ tb1_120)
  obtain ⟨c1, i1, k1⟩ := u_known (C := RX1) (T := TX1) (N := 14) (n := 14) hts iX1 (hts _ tb1_94)
  obtain ⟨c2, i2, k2⟩ := u_known (C := RX2) (T := TX2) (N := 3) (n := 3) hts iX2 (hts _ tb1_187)
  obtain ⟨c3, i3, k3⟩ := u_known (C := RX3) (T := TX3) (N := 6) (n := 6) hts iX3 (hts _ tb1_68)
  obtain ⟨c4, i4, k4⟩ := u_known (C := RX4) (T := TX4) (N := 6) (n := 6) hts iX4 (hts _ tb1_28)
  obtain ⟨c5, i5, k5⟩ := u_known (C := RX5) (T := TX5) (N := 3) (n := 3) hts iX5 (hts _ tb1_100)
  obtain ⟨c6, i6, k6⟩ := u_known (C := RX6) (T := TX6) (N := 8) (n := 8) hts iX6 (hts _ tb1_142)
  obtain ⟨c7, i7, k7⟩ := u_known (C := RX7) (T := TX7) (N := 3) (n := 3) hts iX7 (hts _ tb1_20)
  obtain ⟨c8, i8, k8⟩ := u_known (C := RX8) (T := TX8) (N := 41) (n := 41) hts iX8 (hts _ tb3_192)
  obtain ⟨cI, hI1, hI2⟩ := arr_of (hts _ tb1_92) (fun _ h => h)
  obtain ⟨cZ, hZ1, hZ2⟩ := arr_of (hts _ tb1_118) (fun _ h => h)
  obtain ⟨cL, hL1, hL2⟩ := arr_of (hts _ tb4_210) (fun _ h => h)
  refine ⟨(fun k => match k with | 0 => c0 | 1 => c1 | 2 => c2 | 3 => c3 | 4 => c4 | 5 => c5 | 6 => c6 | 7 => c7 | _ => c8, fun k => match k with | 0 => i0 | 1 => i1 | 2 => i2 | 3 => i3 | 4 => i4 | 5 => i5 | 6 => i6 | 7 => i7 | _ => i8), cI, cZ, cL, ?_, ?_⟩
  · intro k q hq
    match k, hq with
    | 0, hq => cases hq; exact k0
    | 1, hq => cases hq; exact k1
    | 2, hq => cases hq; exact k2
    | 3, hq => cases hq; exact k3
    | 4, hq => cases hq; exact k4
    | 5, hq => cases hq; exact k5
    | 6, hq => cases hq; exact k6
    | 7, hq => cases hq; exact k7
    | 8, hq => cases hq; exact k8
    | k + 9, hq => simp [vwCl] at hq
  · intro k q hq
    match k, hq with
    | 0, hq => cases hq; exact ⟨hI1, hI2⟩
    | 1, hq => cases hq; exact ⟨hZ1, hZ2⟩
    | 2, hq => cases hq; exact ⟨hL1, hL2⟩
    | k + 3, hq => simp at hq
/-! cell(script, k) -/
def fcell (L : Nat) (xs : Nat → Int32) (k : Int32) : Int32 := if Int32.ofNat L ≤ k then 0 else xs k.toNatClampNeg
def rmL_cell : Room := { frames := 0, cells := 0, slots := 0, locals := 0 }
abbrev jPx (av : List Value) (b L : Nat) (xs : Nat → Int32) (sz : Nat) : Array Value → State → Prop := va_Pc av (fun U => U.heap.size = sz ∧ va_X b L xs U U.heap ∧ b < sz)
def Cx (l : Launch) (y : MethodName) (cc : ByteArray) (maxL : Nat) (ret : Option FieldType) (Ts : List Cond) (rm : Room) (D : va_G) (av : List Value) (b L : Nat) (xs : Nat → Int32) (r : Int32) : Prop :=
  ∀ sz : Nat, Met l y (Cond.code y cc maxL ret :: Ts) rm (jPx av b L xs sz) (jEi D [] [] (va_A [] sz) [] r) 0 0 (va_A [] sz)
theorem j_blindx {av : List Value} {b L sz : Nat} {xs : Nat → Int32} : FrameBlind (jPx av b L xs sz) :=
  fun a U g mk q => by
    obtain ⟨q0, q1, qX, qb⟩ := q
    exact ⟨q0, q1, va_X.moved (u := U) (U := U.calling g mk a) (Vm.Alike.refl U.vm) qX, qb⟩
theorem k_in {L : Nat} {k : Int32} (hL : L ≤ 3078) (h0 : 0 ≤ k.toInt) (h1 : ¬ Int32.ofNat L ≤ k) : vp_in k L := by
  unfold vp_in
  have hlt : (Int32.ofNat L).toInt = (L : Int) := Int32.toInt_ofNat_of_lt (by omega)
  rw [Int32.le_iff_toInt_le, hlt] at h1
  rw [Int32.lt_iff_toInt_lt]
  show ¬ (k.toInt < (0 : Int32).toInt ∨ L ≤ k.toInt.toNat)
  have e0 : (0 : Int32).toInt = 0 := by decide
  rw [e0]
  omega
set_option maxRecDepth 100000 in
theorem kL_cell (l : Launch) (D : va_G) (b L : Nat) (xs : Nat → Int32) (k : Int32) (hL : L ≤ 3078) (hk : 0 ≤ k.toInt) : Cx l yL_cell cL_cell 2 (some .int) TB rmL_cell D [.ref b, .int k] b L xs (fcell L xs k) := by
  intro sz
  refine va_MetF (cc := cL_cell) (maxL := 2) (ret := some .int) (by decide +kernel) rfl ?_
  intro p e s m args below meth c s₁ B hml hv
  obtain ⟨rfl, hsz, hX, hbl⟩ := hv
  have hts0 := atoms_spec (ws := Cond.code yL_cell cL_cell 2 (some .int) :: TB) B.pre
  have hts : ∀ w ∈ TB, w.before _ s = true := fun w hw => hts0 w (List.mem_cons_of_mem _ hw)
  have hown : s.vm.findClass yL_cell.cls = some m.cls := findClass_of_methodNamed B.named
  subst hsz
  have hl := lv_entry ([.ref b, .int k]) (n := 2) (Nat.le_of_ble_eq_true rfl)
  rw [lg_entry_eq]
  have hD0 : va_D (va_A [] s.heap.size) ([] : va_W) := ⟨fun i j p q h => by simp at h, fun k q h => by simp at h⟩
  have hP0 : va_P D [] ([] : va_W) s.heap := fun k q h => by simp at h
  have hbA : ¬ va_A [] s.heap.size b := fun z => by
    rcases z with ⟨k, e, z⟩ | z
    · simp at z
    · omega
  have h : jC p s m (#[.ref b, .int k]) meth c cL_cell 2 yL_cell.cls TB D [] [] (va_A [] s.heap.size) := ⟨B.exec, B.bytes, hml, hown, hts, ⟨fun c q h => by simp at h, fun k q h => by simp at h⟩, fun q h => Or.inr h, B.notSynchronized, TBg⟩
  have K : J p l e rmL_cell s m (#[.ref b, .int k]) below meth c D [] (va_A [] s.heap.size) 2 0 0 (MQ below (jEi D [] [] (va_A [] s.heap.size) [] (fcell L xs k)) (#[.ref b, .int k]) s 0 0 (va_A [] s.heap.size)) [] 0 [(0, .ref b), (1, .int k)] [] := by
    refine j_iload_n h 1 dL_cell_0 rfl rfl ?_
    refine j_aload_n h 0 dL_cell_1 rfl rfl ?_
    refine j_slen h hX hbl hbA dL_cell_2 ?_
    refine j_icmp_ge h dL_cell_3 (tgt := 12) (by decide) (fun c1 => ?_) (fun c1 => ?_)
    · refine j_iconst h (v := 0) dL_cell_12 (by decide) ?_
      exact j_ireturn h B.returns (by unfold fcell; rw [if_pos c1]) rfl dL_cell_13
    · refine j_aload_n h 0 dL_cell_6 rfl rfl ?_
      refine j_iload_n h 1 dL_cell_7 rfl rfl ?_
      refine j_sld h hX hbl hbA (k_in hL hk c1) dL_cell_8 ?_
      refine j_goto h dL_cell_9 (tgt := 13) (by decide) ?_
      exact j_ireturn h B.returns (by unfold fcell; rw [if_neg c1]) rfl dL_cell_13
  exact K s.heap [] _ hP0 hD0 va_S.rf hl
theorem j_callX {y : MethodName} {rmC : Room} {bytes : ByteArray} {maxL n index : Nat} {ret : Option FieldType} {As st0 : List Value} {b L : Nat} {xs : Nat → Int32} {r : Int32} (h : jC p s m args meth c cc nL own Ts D cl tys A) (hX : va_X b L xs s s.heap) (hbl : b < s.heap.size) (hbA : ¬ A b)
    (hM : Cx l y bytes maxL ret Ts rmC D As b L xs r) (g1 : Cond.methodLink own index y ∈ Ts) (g2 : Cond.static y ∈ Ts) (g4 : Cond.initialized y.cls ∈ Ts) (g5 : Cond.code y bytes maxL ret ∈ Ts) (hz : rmC.cells = 0 ∧ rmC.slots = 0)
    (hy : y.cls ≠ "java/lang/invoke/MethodHandle" ∧ y.cls ≠ "java/lang/invoke/VarHandle" ∧ (parseMethodDescriptor y.desc).map (fun d => d.parameters.length) = some n) (hR : rmC.frames + 1 ≤ R.frames ∧ 8 + (maxL + 11) + rmC.locals ≤ R.locals) (hn : As.length = n)
    (hst : st0 = As.reverse ++ st) (hroom : (st.map fun v => v.category).sum ≤ 8) (hd : decode cc pc = .ok (.invokestatic index, 3)) (hf : cells ≤ R.cells ∧ slots ≤ R.slots)
    (kk : J p l e R s m args below meth c D cl A nL cells slots Q w (pc + 3) lv (.int r :: st)) : J p l e R s m args below meth c D cl A nL cells slots Q w pc lv st0 := by
  subst hst
  intro H locs ls hP hD hS hl
  have hD0 : va_D A ([] : va_W) := ⟨fun i j p q h => by simp at h, fun k q h => by simp at h⟩
  have hFc := j_free hD0 hS h.2.2.2.2.2.2.1
  have hX1 : va_X b L xs s H := hX.kept (hS.2.1 b hbl hbA)
  refine va_calli (va_runS (As := As) (rest := st) ⟨h.1, h.2.1, h.2.2.1, h.2.2.2.1, h.2.2.2.2.1⟩ (hM H.size) (va_cwS n h.2.2.2.2.1 (j_goodS h.2.2.2.2.2.2.2.2 g1 g2 g4 g5) rfl hz.1 hz.2 hy hR) ⟨j_blindx, fun U hU hW => ⟨rfl, by rw [hU], by rw [hU]; exact va_X.moved hW.alike hX1, Nat.lt_of_lt_of_le hbl hS.1⟩⟩ rfl hn hl.1 rfl (lv_room hroom) hd hf) hS (fun q _ hq => hFc q hq) hFc (fun r' u t H1 locs1 ht hvm hw' hB hz1 hk1 hS1 => ?_)
  subst hw'
  exact kk H1 locs1 ls (hP.kept (fun k q hk => hk1 q.1 (hP k q hk).lt (j_none (hP k q hk).lt))) hD hS1 hl
end JW
