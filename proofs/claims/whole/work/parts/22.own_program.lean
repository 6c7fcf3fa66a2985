def fX4_last (σ : St) : Int32 := ((σ.1 0) - 1)
def rmX4_last : Room := { frames := 0, cells := 0, slots := 0, locals := 0 }
set_option maxRecDepth 100000 in
set_option maxHeartbeats 4000000 in
theorem kX4_last (l : Launch) (D : va_G) (a : Nat → Nat) (cI cZ : ClassId) (σ : St) : Ci l yX4_last cX4_last 1 (some .int) TB rmX4_last D vwCl [(cI, .int), (cZ, .boolean)] [.ref (a 1)] (fx a cI cZ σ) (fx a cI cZ σ) (fX4_last σ) := by
  refine Ci_of (cc := cX4_last) (maxL := 1) (ret := (some .int)) (by decide +kernel) TBg (Nat.le_of_ble_eq_true rfl) ?_
  intro p e s m args below meth c A h hr
  refine j_aload_n h 0 dX4_last_0 rfl rfl ?_
  refine j_get h iX4 1 (fx_c1 _ _ _ σ) rfl 0 (by decide) tb1_39 rfl (v := .int (σ.1 0)) rfl dX4_last_1 ?_
  refine j_iconst h (v := 1) dX4_last_4 (by decide) ?_
  refine j_isub h dX4_last_5 ?_
  have E : fX4_last σ = ((σ.1 0) - 1) := rfl
  exact j_ireturn h hr E.symm rfl dX4_last_6
def fX4_behindWhichReady (σ : St) (x1 : Int32) : Int32 := (if x1 = 1 then (σ.1 3) else (σ.1 2))
def rmX4_behindWhichReady : Room := { frames := 0, cells := 0, slots := 0, locals := 0 }
set_option maxRecDepth 100000 in
set_option maxHeartbeats 4000000 in
theorem kX4_behindWhichReady (l : Launch) (D : va_G) (a : Nat → Nat) (cI cZ : ClassId) (σ : St) (x1 : Int32) : Ci l yX4_behindWhichReady cX4_behindWhichReady 2 (some .int) TB rmX4_behindWhichReady D vwCl [(cI, .int), (cZ, .boolean)] [.ref (a 1), .int x1] (fx a cI cZ σ) (fx a cI cZ σ) (fX4_behindWhichReady σ x1) := by
  refine Ci_of (cc := cX4_behindWhichReady) (maxL := 2) (ret := (some .int)) (by decide +kernel) TBg (Nat.le_of_ble_eq_true rfl) ?_
  intro p e s m args below meth c A h hr
  refine j_iload_n h 1 dX4_behindWhichReady_0 rfl rfl ?_
  refine j_iconst h (v := 1) dX4_behindWhichReady_1 (by decide) ?_
  refine j_icmp_ne h dX4_behindWhichReady_2 (tgt := 12) (by decide) (fun c1 => ?_) (fun c1 => ?_)
  ·
    refine j_aload_n h 0 dX4_behindWhichReady_12 rfl rfl ?_
    refine j_get h iX4 1 (fx_c1 _ _ _ σ) rfl 2 (by decide) tb1_45 rfl (v := .int (σ.1 2)) rfl dX4_behindWhichReady_13 ?_
    have E : fX4_behindWhichReady σ x1 = (σ.1 2) := j_ig c1 rfl
    exact j_ireturn h hr E.symm rfl dX4_behindWhichReady_16
  ·
    refine j_aload_n h 0 dX4_behindWhichReady_5 rfl rfl ?_
    refine j_get h iX4 1 (fx_c1 _ _ _ σ) rfl 3 (by decide) tb1_47 rfl (v := .int (σ.1 3)) rfl dX4_behindWhichReady_6 ?_
    refine j_goto h dX4_behindWhichReady_9 (tgt := 16) (by decide) ?_
    have E : fX4_behindWhichReady σ x1 = (σ.1 3) := j_ip c1 rfl
    exact j_ireturn h hr E.symm rfl dX4_behindWhichReady_16
def fX4_cyclesToWork (σ : St) (x1 : Int32) : Int32 := (if x1 = 3 then (σ.1 5) else 1)
def rmX4_cyclesToWork : Room := { frames := 0, cells := 0, slots := 0, locals := 0 }
set_option maxRecDepth 100000 in
set_option maxHeartbeats 4000000 in
theorem kX4_cyclesToWork (l : Launch) (D : va_G) (a : Nat → Nat) (cI cZ : ClassId) (σ : St) (x1 : Int32) : Ci l yX4_cyclesToWork cX4_cyclesToWork 2 (some .int) TB rmX4_cyclesToWork D vwCl [(cI, .int), (cZ, .boolean)] [.ref (a 1), .int x1] (fx a cI cZ σ) (fx a cI cZ σ) (fX4_cyclesToWork σ x1) := by
  refine Ci_of (cc := cX4_cyclesToWork) (maxL := 2) (ret := (some .int)) (by decide +kernel) TBg (Nat.le_of_ble_eq_true rfl) ?_
  intro p e s m args below meth c A h hr
  refine j_iload_n h 1 dX4_cyclesToWork_0 rfl rfl ?_
  refine j_iconst h (v := 3) dX4_cyclesToWork_1 (by decide) ?_
  refine j_icmp_ne h dX4_cyclesToWork_2 (tgt := 12) (by decide) (fun c1 => ?_) (fun c1 => ?_)
  ·
    refine j_iconst h (v := 1) dX4_cyclesToWork_12 (by decide) ?_
    have E : fX4_cyclesToWork σ x1 = 1 := j_ig c1 rfl
    exact j_ireturn h hr E.symm rfl dX4_cyclesToWork_13
  ·
    refine j_aload_n h 0 dX4_cyclesToWork_5 rfl rfl ?_
    refine j_get h iX4 1 (fx_c1 _ _ _ σ) rfl 5 (by decide) tb1_52 rfl (v := .int (σ.1 5)) rfl dX4_cyclesToWork_6 ?_
    refine j_goto h dX4_cyclesToWork_9 (tgt := 13) (by decide) ?_
    have E : fX4_cyclesToWork σ x1 = (σ.1 5) := j_ip c1 rfl
    exact j_ireturn h hr E.symm rfl dX4_cyclesToWork_13
def fX3_append (σ : St) (x1 x2 x3 x4 x5 : Int32) : Int32 × St := (if (σ.1 6) < 0 then ((-1), σ) else (if (σ.1 6) < 64 then (let q3 := (fX3_hasTarget x1); (if q3 = 0 then (let q5 := (fX3_readsFirst x1); (if q5 = 0 then (let q7 := (fX3_readsSecond x1); (if q7 = 0 then ((((σ.1 6) + 1) - 1), (sg (ar (ar (ar (ar (ar σ 0 (upd (σ.2 0) (σ.1 6).toNatClampNeg x1)) 1 (upd (σ.2 1) (σ.1 6).toNatClampNeg (-1))) 2 (upd (σ.2 2) (σ.1 6).toNatClampNeg (-1))) 3 (upd (σ.2 3) (σ.1 6).toNatClampNeg (-1))) 4 (upd (σ.2 4) (σ.1 6).toNatClampNeg x5)) 6 ((σ.1 6) + 1))) else ((((σ.1 6) + 1) - 1), (sg (ar (ar (ar (ar (ar σ 0 (upd (σ.2 0) (σ.1 6).toNatClampNeg x1)) 1 (upd (σ.2 1) (σ.1 6).toNatClampNeg (-1))) 2 (upd (σ.2 2) (σ.1 6).toNatClampNeg (-1))) 3 (upd (σ.2 3) (σ.1 6).toNatClampNeg x4)) 4 (upd (σ.2 4) (σ.1 6).toNatClampNeg x5)) 6 ((σ.1 6) + 1))))) else (let q9 := (fX3_readsSecond x1); (if q9 = 0 then ((((σ.1 6) + 1) - 1), (sg (ar (ar (ar (ar (ar σ 0 (upd (σ.2 0) (σ.1 6).toNatClampNeg x1)) 1 (upd (σ.2 1) (σ.1 6).toNatClampNeg (-1))) 2 (upd (σ.2 2) (σ.1 6).toNatClampNeg x3)) 3 (upd (σ.2 3) (σ.1 6).toNatClampNeg (-1))) 4 (upd (σ.2 4) (σ.1 6).toNatClampNeg x5)) 6 ((σ.1 6) + 1))) else ((((σ.1 6) + 1) - 1), (sg (ar (ar (ar (ar (ar σ 0 (upd (σ.2 0) (σ.1 6).toNatClampNeg x1)) 1 (upd (σ.2 1) (σ.1 6).toNatClampNeg (-1))) 2 (upd (σ.2 2) (σ.1 6).toNatClampNeg x3)) 3 (upd (σ.2 3) (σ.1 6).toNatClampNeg x4)) 4 (upd (σ.2 4) (σ.1 6).toNatClampNeg x5)) 6 ((σ.1 6) + 1))))))) else (let q11 := (fX3_readsFirst x1); (if q11 = 0 then (let q13 := (fX3_readsSecond x1); (if q13 = 0 then ((((σ.1 6) + 1) - 1), (sg (ar (ar (ar (ar (ar σ 0 (upd (σ.2 0) (σ.1 6).toNatClampNeg x1)) 1 (upd (σ.2 1) (σ.1 6).toNatClampNeg x2)) 2 (upd (σ.2 2) (σ.1 6).toNatClampNeg (-1))) 3 (upd (σ.2 3) (σ.1 6).toNatClampNeg (-1))) 4 (upd (σ.2 4) (σ.1 6).toNatClampNeg x5)) 6 ((σ.1 6) + 1))) else ((((σ.1 6) + 1) - 1), (sg (ar (ar (ar (ar (ar σ 0 (upd (σ.2 0) (σ.1 6).toNatClampNeg x1)) 1 (upd (σ.2 1) (σ.1 6).toNatClampNeg x2)) 2 (upd (σ.2 2) (σ.1 6).toNatClampNeg (-1))) 3 (upd (σ.2 3) (σ.1 6).toNatClampNeg x4)) 4 (upd (σ.2 4) (σ.1 6).toNatClampNeg x5)) 6 ((σ.1 6) + 1))))) else (let q15 := (fX3_readsSecond x1); (if q15 = 0 then ((((σ.1 6) + 1) - 1), (sg (ar (ar (ar (ar (ar σ 0 (upd (σ.2 0) (σ.1 6).toNatClampNeg x1)) 1 (upd (σ.2 1) (σ.1 6).toNatClampNeg x2)) 2 (upd (σ.2 2) (σ.1 6).toNatClampNeg x3)) 3 (upd (σ.2 3) (σ.1 6).toNatClampNeg (-1))) 4 (upd (σ.2 4) (σ.1 6).toNatClampNeg x5)) 6 ((σ.1 6) + 1))) else ((((σ.1 6) + 1) - 1), (sg (ar (ar (ar (ar (ar σ 0 (upd (σ.2 0) (σ.1 6).toNatClampNeg x1)) 1 (upd (σ.2 1) (σ.1 6).toNatClampNeg x2)) 2 (upd (σ.2 2) (σ.1 6).toNatClampNeg x3)) 3 (upd (σ.2 3) (σ.1 6).toNatClampNeg x4)) 4 (upd (σ.2 4) (σ.1 6).toNatClampNeg x5)) 6 ((σ.1 6) + 1))))))))) else ((-1), σ)))
def rmX3_append : Room := { frames := 2, cells := 0, slots := 0, locals := 40 }
set_option maxRecDepth 100000 in
set_option maxHeartbeats 4000000 in
theorem kX3_append (l : Launch) (D : va_G) (a : Nat → Nat) (cI cZ : ClassId) (σ : St) (x1 x2 x3 x4 x5 : Int32) : Ci l yX3_append cX3_append 6 (some .int) TB rmX3_append D vwCl [(cI, .int), (cZ, .boolean)] [.ref (a 2), .int x1, .int x2, .int x3, .int x4, .int x5] (fx a cI cZ σ) (fx a cI cZ (fX3_append σ x1 x2 x3 x4 x5).2) (fX3_append σ x1 x2 x3 x4 x5).1 := by
  refine Ci_of (cc := cX3_append) (maxL := 6) (ret := (some .int)) (by decide +kernel) TBg (Nat.le_of_ble_eq_true rfl) ?_
  intro p e s m args below meth c A h hr
  refine j_aload_n h 0 dX3_append_0 rfl rfl ?_
  refine j_get h iX3 2 (fx_c2 _ _ _ σ) rfl 5 (by decide) tb1_78 rfl (v := .int (σ.1 6)) rfl dX3_append_1 ?_
  refine j_if_lt h dX3_append_4 (tgt := 16) (by decide) (fun c1 => ?_) (fun c1 => ?_)
  ·
    refine j_iconst h (v := (-1)) dX3_append_16 (by decide) ?_
    have E : fX3_append σ x1 x2 x3 x4 x5 = ((-1), σ) := j_ip c1 rfl
    exact j_ireturn h hr (congrArg Prod.fst E).symm (congrArg (fun z => fx a cI cZ z.2) E).symm dX3_append_17
  ·
    refine j_aload_n h 0 dX3_append_7 rfl rfl ?_
    refine j_get h iX3 2 (fx_c2 _ _ _ σ) rfl 5 (by decide) tb1_78 rfl (v := .int (σ.1 6)) rfl dX3_append_8 ?_
    refine j_bipush h (v := 64) dX3_append_11 (by decide) ?_
    refine j_icmp_lt h dX3_append_13 (tgt := 18) (by decide) (fun c2 => ?_) (fun c2 => ?_)
    ·
      refine j_aload_n h 0 dX3_append_18 rfl rfl ?_
      refine j_get h iX3 2 (fx_c2 _ _ _ σ) rfl 0 (by decide) tb1_73 rfl (v := .ref (a 3)) rfl dX3_append_19 ?_
      refine j_aload_n h 0 dX3_append_22 rfl rfl ?_
      refine j_get h iX3 2 (fx_c2 _ _ _ σ) rfl 5 (by decide) tb1_78 rfl (v := .int (σ.1 6)) rfl dX3_append_23 ?_
      refine j_iload_n h 1 dX3_append_26 rfl rfl ?_
      refine j_iast h 3 0 (fx_g3 (σ := σ) (F := (σ.2 0)) rfl) rfl (j_in64 (j_lo1 c1) c2) (w' := (fx a cI cZ (ar σ 0 (upd (σ.2 0) (σ.1 6).toNatClampNeg x1)))) (fx_s3 _ _ _ σ _) dX3_append_27 ?_
      refine j_aload_n h 0 dX3_append_28 rfl rfl ?_
      refine j_get h iX3 2 (fx_c2 _ _ _ (ar σ 0 (upd (σ.2 0) (σ.1 6).toNatClampNeg x1))) rfl 1 (by decide) tb1_74 rfl (v := .ref (a 4)) rfl dX3_append_29 ?_
      refine j_aload_n h 0 dX3_append_32 rfl rfl ?_
      refine j_get h iX3 2 (fx_c2 _ _ _ (ar σ 0 (upd (σ.2 0) (σ.1 6).toNatClampNeg x1))) rfl 5 (by decide) tb1_78 rfl (v := .int (σ.1 6)) rfl dX3_append_33 ?_
      refine j_iload_n h 1 dX3_append_36 rfl rfl ?_
      refine j_callSi0 h (kX3_hasTarget l D cI cZ x1) tb2_189 tb2_190 tb1_4 tb2_191 ⟨rfl, rfl⟩ (n := 1) (by decide +kernel) ⟨Nat.le_of_ble_eq_true rfl, Nat.le_of_ble_eq_true rfl⟩ (As := [.int x1]) rfl (st := [.int (σ.1 6), .ref (a 4)]) rfl (Nat.le_of_ble_eq_true rfl) dX3_append_37 ⟨Nat.zero_le _, Nat.zero_le _⟩ ?_
      generalize hq3 : (fX3_hasTarget x1) = q3
      refine j_if_eq h dX3_append_40 (tgt := 47) (by decide) (fun c4 => ?_) (fun c4 => ?_)
      ·
        refine j_iconst h (v := (-1)) dX3_append_47 (by decide) ?_
        refine j_iast h 4 0 (fx_g4 (σ := (ar σ 0 (upd (σ.2 0) (σ.1 6).toNatClampNeg x1))) (F := (σ.2 1)) rfl) rfl (j_in64 (j_lo1 c1) c2) (w' := (fx a cI cZ (ar (ar σ 0 (upd (σ.2 0) (σ.1 6).toNatClampNeg x1)) 1 (upd (σ.2 1) (σ.1 6).toNatClampNeg (-1))))) (fx_s4 _ _ _ (ar σ 0 (upd (σ.2 0) (σ.1 6).toNatClampNeg x1)) _) dX3_append_48 ?_
        refine j_aload_n h 0 dX3_append_49 rfl rfl ?_
        refine j_get h iX3 2 (fx_c2 _ _ _ (ar (ar σ 0 (upd (σ.2 0) (σ.1 6).toNatClampNeg x1)) 1 (upd (σ.2 1) (σ.1 6).toNatClampNeg (-1)))) rfl 2 (by decide) tb1_75 rfl (v := .ref (a 5)) rfl dX3_append_50 ?_
        refine j_aload_n h 0 dX3_append_53 rfl rfl ?_
        refine j_get h iX3 2 (fx_c2 _ _ _ (ar (ar σ 0 (upd (σ.2 0) (σ.1 6).toNatClampNeg x1)) 1 (upd (σ.2 1) (σ.1 6).toNatClampNeg (-1)))) rfl 5 (by decide) tb1_78 rfl (v := .int (σ.1 6)) rfl dX3_append_54 ?_
        refine j_iload_n h 1 dX3_append_57 rfl rfl ?_
        refine j_callSi0 h (kX3_readsFirst l D cI cZ x1) tb2_192 tb2_193 tb1_4 tb2_194 ⟨rfl, rfl⟩ (n := 1) (by decide +kernel) ⟨Nat.le_of_ble_eq_true rfl, Nat.le_of_ble_eq_true rfl⟩ (As := [.int x1]) rfl (st := [.int (σ.1 6), .ref (a 5)]) rfl (Nat.le_of_ble_eq_true rfl) dX3_append_58 ⟨Nat.zero_le _, Nat.zero_le _⟩ ?_
        generalize hq5 : (fX3_readsFirst x1) = q5
        refine j_if_eq h dX3_append_61 (tgt := 68) (by decide) (fun c6 => ?_) (fun c6 => ?_)
        ·
          refine j_iconst h (v := (-1)) dX3_append_68 (by decide) ?_
          refine j_iast h 5 0 (fx_g5 (σ := (ar (ar σ 0 (upd (σ.2 0) (σ.1 6).toNatClampNeg x1)) 1 (upd (σ.2 1) (σ.1 6).toNatClampNeg (-1)))) (F := (σ.2 2)) rfl) rfl (j_in64 (j_lo1 c1) c2) (w' := (fx a cI cZ (ar (ar (ar σ 0 (upd (σ.2 0) (σ.1 6).toNatClampNeg x1)) 1 (upd (σ.2 1) (σ.1 6).toNatClampNeg (-1))) 2 (upd (σ.2 2) (σ.1 6).toNatClampNeg (-1))))) (fx_s5 _ _ _ (ar (ar σ 0 (upd (σ.2 0) (σ.1 6).toNatClampNeg x1)) 1 (upd (σ.2 1) (σ.1 6).toNatClampNeg (-1))) _) dX3_append_69 ?_
          refine j_aload_n h 0 dX3_append_70 rfl rfl ?_
          refine j_get h iX3 2 (fx_c2 _ _ _ (ar (ar (ar σ 0 (upd (σ.2 0) (σ.1 6).toNatClampNeg x1)) 1 (upd (σ.2 1) (σ.1 6).toNatClampNeg (-1))) 2 (upd (σ.2 2) (σ.1 6).toNatClampNeg (-1)))) rfl 3 (by decide) tb1_76 rfl (v := .ref (a 6)) rfl dX3_append_71 ?_
          refine j_aload_n h 0 dX3_append_74 rfl rfl ?_
          refine j_get h iX3 2 (fx_c2 _ _ _ (ar (ar (ar σ 0 (upd (σ.2 0) (σ.1 6).toNatClampNeg x1)) 1 (upd (σ.2 1) (σ.1 6).toNatClampNeg (-1))) 2 (upd (σ.2 2) (σ.1 6).toNatClampNeg (-1)))) rfl 5 (by decide) tb1_78 rfl (v := .int (σ.1 6)) rfl dX3_append_75 ?_
          refine j_iload_n h 1 dX3_append_78 rfl rfl ?_
          refine j_callSi0 h (kX3_readsSecond l D cI cZ x1) tb2_195 tb2_196 tb1_4 tb2_197 ⟨rfl, rfl⟩ (n := 1) (by decide +kernel) ⟨Nat.le_of_ble_eq_true rfl, Nat.le_of_ble_eq_true rfl⟩ (As := [.int x1]) rfl (st := [.int (σ.1 6), .ref (a 6)]) rfl (Nat.le_of_ble_eq_true rfl) dX3_append_79 ⟨Nat.zero_le _, Nat.zero_le _⟩ ?_
          generalize hq7 : (fX3_readsSecond x1) = q7
          refine j_if_eq h dX3_append_82 (tgt := 90) (by decide) (fun c8 => ?_) (fun c8 => ?_)
          ·
            refine j_iconst h (v := (-1)) dX3_append_90 (by decide) ?_
            refine j_iast h 6 0 (fx_g6 (σ := (ar (ar (ar σ 0 (upd (σ.2 0) (σ.1 6).toNatClampNeg x1)) 1 (upd (σ.2 1) (σ.1 6).toNatClampNeg (-1))) 2 (upd (σ.2 2) (σ.1 6).toNatClampNeg (-1)))) (F := (σ.2 3)) rfl) rfl (j_in64 (j_lo1 c1) c2) (w' := (fx a cI cZ (ar (ar (ar (ar σ 0 (upd (σ.2 0) (σ.1 6).toNatClampNeg x1)) 1 (upd (σ.2 1) (σ.1 6).toNatClampNeg (-1))) 2 (upd (σ.2 2) (σ.1 6).toNatClampNeg (-1))) 3 (upd (σ.2 3) (σ.1 6).toNatClampNeg (-1))))) (fx_s6 _ _ _ (ar (ar (ar σ 0 (upd (σ.2 0) (σ.1 6).toNatClampNeg x1)) 1 (upd (σ.2 1) (σ.1 6).toNatClampNeg (-1))) 2 (upd (σ.2 2) (σ.1 6).toNatClampNeg (-1))) _) dX3_append_91 ?_
            refine j_aload_n h 0 dX3_append_92 rfl rfl ?_
            refine j_get h iX3 2 (fx_c2 _ _ _ (ar (ar (ar (ar σ 0 (upd (σ.2 0) (σ.1 6).toNatClampNeg x1)) 1 (upd (σ.2 1) (σ.1 6).toNatClampNeg (-1))) 2 (upd (σ.2 2) (σ.1 6).toNatClampNeg (-1))) 3 (upd (σ.2 3) (σ.1 6).toNatClampNeg (-1)))) rfl 4 (by decide) tb1_77 rfl (v := .ref (a 7)) rfl dX3_append_93 ?_
            refine j_aload_n h 0 dX3_append_96 rfl rfl ?_
            refine j_get h iX3 2 (fx_c2 _ _ _ (ar (ar (ar (ar σ 0 (upd (σ.2 0) (σ.1 6).toNatClampNeg x1)) 1 (upd (σ.2 1) (σ.1 6).toNatClampNeg (-1))) 2 (upd (σ.2 2) (σ.1 6).toNatClampNeg (-1))) 3 (upd (σ.2 3) (σ.1 6).toNatClampNeg (-1)))) rfl 5 (by decide) tb1_78 rfl (v := .int (σ.1 6)) rfl dX3_append_97 ?_
            refine j_iload h 5 dX3_append_100 rfl ?_
            refine j_iast h 7 0 (fx_g7 (σ := (ar (ar (ar (ar σ 0 (upd (σ.2 0) (σ.1 6).toNatClampNeg x1)) 1 (upd (σ.2 1) (σ.1 6).toNatClampNeg (-1))) 2 (upd (σ.2 2) (σ.1 6).toNatClampNeg (-1))) 3 (upd (σ.2 3) (σ.1 6).toNatClampNeg (-1)))) (F := (σ.2 4)) rfl) rfl (j_in64 (j_lo1 c1) c2) (w' := (fx a cI cZ (ar (ar (ar (ar (ar σ 0 (upd (σ.2 0) (σ.1 6).toNatClampNeg x1)) 1 (upd (σ.2 1) (σ.1 6).toNatClampNeg (-1))) 2 (upd (σ.2 2) (σ.1 6).toNatClampNeg (-1))) 3 (upd (σ.2 3) (σ.1 6).toNatClampNeg (-1))) 4 (upd (σ.2 4) (σ.1 6).toNatClampNeg x5)))) (fx_s7 _ _ _ (ar (ar (ar (ar σ 0 (upd (σ.2 0) (σ.1 6).toNatClampNeg x1)) 1 (upd (σ.2 1) (σ.1 6).toNatClampNeg (-1))) 2 (upd (σ.2 2) (σ.1 6).toNatClampNeg (-1))) 3 (upd (σ.2 3) (σ.1 6).toNatClampNeg (-1))) _) dX3_append_102 ?_
            refine j_aload_n h 0 dX3_append_103 rfl rfl ?_
            refine j_dup h dX3_append_104 rfl ?_
            refine j_get h iX3 2 (fx_c2 _ _ _ (ar (ar (ar (ar (ar σ 0 (upd (σ.2 0) (σ.1 6).toNatClampNeg x1)) 1 (upd (σ.2 1) (σ.1 6).toNatClampNeg (-1))) 2 (upd (σ.2 2) (σ.1 6).toNatClampNeg (-1))) 3 (upd (σ.2 3) (σ.1 6).toNatClampNeg (-1))) 4 (upd (σ.2 4) (σ.1 6).toNatClampNeg x5))) rfl 5 (by decide) tb1_78 rfl (v := .int (σ.1 6)) rfl dX3_append_105 ?_
            refine j_iconst h (v := 1) dX3_append_108 (by decide) ?_
            refine j_iadd h dX3_append_109 ?_
            refine j_put h iX3 tyX3 tyX3_ok nmX3 2 (fx_c2 _ _ _ (ar (ar (ar (ar (ar σ 0 (upd (σ.2 0) (σ.1 6).toNatClampNeg x1)) 1 (upd (σ.2 1) (σ.1 6).toNatClampNeg (-1))) 2 (upd (σ.2 2) (σ.1 6).toNatClampNeg (-1))) 3 (upd (σ.2 3) (σ.1 6).toNatClampNeg (-1))) 4 (upd (σ.2 4) (σ.1 6).toNatClampNeg x5))) rfl 5 (by decide) tb1_78 rfl rfl rfl rfl (Nat.le_of_ble_eq_true rfl) (w' := (fx a cI cZ (sg (ar (ar (ar (ar (ar σ 0 (upd (σ.2 0) (σ.1 6).toNatClampNeg x1)) 1 (upd (σ.2 1) (σ.1 6).toNatClampNeg (-1))) 2 (upd (σ.2 2) (σ.1 6).toNatClampNeg (-1))) 3 (upd (σ.2 3) (σ.1 6).toNatClampNeg (-1))) 4 (upd (σ.2 4) (σ.1 6).toNatClampNeg x5)) 6 ((σ.1 6) + 1)))) (fx_p2_5 _ _ _ (ar (ar (ar (ar (ar σ 0 (upd (σ.2 0) (σ.1 6).toNatClampNeg x1)) 1 (upd (σ.2 1) (σ.1 6).toNatClampNeg (-1))) 2 (upd (σ.2 2) (σ.1 6).toNatClampNeg (-1))) 3 (upd (σ.2 3) (σ.1 6).toNatClampNeg (-1))) 4 (upd (σ.2 4) (σ.1 6).toNatClampNeg x5)) _) dX3_append_110 ?_
            refine j_aload_n h 0 dX3_append_113 rfl rfl ?_
            refine j_get h iX3 2 (fx_c2 _ _ _ (sg (ar (ar (ar (ar (ar σ 0 (upd (σ.2 0) (σ.1 6).toNatClampNeg x1)) 1 (upd (σ.2 1) (σ.1 6).toNatClampNeg (-1))) 2 (upd (σ.2 2) (σ.1 6).toNatClampNeg (-1))) 3 (upd (σ.2 3) (σ.1 6).toNatClampNeg (-1))) 4 (upd (σ.2 4) (σ.1 6).toNatClampNeg x5)) 6 ((σ.1 6) + 1))) rfl 5 (by decide) tb1_78 rfl (v := .int ((σ.1 6) + 1)) rfl dX3_append_114 ?_
            refine j_iconst h (v := 1) dX3_append_117 (by decide) ?_
            refine j_isub h dX3_append_118 ?_
            subst hq3 hq5 hq7
            have E : fX3_append σ x1 x2 x3 x4 x5 = ((((σ.1 6) + 1) - 1), (sg (ar (ar (ar (ar (ar σ 0 (upd (σ.2 0) (σ.1 6).toNatClampNeg x1)) 1 (upd (σ.2 1) (σ.1 6).toNatClampNeg (-1))) 2 (upd (σ.2 2) (σ.1 6).toNatClampNeg (-1))) 3 (upd (σ.2 3) (σ.1 6).toNatClampNeg (-1))) 4 (upd (σ.2 4) (σ.1 6).toNatClampNeg x5)) 6 ((σ.1 6) + 1))) := j_ig c1 (j_ip c2 (j_ip c4 (j_ip c6 (j_ip c8 rfl))))
            exact j_ireturn h hr (congrArg Prod.fst E).symm (congrArg (fun z => fx a cI cZ z.2) E).symm dX3_append_119
          ·
            refine j_iload h 4 dX3_append_85 rfl ?_
            refine j_goto h dX3_append_87 (tgt := 91) (by decide) ?_
            refine j_iast h 6 0 (fx_g6 (σ := (ar (ar (ar σ 0 (upd (σ.2 0) (σ.1 6).toNatClampNeg x1)) 1 (upd (σ.2 1) (σ.1 6).toNatClampNeg (-1))) 2 (upd (σ.2 2) (σ.1 6).toNatClampNeg (-1)))) (F := (σ.2 3)) rfl) rfl (j_in64 (j_lo1 c1) c2) (w' := (fx a cI cZ (ar (ar (ar (ar σ 0 (upd (σ.2 0) (σ.1 6).toNatClampNeg x1)) 1 (upd (σ.2 1) (σ.1 6).toNatClampNeg (-1))) 2 (upd (σ.2 2) (σ.1 6).toNatClampNeg (-1))) 3 (upd (σ.2 3) (σ.1 6).toNatClampNeg x4)))) (fx_s6 _ _ _ (ar (ar (ar σ 0 (upd (σ.2 0) (σ.1 6).toNatClampNeg x1)) 1 (upd (σ.2 1) (σ.1 6).toNatClampNeg (-1))) 2 (upd (σ.2 2) (σ.1 6).toNatClampNeg (-1))) _) dX3_append_91 ?_
            refine j_aload_n h 0 dX3_append_92 rfl rfl ?_
            refine j_get h iX3 2 (fx_c2 _ _ _ (ar (ar (ar (ar σ 0 (upd (σ.2 0) (σ.1 6).toNatClampNeg x1)) 1 (upd (σ.2 1) (σ.1 6).toNatClampNeg (-1))) 2 (upd (σ.2 2) (σ.1 6).toNatClampNeg (-1))) 3 (upd (σ.2 3) (σ.1 6).toNatClampNeg x4))) rfl 4 (by decide) tb1_77 rfl (v := .ref (a 7)) rfl dX3_append_93 ?_
            refine j_aload_n h 0 dX3_append_96 rfl rfl ?_
            refine j_get h iX3 2 (fx_c2 _ _ _ (ar (ar (ar (ar σ 0 (upd (σ.2 0) (σ.1 6).toNatClampNeg x1)) 1 (upd (σ.2 1) (σ.1 6).toNatClampNeg (-1))) 2 (upd (σ.2 2) (σ.1 6).toNatClampNeg (-1))) 3 (upd (σ.2 3) (σ.1 6).toNatClampNeg x4))) rfl 5 (by decide) tb1_78 rfl (v := .int (σ.1 6)) rfl dX3_append_97 ?_
            refine j_iload h 5 dX3_append_100 rfl ?_
            refine j_iast h 7 0 (fx_g7 (σ := (ar (ar (ar (ar σ 0 (upd (σ.2 0) (σ.1 6).toNatClampNeg x1)) 1 (upd (σ.2 1) (σ.1 6).toNatClampNeg (-1))) 2 (upd (σ.2 2) (σ.1 6).toNatClampNeg (-1))) 3 (upd (σ.2 3) (σ.1 6).toNatClampNeg x4))) (F := (σ.2 4)) rfl) rfl (j_in64 (j_lo1 c1) c2) (w' := (fx a cI cZ (ar (ar (ar (ar (ar σ 0 (upd (σ.2 0) (σ.1 6).toNatClampNeg x1)) 1 (upd (σ.2 1) (σ.1 6).toNatClampNeg (-1))) 2 (upd (σ.2 2) (σ.1 6).toNatClampNeg (-1))) 3 (upd (σ.2 3) (σ.1 6).toNatClampNeg x4)) 4 (upd (σ.2 4) (σ.1 6).toNatClampNeg x5)))) (fx_s7 _ _ _ (ar (ar (ar (ar σ 0 (upd (σ.2 0) (σ.1 6).toNatClampNeg x1)) 1 (upd (σ.2 1) (σ.1 6).toNatClampNeg (-1))) 2 (upd (σ.2 2) (σ.1 6).toNatClampNeg (-1))) 3 (upd (σ.2 3) (σ.1 6).toNatClampNeg x4)) _) dX3_append_102 ?_
            refine j_aload_n h 0 dX3_append_103 rfl rfl ?_
            refine j_dup h dX3_append_104 rfl ?_
            refine j_get h iX3 2 (fx_c2 _ _ _ (ar (ar (ar (ar (ar σ 0 (upd (σ.2 0) (σ.1 6).toNatClampNeg x1)) 1 (upd (σ.2 1) (σ.1 6).toNatClampNeg (-1))) 2 (upd (σ.2 2) (σ.1 6).toNatClampNeg (-1))) 3 (upd (σ.2 3) (σ.1 6).toNatClampNeg x4)) 4 (upd (σ.2 4) (σ.1 6).toNatClampNeg x5))) rfl 5 (by decide) tb1_78 rfl (v := .int (σ.1 6)) rfl dX3_append_105 ?_
            refine j_iconst h (v := 1) dX3_append_108 (by decide) ?_
            refine j_iadd h dX3_append_109 ?_
            refine j_put h iX3 tyX3 tyX3_ok nmX3 2 (fx_c2 _ _ _ (ar (ar (ar (ar (ar σ 0 (upd (σ.2 0) (σ.1 6).toNatClampNeg x1)) 1 (upd (σ.2 1) (σ.1 6).toNatClampNeg (-1))) 2 (upd (σ.2 2) (σ.1 6).toNatClampNeg (-1))) 3 (upd (σ.2 3) (σ.1 6).toNatClampNeg x4)) 4 (upd (σ.2 4) (σ.1 6).toNatClampNeg x5))) rfl 5 (by decide) tb1_78 rfl rfl rfl rfl (Nat.le_of_ble_eq_true rfl) (w' := (fx a cI cZ (sg (ar (ar (ar (ar (ar σ 0 (upd (σ.2 0) (σ.1 6).toNatClampNeg x1)) 1 (upd (σ.2 1) (σ.1 6).toNatClampNeg (-1))) 2 (upd (σ.2 2) (σ.1 6).toNatClampNeg (-1))) 3 (upd (σ.2 3) (σ.1 6).toNatClampNeg x4)) 4 (upd (σ.2 4) (σ.1 6).toNatClampNeg x5)) 6 ((σ.1 6) + 1)))) (fx_p2_5 _ _ _ (ar (ar (ar (ar (ar σ 0 (upd (σ.2 0) (σ.1 6).toNatClampNeg x1)) 1 (upd (σ.2 1) (σ.1 6).toNatClampNeg (-1))) 2 (upd (σ.2 2) (σ.1 6).toNatClampNeg (-1))) 3 (upd (σ.2 3) (σ.1 6).toNatClampNeg x4)) 4 (upd (σ.2 4) (σ.1 6).toNatClampNeg x5)) _) dX3_append_110 ?_
            refine j_aload_n h 0 dX3_append_113 rfl rfl ?_
            refine j_get h iX3 2 (fx_c2 _ _ _ (sg (ar (ar (ar (ar (ar σ 0 (upd (σ.2 0) (σ.1 6).toNatClampNeg x1)) 1 (upd (σ.2 1) (σ.1 6).toNatClampNeg (-1))) 2 (upd (σ.2 2) (σ.1 6).toNatClampNeg (-1))) 3 (upd (σ.2 3) (σ.1 6).toNatClampNeg x4)) 4 (upd (σ.2 4) (σ.1 6).toNatClampNeg x5)) 6 ((σ.1 6) + 1))) rfl 5 (by decide) tb1_78 rfl (v := .int ((σ.1 6) + 1)) rfl dX3_append_114 ?_
            refine j_iconst h (v := 1) dX3_append_117 (by decide) ?_
            refine j_isub h dX3_append_118 ?_
            subst hq3 hq5 hq7
            have E : fX3_append σ x1 x2 x3 x4 x5 = ((((σ.1 6) + 1) - 1), (sg (ar (ar (ar (ar (ar σ 0 (upd (σ.2 0) (σ.1 6).toNatClampNeg x1)) 1 (upd (σ.2 1) (σ.1 6).toNatClampNeg (-1))) 2 (upd (σ.2 2) (σ.1 6).toNatClampNeg (-1))) 3 (upd (σ.2 3) (σ.1 6).toNatClampNeg x4)) 4 (upd (σ.2 4) (σ.1 6).toNatClampNeg x5)) 6 ((σ.1 6) + 1))) := j_ig c1 (j_ip c2 (j_ip c4 (j_ip c6 (j_ig c8 rfl))))
            exact j_ireturn h hr (congrArg Prod.fst E).symm (congrArg (fun z => fx a cI cZ z.2) E).symm dX3_append_119
        ·
          refine j_iload_n h 3 dX3_append_64 rfl rfl ?_
          refine j_goto h dX3_append_65 (tgt := 69) (by decide) ?_
          refine j_iast h 5 0 (fx_g5 (σ := (ar (ar σ 0 (upd (σ.2 0) (σ.1 6).toNatClampNeg x1)) 1 (upd (σ.2 1) (σ.1 6).toNatClampNeg (-1)))) (F := (σ.2 2)) rfl) rfl (j_in64 (j_lo1 c1) c2) (w' := (fx a cI cZ (ar (ar (ar σ 0 (upd (σ.2 0) (σ.1 6).toNatClampNeg x1)) 1 (upd (σ.2 1) (σ.1 6).toNatClampNeg (-1))) 2 (upd (σ.2 2) (σ.1 6).toNatClampNeg x3)))) (fx_s5 _ _ _ (ar (ar σ 0 (upd (σ.2 0) (σ.1 6).toNatClampNeg x1)) 1 (upd (σ.2 1) (σ.1 6).toNatClampNeg (-1))) _) dX3_append_69 ?_
          refine j_aload_n h 0 dX3_append_70 rfl rfl ?_
          refine j_get h iX3 2 (fx_c2 _ _ _ (ar (ar (ar σ 0 (upd (σ.2 0) (σ.1 6).toNatClampNeg x1)) 1 (upd (σ.2 1) (σ.1 6).toNatClampNeg (-1))) 2 (upd (σ.2 2) (σ.1 6).toNatClampNeg x3))) rfl 3 (by decide) tb1_76 rfl (v := .ref (a 6)) rfl dX3_append_71 ?_
          refine j_aload_n h 0 dX3_append_74 rfl rfl ?_
          refine j_get h iX3 2 (fx_c2 _ _ _ (ar (ar (ar σ 0 (upd (σ.2 0) (σ.1 6).toNatClampNeg x1)) 1 (upd (σ.2 1) (σ.1 6).toNatClampNeg (-1))) 2 (upd (σ.2 2) (σ.1 6).toNatClampNeg x3))) rfl 5 (by decide) tb1_78 rfl (v := .int (σ.1 6)) rfl dX3_append_75 ?_
          refine j_iload_n h 1 dX3_append_78 rfl rfl ?_
          refine j_callSi0 h (kX3_readsSecond l D cI cZ x1) tb2_195 tb2_196 tb1_4 tb2_197 ⟨rfl, rfl⟩ (n := 1) (by decide +kernel) ⟨Nat.le_of_ble_eq_true rfl, Nat.le_of_ble_eq_true rfl⟩ (As := [.int x1]) rfl (st := [.int (σ.1 6), .ref (a 6)]) rfl (Nat.le_of_ble_eq_true rfl) dX3_append_79 ⟨Nat.zero_le _, Nat.zero_le _⟩ ?_
          generalize hq9 : (fX3_readsSecond x1) = q9
          refine j_if_eq h dX3_append_82 (tgt := 90) (by decide) (fun c10 => ?_) (fun c10 => ?_)
          ·
            refine j_iconst h (v := (-1)) dX3_append_90 (by decide) ?_
            refine j_iast h 6 0 (fx_g6 (σ := (ar (ar (ar σ 0 (upd (σ.2 0) (σ.1 6).toNatClampNeg x1)) 1 (upd (σ.2 1) (σ.1 6).toNatClampNeg (-1))) 2 (upd (σ.2 2) (σ.1 6).toNatClampNeg x3))) (F := (σ.2 3)) rfl) rfl (j_in64 (j_lo1 c1) c2) (w' := (fx a cI cZ (ar (ar (ar (ar σ 0 (upd (σ.2 0) (σ.1 6).toNatClampNeg x1)) 1 (upd (σ.2 1) (σ.1 6).toNatClampNeg (-1))) 2 (upd (σ.2 2) (σ.1 6).toNatClampNeg x3)) 3 (upd (σ.2 3) (σ.1 6).toNatClampNeg (-1))))) (fx_s6 _ _ _ (ar (ar (ar σ 0 (upd (σ.2 0) (σ.1 6).toNatClampNeg x1)) 1 (upd (σ.2 1) (σ.1 6).toNatClampNeg (-1))) 2 (upd (σ.2 2) (σ.1 6).toNatClampNeg x3)) _) dX3_append_91 ?_
            refine j_aload_n h 0 dX3_append_92 rfl rfl ?_
            refine j_get h iX3 2 (fx_c2 _ _ _ (ar (ar (ar (ar σ 0 (upd (σ.2 0) (σ.1 6).toNatClampNeg x1)) 1 (upd (σ.2 1) (σ.1 6).toNatClampNeg (-1))) 2 (upd (σ.2 2) (σ.1 6).toNatClampNeg x3)) 3 (upd (σ.2 3) (σ.1 6).toNatClampNeg (-1)))) rfl 4 (by decide) tb1_77 rfl (v := .ref (a 7)) rfl dX3_append_93 ?_
            refine j_aload_n h 0 dX3_append_96 rfl rfl ?_
            refine j_get h iX3 2 (fx_c2 _ _ _ (ar (ar (ar (ar σ 0 (upd (σ.2 0) (σ.1 6).toNatClampNeg x1)) 1 (upd (σ.2 1) (σ.1 6).toNatClampNeg (-1))) 2 (upd (σ.2 2) (σ.1 6).toNatClampNeg x3)) 3 (upd (σ.2 3) (σ.1 6).toNatClampNeg (-1)))) rfl 5 (by decide) tb1_78 rfl (v := .int (σ.1 6)) rfl dX3_append_97 ?_
            refine j_iload h 5 dX3_append_100 rfl ?_
            refine j_iast h 7 0 (fx_g7 (σ := (ar (ar (ar (ar σ 0 (upd (σ.2 0) (σ.1 6).toNatClampNeg x1)) 1 (upd (σ.2 1) (σ.1 6).toNatClampNeg (-1))) 2 (upd (σ.2 2) (σ.1 6).toNatClampNeg x3)) 3 (upd (σ.2 3) (σ.1 6).toNatClampNeg (-1)))) (F := (σ.2 4)) rfl) rfl (j_in64 (j_lo1 c1) c2) (w' := (fx a cI cZ (ar (ar (ar (ar (ar σ 0 (upd (σ.2 0) (σ.1 6).toNatClampNeg x1)) 1 (upd (σ.2 1) (σ.1 6).toNatClampNeg (-1))) 2 (upd (σ.2 2) (σ.1 6).toNatClampNeg x3)) 3 (upd (σ.2 3) (σ.1 6).toNatClampNeg (-1))) 4 (upd (σ.2 4) (σ.1 6).toNatClampNeg x5)))) (fx_s7 _ _ _ (ar (ar (ar (ar σ 0 (upd (σ.2 0) (σ.1 6).toNatClampNeg x1)) 1 (upd (σ.2 1) (σ.1 6).toNatClampNeg (-1))) 2 (upd (σ.2 2) (σ.1 6).toNatClampNeg x3)) 3 (upd (σ.2 3) (σ.1 6).toNatClampNeg (-1))) _) dX3_append_102 ?_
            refine j_aload_n h 0 dX3_append_103 rfl rfl ?_
            refine j_dup h dX3_append_104 rfl ?_
            refine j_get h iX3 2 (fx_c2 _ _ _ (ar (ar (ar (ar (ar σ 0 (upd (σ.2 0) (σ.1 6).toNatClampNeg x1)) 1 (upd (σ.2 1) (σ.1 6).toNatClampNeg (-1))) 2 (upd (σ.2 2) (σ.1 6).toNatClampNeg x3)) 3 (upd (σ.2 3) (σ.1 6).toNatClampNeg (-1))) 4 (upd (σ.2 4) (σ.1 6).toNatClampNeg x5))) rfl 5 (by decide) tb1_78 rfl (v := .int (σ.1 6)) rfl dX3_append_105 ?_
            refine j_iconst h (v := 1) dX3_append_108 (by decide) ?_
            refine j_iadd h dX3_append_109 ?_
            refine j_put h iX3 tyX3 tyX3_ok nmX3 2 (fx_c2 _ _ _ (ar (ar (ar (ar (ar σ 0 (upd (σ.2 0) (σ.1 6).toNatClampNeg x1)) 1 (upd (σ.2 1) (σ.1 6).toNatClampNeg (-1))) 2 (upd (σ.2 2) (σ.1 6).toNatClampNeg x3)) 3 (upd (σ.2 3) (σ.1 6).toNatClampNeg (-1))) 4 (upd (σ.2 4) (σ.1 6).toNatClampNeg x5))) rfl 5 (by decide) tb1_78 rfl rfl rfl rfl (Nat.le_of_ble_eq_true rfl) (w' := (fx a cI cZ (sg (ar (ar (ar (ar (ar σ 0 (upd (σ.2 0) (σ.1 6).toNatClampNeg x1)) 1 (upd (σ.2 1) (σ.1 6).toNatClampNeg (-1))) 2 (upd (σ.2 2) (σ.1 6).toNatClampNeg x3)) 3 (upd (σ.2 3) (σ.1 6).toNatClampNeg (-1))) 4 (upd (σ.2 4) (σ.1 6).toNatClampNeg x5)) 6 ((σ.1 6) + 1)))) (fx_p2_5 _ _ _ (ar (ar (ar (ar (ar σ 0 (upd (σ.2 0) (σ.1 6).toNatClampNeg x1)) 1 (upd (σ.2 1) (σ.1 6).toNatClampNeg (-1))) 2 (upd (σ.2 2) (σ.1 6).toNatClampNeg x3)) 3 (upd (σ.2 3) (σ.1 6).toNatClampNeg (-1))) 4 (upd (σ.2 4) (σ.1 6).toNatClampNeg x5)) _) dX3_append_110 ?_
            refine j_aload_n h 0 dX3_append_113 rfl rfl ?_
            refine j_get h iX3 2 (fx_c2 _ _ _ (sg (ar (ar (ar (ar (ar σ 0 (upd (σ.2 0) (σ.1 6).toNatClampNeg x1)) 1 (upd (σ.2 1) (σ.1 6).toNatClampNeg (-1))) 2 (upd (σ.2 2) (σ.1 6).toNatClampNeg x3)) 3 (upd (σ.2 3) (σ.1 6).toNatClampNeg (-1))) 4 (upd (σ.2 4) (σ.1 6).toNatClampNeg x5)) 6 ((σ.1 6) + 1))) rfl 5 (by decide) tb1_78 rfl (v := .int ((σ.1 6) + 1)) rfl dX3_append_114 ?_
            refine j_iconst h (v := 1) dX3_append_117 (by decide) ?_
            refine j_isub h dX3_append_118 ?_
            subst hq3 hq5 hq9
            have E : fX3_append σ x1 x2 x3 x4 x5 = ((((σ.1 6) + 1) - 1), (sg (ar (ar (ar (ar (ar σ 0 (upd (σ.2 0) (σ.1 6).toNatClampNeg x1)) 1 (upd (σ.2 1) (σ.1 6).toNatClampNeg (-1))) 2 (upd (σ.2 2) (σ.1 6).toNatClampNeg x3)) 3 (upd (σ.2 3) (σ.1 6).toNatClampNeg (-1))) 4 (upd (σ.2 4) (σ.1 6).toNatClampNeg x5)) 6 ((σ.1 6) + 1))) := j_ig c1 (j_ip c2 (j_ip c4 (j_ig c6 (j_ip c10 rfl))))
            exact j_ireturn h hr (congrArg Prod.fst E).symm (congrArg (fun z => fx a cI cZ z.2) E).symm dX3_append_119
          ·
            refine j_iload h 4 dX3_append_85 rfl ?_
            refine j_goto h dX3_append_87 (tgt := 91) (by decide) ?_
            refine j_iast h 6 0 (fx_g6 (σ := (ar (ar (ar σ 0 (upd (σ.2 0) (σ.1 6).toNatClampNeg x1)) 1 (upd (σ.2 1) (σ.1 6).toNatClampNeg (-1))) 2 (upd (σ.2 2) (σ.1 6).toNatClampNeg x3))) (F := (σ.2 3)) rfl) rfl (j_in64 (j_lo1 c1) c2) (w' := (fx a cI cZ (ar (ar (ar (ar σ 0 (upd (σ.2 0) (σ.1 6).toNatClampNeg x1)) 1 (upd (σ.2 1) (σ.1 6).toNatClampNeg (-1))) 2 (upd (σ.2 2) (σ.1 6).toNatClampNeg x3)) 3 (upd (σ.2 3) (σ.1 6).toNatClampNeg x4)))) (fx_s6 _ _ _ (ar (ar (ar σ 0 (upd (σ.2 0) (σ.1 6).toNatClampNeg x1)) 1 (upd (σ.2 1) (σ.1 6).toNatClampNeg (-1))) 2 (upd (σ.2 2) (σ.1 6).toNatClampNeg x3)) _) dX3_append_91 ?_
            refine j_aload_n h 0 dX3_append_92 rfl rfl ?_
            refine j_get h iX3 2 (fx_c2 _ _ _ (ar (ar (ar (ar σ 0 (upd (σ.2 0) (σ.1 6).toNatClampNeg x1)) 1 (upd (σ.2 1) (σ.1 6).toNatClampNeg (-1))) 2 (upd (σ.2 2) (σ.1 6).toNatClampNeg x3)) 3 (upd (σ.2 3) (σ.1 6).toNatClampNeg x4))) rfl 4 (by decide) tb1_77 rfl (v := .ref (a 7)) rfl dX3_append_93 ?_
            refine j_aload_n h 0 dX3_append_96 rfl rfl ?_
            refine j_get h iX3 2 (fx_c2 _ _ _ (ar (ar (ar (ar σ 0 (upd (σ.2 0) (σ.1 6).toNatClampNeg x1)) 1 (upd (σ.2 1) (σ.1 6).toNatClampNeg (-1))) 2 (upd (σ.2 2) (σ.1 6).toNatClampNeg x3)) 3 (upd (σ.2 3) (σ.1 6).toNatClampNeg x4))) rfl 5 (by decide) tb1_78 rfl (v := .int (σ.1 6)) rfl dX3_append_97 ?_
            refine j_iload h 5 dX3_append_100 rfl ?_
            refine j_iast h 7 0 (fx_g7 (σ := (ar (ar (ar (ar σ 0 (upd (σ.2 0) (σ.1 6).toNatClampNeg x1)) 1 (upd (σ.2 1) (σ.1 6).toNatClampNeg (-1))) 2 (upd (σ.2 2) (σ.1 6).toNatClampNeg x3)) 3 (upd (σ.2 3) (σ.1 6).toNatClampNeg x4))) (F := (σ.2 4)) rfl) rfl (j_in64 (j_lo1 c1) c2) (w' := (fx a cI cZ (ar (ar (ar (ar (ar σ 0 (upd (σ.2 0) (σ.1 6).toNatClampNeg x1)) 1 (upd (σ.2 1) (σ.1 6).toNatClampNeg (-1))) 2 (upd (σ.2 2) (σ.1 6).toNatClampNeg x3)) 3 (upd (σ.2 3) (σ.1 6).toNatClampNeg x4)) 4 (upd (σ.2 4) (σ.1 6).toNatClampNeg x5)))) (fx_s7 _ _ _ (ar (ar (ar (ar σ 0 (upd (σ.2 0) (σ.1 6).toNatClampNeg x1)) 1 (upd (σ.2 1) (σ.1 6).toNatClampNeg (-1))) 2 (upd (σ.2 2) (σ.1 6).toNatClampNeg x3)) 3 (upd (σ.2 3) (σ.1 6).toNatClampNeg x4)) _) dX3_append_102 ?_
            refine j_aload_n h 0 dX3_append_103 rfl rfl ?_
            refine j_dup h dX3_append_104 rfl ?_
            refine j_get h iX3 2 (fx_c2 _ _ _ (ar (ar (ar (ar (ar σ 0 (upd (σ.2 0) (σ.1 6).toNatClampNeg x1)) 1 (upd (σ.2 1) (σ.1 6).toNatClampNeg (-1))) 2 (upd (σ.2 2) (σ.1 6).toNatClampNeg x3)) 3 (upd (σ.2 3) (σ.1 6).toNatClampNeg x4)) 4 (upd (σ.2 4) (σ.1 6).toNatClampNeg x5))) rfl 5 (by decide) tb1_78 rfl (v := .int (σ.1 6)) rfl dX3_append_105 ?_
            refine j_iconst h (v := 1) dX3_append_108 (by decide) ?_
            refine j_iadd h dX3_append_109 ?_
            refine j_put h iX3 tyX3 tyX3_ok nmX3 2 (fx_c2 _ _ _ (ar (ar (ar (ar (ar σ 0 (upd (σ.2 0) (σ.1 6).toNatClampNeg x1)) 1 (upd (σ.2 1) (σ.1 6).toNatClampNeg (-1))) 2 (upd (σ.2 2) (σ.1 6).toNatClampNeg x3)) 3 (upd (σ.2 3) (σ.1 6).toNatClampNeg x4)) 4 (upd (σ.2 4) (σ.1 6).toNatClampNeg x5))) rfl 5 (by decide) tb1_78 rfl rfl rfl rfl (Nat.le_of_ble_eq_true rfl) (w' := (fx a cI cZ (sg (ar (ar (ar (ar (ar σ 0 (upd (σ.2 0) (σ.1 6).toNatClampNeg x1)) 1 (upd (σ.2 1) (σ.1 6).toNatClampNeg (-1))) 2 (upd (σ.2 2) (σ.1 6).toNatClampNeg x3)) 3 (upd (σ.2 3) (σ.1 6).toNatClampNeg x4)) 4 (upd (σ.2 4) (σ.1 6).toNatClampNeg x5)) 6 ((σ.1 6) + 1)))) (fx_p2_5 _ _ _ (ar (ar (ar (ar (ar σ 0 (upd (σ.2 0) (σ.1 6).toNatClampNeg x1)) 1 (upd (σ.2 1) (σ.1 6).toNatClampNeg (-1))) 2 (upd (σ.2 2) (σ.1 6).toNatClampNeg x3)) 3 (upd (σ.2 3) (σ.1 6).toNatClampNeg x4)) 4 (upd (σ.2 4) (σ.1 6).toNatClampNeg x5)) _) dX3_append_110 ?_
            refine j_aload_n h 0 dX3_append_113 rfl rfl ?_
            refine j_get h iX3 2 (fx_c2 _ _ _ (sg (ar (ar (ar (ar (ar σ 0 (upd (σ.2 0) (σ.1 6).toNatClampNeg x1)) 1 (upd (σ.2 1) (σ.1 6).toNatClampNeg (-1))) 2 (upd (σ.2 2) (σ.1 6).toNatClampNeg x3)) 3 (upd (σ.2 3) (σ.1 6).toNatClampNeg x4)) 4 (upd (σ.2 4) (σ.1 6).toNatClampNeg x5)) 6 ((σ.1 6) + 1))) rfl 5 (by decide) tb1_78 rfl (v := .int ((σ.1 6) + 1)) rfl dX3_append_114 ?_
            refine j_iconst h (v := 1) dX3_append_117 (by decide) ?_
            refine j_isub h dX3_append_118 ?_
            subst hq3 hq5 hq9
            have E : fX3_append σ x1 x2 x3 x4 x5 = ((((σ.1 6) + 1) - 1), (sg (ar (ar (ar (ar (ar σ 0 (upd (σ.2 0) (σ.1 6).toNatClampNeg x1)) 1 (upd (σ.2 1) (σ.1 6).toNatClampNeg (-1))) 2 (upd (σ.2 2) (σ.1 6).toNatClampNeg x3)) 3 (upd (σ.2 3) (σ.1 6).toNatClampNeg x4)) 4 (upd (σ.2 4) (σ.1 6).toNatClampNeg x5)) 6 ((σ.1 6) + 1))) := j_ig c1 (j_ip c2 (j_ip c4 (j_ig c6 (j_ig c10 rfl))))
            exact j_ireturn h hr (congrArg Prod.fst E).symm (congrArg (fun z => fx a cI cZ z.2) E).symm dX3_append_119
      ·
        refine j_iload_n h 2 dX3_append_43 rfl rfl ?_
        refine j_goto h dX3_append_44 (tgt := 48) (by decide) ?_
        refine j_iast h 4 0 (fx_g4 (σ := (ar σ 0 (upd (σ.2 0) (σ.1 6).toNatClampNeg x1))) (F := (σ.2 1)) rfl) rfl (j_in64 (j_lo1 c1) c2) (w' := (fx a cI cZ (ar (ar σ 0 (upd (σ.2 0) (σ.1 6).toNatClampNeg x1)) 1 (upd (σ.2 1) (σ.1 6).toNatClampNeg x2)))) (fx_s4 _ _ _ (ar σ 0 (upd (σ.2 0) (σ.1 6).toNatClampNeg x1)) _) dX3_append_48 ?_
        refine j_aload_n h 0 dX3_append_49 rfl rfl ?_
        refine j_get h iX3 2 (fx_c2 _ _ _ (ar (ar σ 0 (upd (σ.2 0) (σ.1 6).toNatClampNeg x1)) 1 (upd (σ.2 1) (σ.1 6).toNatClampNeg x2))) rfl 2 (by decide) tb1_75 rfl (v := .ref (a 5)) rfl dX3_append_50 ?_
        refine j_aload_n h 0 dX3_append_53 rfl rfl ?_
        refine j_get h iX3 2 (fx_c2 _ _ _ (ar (ar σ 0 (upd (σ.2 0) (σ.1 6).toNatClampNeg x1)) 1 (upd (σ.2 1) (σ.1 6).toNatClampNeg x2))) rfl 5 (by decide) tb1_78 rfl (v := .int (σ.1 6)) rfl dX3_append_54 ?_
        refine j_iload_n h 1 dX3_append_57 rfl rfl ?_
        refine j_callSi0 h (kX3_readsFirst l D cI cZ x1) tb2_192 tb2_193 tb1_4 tb2_194 ⟨rfl, rfl⟩ (n := 1) (by decide +kernel) ⟨Nat.le_of_ble_eq_true rfl, Nat.le_of_ble_eq_true rfl⟩ (As := [.int x1]) rfl (st := [.int (σ.1 6), .ref (a 5)]) rfl (Nat.le_of_ble_eq_true rfl) dX3_append_58 ⟨Nat.zero_le _, Nat.zero_le _⟩ ?_
        generalize hq11 : (fX3_readsFirst x1) = q11
        refine j_if_eq h dX3_append_61 (tgt := 68) (by decide) (fun c12 => ?_) (fun c12 => ?_)
        ·
          refine j_iconst h (v := (-1)) dX3_append_68 (by decide) ?_
          refine j_iast h 5 0 (fx_g5 (σ := (ar (ar σ 0 (upd (σ.2 0) (σ.1 6).toNatClampNeg x1)) 1 (upd (σ.2 1) (σ.1 6).toNatClampNeg x2))) (F := (σ.2 2)) rfl) rfl (j_in64 (j_lo1 c1) c2) (w' := (fx a cI cZ (ar (ar (ar σ 0 (upd (σ.2 0) (σ.1 6).toNatClampNeg x1)) 1 (upd (σ.2 1) (σ.1 6).toNatClampNeg x2)) 2 (upd (σ.2 2) (σ.1 6).toNatClampNeg (-1))))) (fx_s5 _ _ _ (ar (ar σ 0 (upd (σ.2 0) (σ.1 6).toNatClampNeg x1)) 1 (upd (σ.2 1) (σ.1 6).toNatClampNeg x2)) _) dX3_append_69 ?_
          refine j_aload_n h 0 dX3_append_70 rfl rfl ?_
          refine j_get h iX3 2 (fx_c2 _ _ _ (ar (ar (ar σ 0 (upd (σ.2 0) (σ.1 6).toNatClampNeg x1)) 1 (upd (σ.2 1) (σ.1 6).toNatClampNeg x2)) 2 (upd (σ.2 2) (σ.1 6).toNatClampNeg (-1)))) rfl 3 (by decide) tb1_76 rfl (v := .ref (a 6)) rfl dX3_append_71 ?_
          refine j_aload_n h 0 dX3_append_74 rfl rfl ?_
          refine j_get h iX3 2 (fx_c2 _ _ _ (ar (ar (ar σ 0 (upd (σ.2 0) (σ.1 6).toNatClampNeg x1)) 1 (upd (σ.2 1) (σ.1 6).toNatClampNeg x2)) 2 (upd (σ.2 2) (σ.1 6).toNatClampNeg (-1)))) rfl 5 (by decide) tb1_78 rfl (v := .int (σ.1 6)) rfl dX3_append_75 ?_
          refine j_iload_n h 1 dX3_append_78 rfl rfl ?_
          refine j_callSi0 h (kX3_readsSecond l D cI cZ x1) tb2_195 tb2_196 tb1_4 tb2_197 ⟨rfl, rfl⟩ (n := 1) (by decide +kernel) ⟨Nat.le_of_ble_eq_true rfl, Nat.le_of_ble_eq_true rfl⟩ (As := [.int x1]) rfl (st := [.int (σ.1 6), .ref (a 6)]) rfl (Nat.le_of_ble_eq_true rfl) dX3_append_79 ⟨Nat.zero_le _, Nat.zero_le _⟩ ?_
          generalize hq13 : (fX3_readsSecond x1) = q13
          refine j_if_eq h dX3_append_82 (tgt := 90) (by decide) (fun c14 => ?_) (fun c14 => ?_)
          ·
            refine j_iconst h (v := (-1)) dX3_append_90 (by decide) ?_
            refine j_iast h 6 0 (fx_g6 (σ := (ar (ar (ar σ 0 (upd (σ.2 0) (σ.1 6).toNatClampNeg x1)) 1 (upd (σ.2 1) (σ.1 6).toNatClampNeg x2)) 2 (upd (σ.2 2) (σ.1 6).toNatClampNeg (-1)))) (F := (σ.2 3)) rfl) rfl (j_in64 (j_lo1 c1) c2) (w' := (fx a cI cZ (ar (ar (ar (ar σ 0 (upd (σ.2 0) (σ.1 6).toNatClampNeg x1)) 1 (upd (σ.2 1) (σ.1 6).toNatClampNeg x2)) 2 (upd (σ.2 2) (σ.1 6).toNatClampNeg (-1))) 3 (upd (σ.2 3) (σ.1 6).toNatClampNeg (-1))))) (fx_s6 _ _ _ (ar (ar (ar σ 0 (upd (σ.2 0) (σ.1 6).toNatClampNeg x1)) 1 (upd (σ.2 1) (σ.1 6).toNatClampNeg x2)) 2 (upd (σ.2 2) (σ.1 6).toNatClampNeg (-1))) _) dX3_append_91 ?_
            refine j_aload_n h 0 dX3_append_92 rfl rfl ?_
            refine j_get h iX3 2 (fx_c2 _ _ _ (ar (ar (ar (ar σ 0 (upd (σ.2 0) (σ.1 6).toNatClampNeg x1)) 1 (upd (σ.2 1) (σ.1 6).toNatClampNeg x2)) 2 (upd (σ.2 2) (σ.1 6).toNatClampNeg (-1))) 3 (upd (σ.2 3) (σ.1 6).toNatClampNeg (-1)))) rfl 4 (by decide) tb1_77 rfl (v := .ref (a 7)) rfl dX3_append_93 ?_
            refine j_aload_n h 0 dX3_append_96 rfl rfl ?_
            refine j_get h iX3 2 (fx_c2 _ _ _ (ar (ar (ar (ar σ 0 (upd (σ.2 0) (σ.1 6).toNatClampNeg x1)) 1 (upd (σ.2 1) (σ.1 6).toNatClampNeg x2)) 2 (upd (σ.2 2) (σ.1 6).toNatClampNeg (-1))) 3 (upd (σ.2 3) (σ.1 6).toNatClampNeg (-1)))) rfl 5 (by decide) tb1_78 rfl (v := .int (σ.1 6)) rfl dX3_append_97 ?_
            refine j_iload h 5 dX3_append_100 rfl ?_
            refine j_iast h 7 0 (fx_g7 (σ := (ar (ar (ar (ar σ 0 (upd (σ.2 0) (σ.1 6).toNatClampNeg x1)) 1 (upd (σ.2 1) (σ.1 6).toNatClampNeg x2)) 2 (upd (σ.2 2) (σ.1 6).toNatClampNeg (-1))) 3 (upd (σ.2 3) (σ.1 6).toNatClampNeg (-1)))) (F := (σ.2 4)) rfl) rfl (j_in64 (j_lo1 c1) c2) (w' := (fx a cI cZ (ar (ar (ar (ar (ar σ 0 (upd (σ.2 0) (σ.1 6).toNatClampNeg x1)) 1 (upd (σ.2 1) (σ.1 6).toNatClampNeg x2)) 2 (upd (σ.2 2) (σ.1 6).toNatClampNeg (-1))) 3 (upd (σ.2 3) (σ.1 6).toNatClampNeg (-1))) 4 (upd (σ.2 4) (σ.1 6).toNatClampNeg x5)))) (fx_s7 _ _ _ (ar (ar (ar (ar σ 0 (upd (σ.2 0) (σ.1 6).toNatClampNeg x1)) 1 (upd (σ.2 1) (σ.1 6).toNatClampNeg x2)) 2 (upd (σ.2 2) (σ.1 6).toNatClampNeg (-1))) 3 (upd (σ.2 3) (σ.1 6).toNatClampNeg (-1))) _) dX3_append_102 ?_
            refine j_aload_n h 0 dX3_append_103 rfl rfl ?_
            refine j_dup h dX3_append_104 rfl ?_
            refine j_get h iX3 2 (fx_c2 _ _ _ (ar (ar (ar (ar (ar σ 0 (upd (σ.2 0) (σ.1 6).toNatClampNeg x1)) 1 (upd (σ.2 1) (σ.1 6).toNatClampNeg x2)) 2 (upd (σ.2 2) (σ.1 6).toNatClampNeg (-1))) 3 (upd (σ.2 3) (σ.1 6).toNatClampNeg (-1))) 4 (upd (σ.2 4) (σ.1 6).toNatClampNeg x5))) rfl 5 (by decide) tb1_78 rfl (v := .int (σ.1 6)) rfl dX3_append_105 ?_
            refine j_iconst h (v := 1) dX3_append_108 (by decide) ?_
            refine j_iadd h dX3_append_109 ?_
            refine j_put h iX3 tyX3 tyX3_ok nmX3 2 (fx_c2 _ _ _ (ar (ar (ar (ar (ar σ 0 (upd (σ.2 0) (σ.1 6).toNatClampNeg x1)) 1 (upd (σ.2 1) (σ.1 6).toNatClampNeg x2)) 2 (upd (σ.2 2) (σ.1 6).toNatClampNeg (-1))) 3 (upd (σ.2 3) (σ.1 6).toNatClampNeg (-1))) 4 (upd (σ.2 4) (σ.1 6).toNatClampNeg x5))) rfl 5 (by decide) tb1_78 rfl rfl rfl rfl (Nat.le_of_ble_eq_true rfl) (w' := (fx a cI cZ (sg (ar (ar (ar (ar (ar σ 0 (upd (σ.2 0) (σ.1 6).toNatClampNeg x1)) 1 (upd (σ.2 1) (σ.1 6).toNatClampNeg x2)) 2 (upd (σ.2 2) (σ.1 6).toNatClampNeg (-1))) 3 (upd (σ.2 3) (σ.1 6).toNatClampNeg (-1))) 4 (upd (σ.2 4) (σ.1 6).toNatClampNeg x5)) 6 ((σ.1 6) + 1)))) (fx_p2_5 _ _ _ (ar (ar (ar (ar (ar σ 0 (upd (σ.2 0) (σ.1 6).toNatClampNeg x1)) 1 (upd (σ.2 1) (σ.1 6).toNatClampNeg x2)) 2 (upd (σ.2 2) (σ.1 6).toNatClampNeg (-1))) 3 (upd (σ.2 3) (σ.1 6).toNatClampNeg (-1))) 4 (upd (σ.2 4) (σ.1 6).toNatClampNeg x5)) _) dX3_append_110 ?_
            refine j_aload_n h 0 dX3_append_113 rfl rfl ?_
            refine j_get h iX3 2 (fx_c2 _ _ _ (sg (ar (ar (ar (ar (ar σ 0 (upd (σ.2 0) (σ.1 6).toNatClampNeg x1)) 1 (upd (σ.2 1) (σ.1 6).toNatClampNeg x2)) 2 (upd (σ.2 2) (σ.1 6).toNatClampNeg (-1))) 3 (upd (σ.2 3) (σ.1 6).toNatClampNeg (-1))) 4 (upd (σ.2 4) (σ.1 6).toNatClampNeg x5)) 6 ((σ.1 6) + 1))) rfl 5 (by decide) tb1_78 rfl (v := .int ((σ.1 6) + 1)) rfl dX3_append_114 ?_
            refine j_iconst h (v := 1) dX3_append_117 (by decide) ?_
            refine j_isub h dX3_append_118 ?_
            subst hq3 hq11 hq13
            have E : fX3_append σ x1 x2 x3 x4 x5 = ((((σ.1 6) + 1) - 1), (sg (ar (ar (ar (ar (ar σ 0 (upd (σ.2 0) (σ.1 6).toNatClampNeg x1)) 1 (upd (σ.2 1) (σ.1 6).toNatClampNeg x2)) 2 (upd (σ.2 2) (σ.1 6).toNatClampNeg (-1))) 3 (upd (σ.2 3) (σ.1 6).toNatClampNeg (-1))) 4 (upd (σ.2 4) (σ.1 6).toNatClampNeg x5)) 6 ((σ.1 6) + 1))) := j_ig c1 (j_ip c2 (j_ig c4 (j_ip c12 (j_ip c14 rfl))))
            exact j_ireturn h hr (congrArg Prod.fst E).symm (congrArg (fun z => fx a cI cZ z.2) E).symm dX3_append_119
          ·
            refine j_iload h 4 dX3_append_85 rfl ?_
            refine j_goto h dX3_append_87 (tgt := 91) (by decide) ?_
            refine j_iast h 6 0 (fx_g6 (σ := (ar (ar (ar σ 0 (upd (σ.2 0) (σ.1 6).toNatClampNeg x1)) 1 (upd (σ.2 1) (σ.1 6).toNatClampNeg x2)) 2 (upd (σ.2 2) (σ.1 6).toNatClampNeg (-1)))) (F := (σ.2 3)) rfl) rfl (j_in64 (j_lo1 c1) c2) (w' := (fx a cI cZ (ar (ar (ar (ar σ 0 (upd (σ.2 0) (σ.1 6).toNatClampNeg x1)) 1 (upd (σ.2 1) (σ.1 6).toNatClampNeg x2)) 2 (upd (σ.2 2) (σ.1 6).toNatClampNeg (-1))) 3 (upd (σ.2 3) (σ.1 6).toNatClampNeg x4)))) (fx_s6 _ _ _ (ar (ar (ar σ 0 (upd (σ.2 0) (σ.1 6).toNatClampNeg x1)) 1 (upd (σ.2 1) (σ.1 6).toNatClampNeg x2)) 2 (upd (σ.2 2) (σ.1 6).toNatClampNeg (-1))) _) dX3_append_91 ?_
            refine j_aload_n h 0 dX3_append_92 rfl rfl ?_
            refine j_get h iX3 2 (fx_c2 _ _ _ (ar (ar (ar (ar σ 0 (upd (σ.2 0) (σ.1 6).toNatClampNeg x1)) 1 (upd (σ.2 1) (σ.1 6).toNatClampNeg x2)) 2 (upd (σ.2 2) (σ.1 6).toNatClampNeg (-1))) 3 (upd (σ.2 3) (σ.1 6).toNatClampNeg x4))) rfl 4 (by decide) tb1_77 rfl (v := .ref (a 7)) rfl dX3_append_93 ?_
            refine j_aload_n h 0 dX3_append_96 rfl rfl ?_
            refine j_get h iX3 2 (fx_c2 _ _ _ (ar (ar (ar (ar σ 0 (upd (σ.2 0) (σ.1 6).toNatClampNeg x1)) 1 (upd (σ.2 1) (σ.1 6).toNatClampNeg x2)) 2 (upd (σ.2 2) (σ.1 6).toNatClampNeg (-1))) 3 (upd (σ.2 3) (σ.1 6).toNatClampNeg x4))) rfl 5 (by decide) tb1_78 rfl (v := .int (σ.1 6)) rfl dX3_append_97 ?_
            refine j_iload h 5 dX3_append_100 rfl ?_
            refine j_iast h 7 0 (fx_g7 (σ := (ar (ar (ar (ar σ 0 (upd (σ.2 0) (σ.1 6).toNatClampNeg x1)) 1 (upd (σ.2 1) (σ.1 6).toNatClampNeg x2)) 2 (upd (σ.2 2) (σ.1 6).toNatClampNeg (-1))) 3 (upd (σ.2 3) (σ.1 6).toNatClampNeg x4))) (F := (σ.2 4)) rfl) rfl (j_in64 (j_lo1 c1) c2) (w' := (fx a cI cZ (ar (ar (ar (ar (ar σ 0 (upd (σ.2 0) (σ.1 6).toNatClampNeg x1)) 1 (upd (σ.2 1) (σ.1 6).toNatClampNeg x2)) 2 (upd (σ.2 2) (σ.1 6).toNatClampNeg (-1))) 3 (upd (σ.2 3) (σ.1 6).toNatClampNeg x4)) 4 (upd (σ.2 4) (σ.1 6).toNatClampNeg x5)))) (fx_s7 _ _ _ (ar (ar (ar (ar σ 0 (upd (σ.2 0) (σ.1 6).toNatClampNeg x1)) 1 (upd (σ.2 1) (σ.1 6).toNatClampNeg x2)) 2 (upd (σ.2 2) (σ.1 6).toNatClampNeg (-1))) 3 (upd (σ.2 3) (σ.1 6).toNatClampNeg x4)) _) dX3_append_102 ?_
            refine j_aload_n h 0 dX3_append_103 rfl rfl ?_
            refine j_dup h dX3_append_104 rfl ?_
            refine j_get h iX3 2 (fx_c2 _ _ _ (ar (ar (ar (ar (ar σ 0 (upd (σ.2 0) (σ.1 6).toNatClampNeg x1)) 1 (upd (σ.2 1) (σ.1 6).toNatClampNeg x2)) 2 (upd (σ.2 2) (σ.1 6).toNatClampNeg (-1))) 3 (upd (σ.2 3) (σ.1 6).toNatClampNeg x4)) 4 (upd (σ.2 4) (σ.1 6).toNatClampNeg x5))) rfl 5 (by decide) tb1_78 rfl (v := .int (σ.1 6)) rfl dX3_append_105 ?_
            refine j_iconst h (v := 1) dX3_append_108 (by decide) ?_
            refine j_iadd h dX3_append_109 ?_
            refine j_put h iX3 tyX3 tyX3_ok nmX3 2 (fx_c2 _ _ _ (ar (ar (ar (ar (ar σ 0 (upd (σ.2 0) (σ.1 6).toNatClampNeg x1)) 1 (upd (σ.2 1) (σ.1 6).toNatClampNeg x2)) 2 (upd (σ.2 2) (σ.1 6).toNatClampNeg (-1))) 3 (upd (σ.2 3) (σ.1 6).toNatClampNeg x4)) 4 (upd (σ.2 4) (σ.1 6).toNatClampNeg x5))) rfl 5 (by decide) tb1_78 rfl rfl rfl rfl (Nat.le_of_ble_eq_true rfl) (w' := (fx a cI cZ (sg (ar (ar (ar (ar (ar σ 0 (upd (σ.2 0) (σ.1 6).toNatClampNeg x1)) 1 (upd (σ.2 1) (σ.1 6).toNatClampNeg x2)) 2 (upd (σ.2 2) (σ.1 6).toNatClampNeg (-1))) 3 (upd (σ.2 3) (σ.1 6).toNatClampNeg x4)) 4 (upd (σ.2 4) (σ.1 6).toNatClampNeg x5)) 6 ((σ.1 6) + 1)))) (fx_p2_5 _ _ _ (ar (ar (ar (ar (ar σ 0 (upd (σ.2 0) (σ.1 6).toNatClampNeg x1)) 1 (upd (σ.2 1) (σ.1 6).toNatClampNeg x2)) 2 (upd (σ.2 2) (σ.1 6).toNatClampNeg (-1))) 3 (upd (σ.2 3) (σ.1 6).toNatClampNeg x4)) 4 (upd (σ.2 4) (σ.1 6).toNatClampNeg x5)) _) dX3_append_110 ?_
            refine j_aload_n h 0 dX3_append_113 rfl rfl ?_
            refine j_get h iX3 2 (fx_c2 _ _ _ (sg (ar (ar (ar (ar (ar σ 0 (upd (σ.2 0) (σ.1 6).toNatClampNeg x1)) 1 (upd (σ.2 1) (σ.1 6).toNatClampNeg x2)) 2 (upd (σ.2 2) (σ.1 6).toNatClampNeg (-1))) 3 (upd (σ.2 3) (σ.1 6).toNatClampNeg x4)) 4 (upd (σ.2 4) (σ.1 6).toNatClampNeg x5)) 6 ((σ.1 6) + 1))) rfl 5 (by decide) tb1_78 rfl (v := .int ((σ.1 6) + 1)) rfl dX3_append_114 ?_
            refine j_iconst h (v := 1) dX3_append_117 (by decide) ?_
            refine j_isub h dX3_append_118 ?_
            subst hq3 hq11 hq13
            have E : fX3_append σ x1 x2 x3 x4 x5 = ((((σ.1 6) + 1) - 1), (sg (ar (ar (ar (ar (ar σ 0 (upd (σ.2 0) (σ.1 6).toNatClampNeg x1)) 1 (upd (σ.2 1) (σ.1 6).toNatClampNeg x2)) 2 (upd (σ.2 2) (σ.1 6).toNatClampNeg (-1))) 3 (upd (σ.2 3) (σ.1 6).toNatClampNeg x4)) 4 (upd (σ.2 4) (σ.1 6).toNatClampNeg x5)) 6 ((σ.1 6) + 1))) := j_ig c1 (j_ip c2 (j_ig c4 (j_ip c12 (j_ig c14 rfl))))
            exact j_ireturn h hr (congrArg Prod.fst E).symm (congrArg (fun z => fx a cI cZ z.2) E).symm dX3_append_119
        ·
          refine j_iload_n h 3 dX3_append_64 rfl rfl ?_
          refine j_goto h dX3_append_65 (tgt := 69) (by decide) ?_
          refine j_iast h 5 0 (fx_g5 (σ := (ar (ar σ 0 (upd (σ.2 0) (σ.1 6).toNatClampNeg x1)) 1 (upd (σ.2 1) (σ.1 6).toNatClampNeg x2))) (F := (σ.2 2)) rfl) rfl (j_in64 (j_lo1 c1) c2) (w' := (fx a cI cZ (ar (ar (ar σ 0 (upd (σ.2 0) (σ.1 6).toNatClampNeg x1)) 1 (upd (σ.2 1) (σ.1 6).toNatClampNeg x2)) 2 (upd (σ.2 2) (σ.1 6).toNatClampNeg x3)))) (fx_s5 _ _ _ (ar (ar σ 0 (upd (σ.2 0) (σ.1 6).toNatClampNeg x1)) 1 (upd (σ.2 1) (σ.1 6).toNatClampNeg x2)) _) dX3_append_69 ?_
          refine j_aload_n h 0 dX3_append_70 rfl rfl ?_
          refine j_get h iX3 2 (fx_c2 _ _ _ (ar (ar (ar σ 0 (upd (σ.2 0) (σ.1 6).toNatClampNeg x1)) 1 (upd (σ.2 1) (σ.1 6).toNatClampNeg x2)) 2 (upd (σ.2 2) (σ.1 6).toNatClampNeg x3))) rfl 3 (by decide) tb1_76 rfl (v := .ref (a 6)) rfl dX3_append_71 ?_
          refine j_aload_n h 0 dX3_append_74 rfl rfl ?_
          refine j_get h iX3 2 (fx_c2 _ _ _ (ar (ar (ar σ 0 (upd (σ.2 0) (σ.1 6).toNatClampNeg x1)) 1 (upd (σ.2 1) (σ.1 6).toNatClampNeg x2)) 2 (upd (σ.2 2) (σ.1 6).toNatClampNeg x3))) rfl 5 (by decide) tb1_78 rfl (v := .int (σ.1 6)) rfl dX3_append_75 ?_
          refine j_iload_n h 1 dX3_append_78 rfl rfl ?_
          refine j_callSi0 h (kX3_readsSecond l D cI cZ x1) tb2_195 tb2_196 tb1_4 tb2_197 ⟨rfl, rfl⟩ (n := 1) (by decide +kernel) ⟨Nat.le_of_ble_eq_true rfl, Nat.le_of_ble_eq_true rfl⟩ (As := [.int x1]) rfl (st := [.int (σ.1 6), .ref (a 6)]) rfl (Nat.le_of_ble_eq_true rfl) dX3_append_79 ⟨Nat.zero_le _, Nat.zero_le _⟩ ?_
          generalize hq15 : (fX3_readsSecond x1) = q15
          refine j_if_eq h dX3_append_82 (tgt := 90) (by decide) (fun c16 => ?_) (fun c16 => ?_)
          ·
            refine j_iconst h (v := (-1)) dX3_append_90 (by decide) ?_
            refine j_iast h 6 0 (fx_g6 (σ := (ar (ar (ar σ 0 (upd (σ.2 0) (σ.1 6).toNatClampNeg x1)) 1 (upd (σ.2 1) (σ.1 6).toNatClampNeg x2)) 2 (upd (σ.2 2) (σ.1 6).toNatClampNeg x3))) (F := (σ.2 3)) rfl) rfl (j_in64 (j_lo1 c1) c2) (w' := (fx a cI cZ (ar (ar (ar (ar σ 0 (upd (σ.2 0) (σ.1 6).toNatClampNeg x1)) 1 (upd (σ.2 1) (σ.1 6).toNatClampNeg x2)) 2 (upd (σ.2 2) (σ.1 6).toNatClampNeg x3)) 3 (upd (σ.2 3) (σ.1 6).toNatClampNeg (-1))))) (fx_s6 _ _ _ (ar (ar (ar σ 0 (upd (σ.2 0) (σ.1 6).toNatClampNeg x1)) 1 (upd (σ.2 1) (σ.1 6).toNatClampNeg x2)) 2 (upd (σ.2 2) (σ.1 6).toNatClampNeg x3)) _) dX3_append_91 ?_
            refine j_aload_n h 0 dX3_append_92 rfl rfl ?_
            refine j_get h iX3 2 (fx_c2 _ _ _ (ar (ar (ar (ar σ 0 (upd (σ.2 0) (σ.1 6).toNatClampNeg x1)) 1 (upd (σ.2 1) (σ.1 6).toNatClampNeg x2)) 2 (upd (σ.2 2) (σ.1 6).toNatClampNeg x3)) 3 (upd (σ.2 3) (σ.1 6).toNatClampNeg (-1)))) rfl 4 (by decide) tb1_77 rfl (v := .ref (a 7)) rfl dX3_append_93 ?_
            refine j_aload_n h 0 dX3_append_96 rfl rfl ?_
            refine j_get h iX3 2 (fx_c2 _ _ _ (ar (ar (ar (ar σ 0 (upd (σ.2 0) (σ.1 6).toNatClampNeg x1)) 1 (upd (σ.2 1) (σ.1 6).toNatClampNeg x2)) 2 (upd (σ.2 2) (σ.1 6).toNatClampNeg x3)) 3 (upd (σ.2 3) (σ.1 6).toNatClampNeg (-1)))) rfl 5 (by decide) tb1_78 rfl (v := .int (σ.1 6)) rfl dX3_append_97 ?_
            refine j_iload h 5 dX3_append_100 rfl ?_
            refine j_iast h 7 0 (fx_g7 (σ := (ar (ar (ar (ar σ 0 (upd (σ.2 0) (σ.1 6).toNatClampNeg x1)) 1 (upd (σ.2 1) (σ.1 6).toNatClampNeg x2)) 2 (upd (σ.2 2) (σ.1 6).toNatClampNeg x3)) 3 (upd (σ.2 3) (σ.1 6).toNatClampNeg (-1)))) (F := (σ.2 4)) rfl) rfl (j_in64 (j_lo1 c1) c2) (w' := (fx a cI cZ (ar (ar (ar (ar (ar σ 0 (upd (σ.2 0) (σ.1 6).toNatClampNeg x1)) 1 (upd (σ.2 1) (σ.1 6).toNatClampNeg x2)) 2 (upd (σ.2 2) (σ.1 6).toNatClampNeg x3)) 3 (upd (σ.2 3) (σ.1 6).toNatClampNeg (-1))) 4 (upd (σ.2 4) (σ.1 6).toNatClampNeg x5)))) (fx_s7 _ _ _ (ar (ar (ar (ar σ 0 (upd (σ.2 0) (σ.1 6).toNatClampNeg x1)) 1 (upd (σ.2 1) (σ.1 6).toNatClampNeg x2)) 2 (upd (σ.2 2) (σ.1 6).toNatClampNeg x3)) 3 (upd (σ.2 3) (σ.1 6).toNatClampNeg (-1))) _) dX3_append_102 ?_
            refine j_aload_n h 0 dX3_append_103 rfl rfl ?_
            refine j_dup h dX3_append_104 rfl ?_
            refine j_get h iX3 2 (fx_c2 _ _ _ (ar (ar (ar (ar (ar σ 0 (upd (σ.2 0) (σ.1 6).toNatClampNeg x1)) 1 (upd (σ.2 1) (σ.1 6).toNatClampNeg x2)) 2 (upd (σ.2 2) (σ.1 6).toNatClampNeg x3)) 3 (upd (σ.2 3) (σ.1 6).toNatClampNeg (-1))) 4 (upd (σ.2 4) (σ.1 6).toNatClampNeg x5))) rfl 5 (by decide) tb1_78 rfl (v := .int (σ.1 6)) rfl dX3_append_105 ?_
            refine j_iconst h (v := 1) dX3_append_108 (by decide) ?_
            refine j_iadd h dX3_append_109 ?_
            refine j_put h iX3 tyX3 tyX3_ok nmX3 2 (fx_c2 _ _ _ (ar (ar (ar (ar (ar σ 0 (upd (σ.2 0) (σ.1 6).toNatClampNeg x1)) 1 (upd (σ.2 1) (σ.1 6).toNatClampNeg x2)) 2 (upd (σ.2 2) (σ.1 6).toNatClampNeg x3)) 3 (upd (σ.2 3) (σ.1 6).toNatClampNeg (-1))) 4 (upd (σ.2 4) (σ.1 6).toNatClampNeg x5))) rfl 5 (by decide) tb1_78 rfl rfl rfl rfl (Nat.le_of_ble_eq_true rfl) (w' := (fx a cI cZ (sg (ar (ar (ar (ar (ar σ 0 (upd (σ.2 0) (σ.1 6).toNatClampNeg x1)) 1 (upd (σ.2 1) (σ.1 6).toNatClampNeg x2)) 2 (upd (σ.2 2) (σ.1 6).toNatClampNeg x3)) 3 (upd (σ.2 3) (σ.1 6).toNatClampNeg (-1))) 4 (upd (σ.2 4) (σ.1 6).toNatClampNeg x5)) 6 ((σ.1 6) + 1)))) (fx_p2_5 _ _ _ (ar (ar (ar (ar (ar σ 0 (upd (σ.2 0) (σ.1 6).toNatClampNeg x1)) 1 (upd (σ.2 1) (σ.1 6).toNatClampNeg x2)) 2 (upd (σ.2 2) (σ.1 6).toNatClampNeg x3)) 3 (upd (σ.2 3) (σ.1 6).toNatClampNeg (-1))) 4 (upd (σ.2 4) (σ.1 6).toNatClampNeg x5)) _) dX3_append_110 ?_
            refine j_aload_n h 0 dX3_append_113 rfl rfl ?_
            refine j_get h iX3 2 (fx_c2 _ _ _ (sg (ar (ar (ar (ar (ar σ 0 (upd (σ.2 0) (σ.1 6).toNatClampNeg x1)) 1 (upd (σ.2 1) (σ.1 6).toNatClampNeg x2)) 2 (upd (σ.2 2) (σ.1 6).toNatClampNeg x3)) 3 (upd (σ.2 3) (σ.1 6).toNatClampNeg (-1))) 4 (upd (σ.2 4) (σ.1 6).toNatClampNeg x5)) 6 ((σ.1 6) + 1))) rfl 5 (by decide) tb1_78 rfl (v := .int ((σ.1 6) + 1)) rfl dX3_append_114 ?_
            refine j_iconst h (v := 1) dX3_append_117 (by decide) ?_
            refine j_isub h dX3_append_118 ?_
            subst hq3 hq11 hq15
            have E : fX3_append σ x1 x2 x3 x4 x5 = ((((σ.1 6) + 1) - 1), (sg (ar (ar (ar (ar (ar σ 0 (upd (σ.2 0) (σ.1 6).toNatClampNeg x1)) 1 (upd (σ.2 1) (σ.1 6).toNatClampNeg x2)) 2 (upd (σ.2 2) (σ.1 6).toNatClampNeg x3)) 3 (upd (σ.2 3) (σ.1 6).toNatClampNeg (-1))) 4 (upd (σ.2 4) (σ.1 6).toNatClampNeg x5)) 6 ((σ.1 6) + 1))) := j_ig c1 (j_ip c2 (j_ig c4 (j_ig c12 (j_ip c16 rfl))))
            exact j_ireturn h hr (congrArg Prod.fst E).symm (congrArg (fun z => fx a cI cZ z.2) E).symm dX3_append_119
          ·
            refine j_iload h 4 dX3_append_85 rfl ?_
            refine j_goto h dX3_append_87 (tgt := 91) (by decide) ?_
            refine j_iast h 6 0 (fx_g6 (σ := (ar (ar (ar σ 0 (upd (σ.2 0) (σ.1 6).toNatClampNeg x1)) 1 (upd (σ.2 1) (σ.1 6).toNatClampNeg x2)) 2 (upd (σ.2 2) (σ.1 6).toNatClampNeg x3))) (F := (σ.2 3)) rfl) rfl (j_in64 (j_lo1 c1) c2) (w' := (fx a cI cZ (ar (ar (ar (ar σ 0 (upd (σ.2 0) (σ.1 6).toNatClampNeg x1)) 1 (upd (σ.2 1) (σ.1 6).toNatClampNeg x2)) 2 (upd (σ.2 2) (σ.1 6).toNatClampNeg x3)) 3 (upd (σ.2 3) (σ.1 6).toNatClampNeg x4)))) (fx_s6 _ _ _ (ar (ar (ar σ 0 (upd (σ.2 0) (σ.1 6).toNatClampNeg x1)) 1 (upd (σ.2 1) (σ.1 6).toNatClampNeg x2)) 2 (upd (σ.2 2) (σ.1 6).toNatClampNeg x3)) _) dX3_append_91 ?_
            refine j_aload_n h 0 dX3_append_92 rfl rfl ?_
            refine j_get h iX3 2 (fx_c2 _ _ _ (ar (ar (ar (ar σ 0 (upd (σ.2 0) (σ.1 6).toNatClampNeg x1)) 1 (upd (σ.2 1) (σ.1 6).toNatClampNeg x2)) 2 (upd (σ.2 2) (σ.1 6).toNatClampNeg x3)) 3 (upd (σ.2 3) (σ.1 6).toNatClampNeg x4))) rfl 4 (by decide) tb1_77 rfl (v := .ref (a 7)) rfl dX3_append_93 ?_
            refine j_aload_n h 0 dX3_append_96 rfl rfl ?_
            refine j_get h iX3 2 (fx_c2 _ _ _ (ar (ar (ar (ar σ 0 (upd (σ.2 0) (σ.1 6).toNatClampNeg x1)) 1 (upd (σ.2 1) (σ.1 6).toNatClampNeg x2)) 2 (upd (σ.2 2) (σ.1 6).toNatClampNeg x3)) 3 (upd (σ.2 3) (σ.1 6).toNatClampNeg x4))) rfl 5 (by decide) tb1_78 rfl (v := .int (σ.1 6)) rfl dX3_append_97 ?_
            refine j_iload h 5 dX3_append_100 rfl ?_
            refine j_iast h 7 0 (fx_g7 (σ := (ar (ar (ar (ar σ 0 (upd (σ.2 0) (σ.1 6).toNatClampNeg x1)) 1 (upd (σ.2 1) (σ.1 6).toNatClampNeg x2)) 2 (upd (σ.2 2) (σ.1 6).toNatClampNeg x3)) 3 (upd (σ.2 3) (σ.1 6).toNatClampNeg x4))) (F := (σ.2 4)) rfl) rfl (j_in64 (j_lo1 c1) c2) (w' := (fx a cI cZ (ar (ar (ar (ar (ar σ 0 (upd (σ.2 0) (σ.1 6).toNatClampNeg x1)) 1 (upd (σ.2 1) (σ.1 6).toNatClampNeg x2)) 2 (upd (σ.2 2) (σ.1 6).toNatClampNeg x3)) 3 (upd (σ.2 3) (σ.1 6).toNatClampNeg x4)) 4 (upd (σ.2 4) (σ.1 6).toNatClampNeg x5)))) (fx_s7 _ _ _ (ar (ar (ar (ar σ 0 (upd (σ.2 0) (σ.1 6).toNatClampNeg x1)) 1 (upd (σ.2 1) (σ.1 6).toNatClampNeg x2)) 2 (upd (σ.2 2) (σ.1 6).toNatClampNeg x3)) 3 (upd (σ.2 3) (σ.1 6).toNatClampNeg x4)) _) dX3_append_102 ?_
            refine j_aload_n h 0 dX3_append_103 rfl rfl ?_
            refine j_dup h dX3_append_104 rfl ?_
            refine j_get h iX3 2 (fx_c2 _ _ _ (ar (ar (ar (ar (ar σ 0 (upd (σ.2 0) (σ.1 6).toNatClampNeg x1)) 1 (upd (σ.2 1) (σ.1 6).toNatClampNeg x2)) 2 (upd (σ.2 2) (σ.1 6).toNatClampNeg x3)) 3 (upd (σ.2 3) (σ.1 6).toNatClampNeg x4)) 4 (upd (σ.2 4) (σ.1 6).toNatClampNeg x5))) rfl 5 (by decide) tb1_78 rfl (v := .int (σ.1 6)) rfl dX3_append_105 ?_
            refine j_iconst h (v := 1) dX3_append_108 (by decide) ?_
            refine j_iadd h dX3_append_109 ?_
            refine j_put h iX3 tyX3 tyX3_ok nmX3 2 (fx_c2 _ _ _ (ar (ar (ar (ar (ar σ 0 (upd (σ.2 0) (σ.1 6).toNatClampNeg x1)) 1 (upd (σ.2 1) (σ.1 6).toNatClampNeg x2)) 2 (upd (σ.2 2) (σ.1 6).toNatClampNeg x3)) 3 (upd (σ.2 3) (σ.1 6).toNatClampNeg x4)) 4 (upd (σ.2 4) (σ.1 6).toNatClampNeg x5))) rfl 5 (by decide) tb1_78 rfl rfl rfl rfl (Nat.le_of_ble_eq_true rfl) (w' := (fx a cI cZ (sg (ar (ar (ar (ar (ar σ 0 (upd (σ.2 0) (σ.1 6).toNatClampNeg x1)) 1 (upd (σ.2 1) (σ.1 6).toNatClampNeg x2)) 2 (upd (σ.2 2) (σ.1 6).toNatClampNeg x3)) 3 (upd (σ.2 3) (σ.1 6).toNatClampNeg x4)) 4 (upd (σ.2 4) (σ.1 6).toNatClampNeg x5)) 6 ((σ.1 6) + 1)))) (fx_p2_5 _ _ _ (ar (ar (ar (ar (ar σ 0 (upd (σ.2 0) (σ.1 6).toNatClampNeg x1)) 1 (upd (σ.2 1) (σ.1 6).toNatClampNeg x2)) 2 (upd (σ.2 2) (σ.1 6).toNatClampNeg x3)) 3 (upd (σ.2 3) (σ.1 6).toNatClampNeg x4)) 4 (upd (σ.2 4) (σ.1 6).toNatClampNeg x5)) _) dX3_append_110 ?_
            refine j_aload_n h 0 dX3_append_113 rfl rfl ?_
            refine j_get h iX3 2 (fx_c2 _ _ _ (sg (ar (ar (ar (ar (ar σ 0 (upd (σ.2 0) (σ.1 6).toNatClampNeg x1)) 1 (upd (σ.2 1) (σ.1 6).toNatClampNeg x2)) 2 (upd (σ.2 2) (σ.1 6).toNatClampNeg x3)) 3 (upd (σ.2 3) (σ.1 6).toNatClampNeg x4)) 4 (upd (σ.2 4) (σ.1 6).toNatClampNeg x5)) 6 ((σ.1 6) + 1))) rfl 5 (by decide) tb1_78 rfl (v := .int ((σ.1 6) + 1)) rfl dX3_append_114 ?_
            refine j_iconst h (v := 1) dX3_append_117 (by decide) ?_
            refine j_isub h dX3_append_118 ?_
            subst hq3 hq11 hq15
            have E : fX3_append σ x1 x2 x3 x4 x5 = ((((σ.1 6) + 1) - 1), (sg (ar (ar (ar (ar (ar σ 0 (upd (σ.2 0) (σ.1 6).toNatClampNeg x1)) 1 (upd (σ.2 1) (σ.1 6).toNatClampNeg x2)) 2 (upd (σ.2 2) (σ.1 6).toNatClampNeg x3)) 3 (upd (σ.2 3) (σ.1 6).toNatClampNeg x4)) 4 (upd (σ.2 4) (σ.1 6).toNatClampNeg x5)) 6 ((σ.1 6) + 1))) := j_ig c1 (j_ip c2 (j_ig c4 (j_ig c12 (j_ig c16 rfl))))
            exact j_ireturn h hr (congrArg Prod.fst E).symm (congrArg (fun z => fx a cI cZ z.2) E).symm dX3_append_119
    ·
      refine j_iconst h (v := (-1)) dX3_append_16 (by decide) ?_
      have E : fX3_append σ x1 x2 x3 x4 x5 = ((-1), σ) := j_ig c1 (j_ig c2 rfl)
      exact j_ireturn h hr (congrArg Prod.fst E).symm (congrArg (fun z => fx a cI cZ z.2) E).symm dX3_append_17
theorem fr_fX3_append (σ : St) (x1 x2 x3 x4 x5 : Int32) : Fr (fX3_append σ x1 x2 x3 x4 x5).2 σ := by
  by_cases c0 : (σ.1 6) < 0
  ·
    have E : fX3_append σ x1 x2 x3 x4 x5 = ((-1), σ) := j_ip c0 rfl
    rw [E]
    exact (Fr.rf _)
  ·
    by_cases c1 : (σ.1 6) < 64
    ·
      by_cases c2 : (fX3_hasTarget x1) = 0
      ·
        by_cases c3 : (fX3_readsFirst x1) = 0
        ·
          by_cases c4 : (fX3_readsSecond x1) = 0
          ·
            have E : fX3_append σ x1 x2 x3 x4 x5 = ((((σ.1 6) + 1) - 1), (sg (ar (ar (ar (ar (ar σ 0 (upd (σ.2 0) (σ.1 6).toNatClampNeg x1)) 1 (upd (σ.2 1) (σ.1 6).toNatClampNeg (-1))) 2 (upd (σ.2 2) (σ.1 6).toNatClampNeg (-1))) 3 (upd (σ.2 3) (σ.1 6).toNatClampNeg (-1))) 4 (upd (σ.2 4) (σ.1 6).toNatClampNeg x5)) 6 ((σ.1 6) + 1))) := j_ig c0 (j_ip c1 (j_ip c2 (j_ip c3 (j_ip c4 rfl))))
            rw [E]
            exact (Fr.tr (Fr.sg (by decide)) (Fr.tr Fr.ar (Fr.tr Fr.ar (Fr.tr Fr.ar (Fr.tr Fr.ar (Fr.tr Fr.ar (Fr.rf _)))))))
          ·
            have E : fX3_append σ x1 x2 x3 x4 x5 = ((((σ.1 6) + 1) - 1), (sg (ar (ar (ar (ar (ar σ 0 (upd (σ.2 0) (σ.1 6).toNatClampNeg x1)) 1 (upd (σ.2 1) (σ.1 6).toNatClampNeg (-1))) 2 (upd (σ.2 2) (σ.1 6).toNatClampNeg (-1))) 3 (upd (σ.2 3) (σ.1 6).toNatClampNeg x4)) 4 (upd (σ.2 4) (σ.1 6).toNatClampNeg x5)) 6 ((σ.1 6) + 1))) := j_ig c0 (j_ip c1 (j_ip c2 (j_ip c3 (j_ig c4 rfl))))
            rw [E]
            exact (Fr.tr (Fr.sg (by decide)) (Fr.tr Fr.ar (Fr.tr Fr.ar (Fr.tr Fr.ar (Fr.tr Fr.ar (Fr.tr Fr.ar (Fr.rf _)))))))
        ·
          by_cases c4 : (fX3_readsSecond x1) = 0
          ·
            have E : fX3_append σ x1 x2 x3 x4 x5 = ((((σ.1 6) + 1) - 1), (sg (ar (ar (ar (ar (ar σ 0 (upd (σ.2 0) (σ.1 6).toNatClampNeg x1)) 1 (upd (σ.2 1) (σ.1 6).toNatClampNeg (-1))) 2 (upd (σ.2 2) (σ.1 6).toNatClampNeg x3)) 3 (upd (σ.2 3) (σ.1 6).toNatClampNeg (-1))) 4 (upd (σ.2 4) (σ.1 6).toNatClampNeg x5)) 6 ((σ.1 6) + 1))) := j_ig c0 (j_ip c1 (j_ip c2 (j_ig c3 (j_ip c4 rfl))))
            rw [E]
            exact (Fr.tr (Fr.sg (by decide)) (Fr.tr Fr.ar (Fr.tr Fr.ar (Fr.tr Fr.ar (Fr.tr Fr.ar (Fr.tr Fr.ar (Fr.rf _)))))))
          ·
            have E : fX3_append σ x1 x2 x3 x4 x5 = ((((σ.1 6) + 1) - 1), (sg (ar (ar (ar (ar (ar σ 0 (upd (σ.2 0) (σ.1 6).toNatClampNeg x1)) 1 (upd (σ.2 1) (σ.1 6).toNatClampNeg (-1))) 2 (upd (σ.2 2) (σ.1 6).toNatClampNeg x3)) 3 (upd (σ.2 3) (σ.1 6).toNatClampNeg x4)) 4 (upd (σ.2 4) (σ.1 6).toNatClampNeg x5)) 6 ((σ.1 6) + 1))) := j_ig c0 (j_ip c1 (j_ip c2 (j_ig c3 (j_ig c4 rfl))))
            rw [E]
            exact (Fr.tr (Fr.sg (by decide)) (Fr.tr Fr.ar (Fr.tr Fr.ar (Fr.tr Fr.ar (Fr.tr Fr.ar (Fr.tr Fr.ar (Fr.rf _)))))))
      ·
        by_cases c3 : (fX3_readsFirst x1) = 0
        ·
          by_cases c4 : (fX3_readsSecond x1) = 0
          ·
            have E : fX3_append σ x1 x2 x3 x4 x5 = ((((σ.1 6) + 1) - 1), (sg (ar (ar (ar (ar (ar σ 0 (upd (σ.2 0) (σ.1 6).toNatClampNeg x1)) 1 (upd (σ.2 1) (σ.1 6).toNatClampNeg x2)) 2 (upd (σ.2 2) (σ.1 6).toNatClampNeg (-1))) 3 (upd (σ.2 3) (σ.1 6).toNatClampNeg (-1))) 4 (upd (σ.2 4) (σ.1 6).toNatClampNeg x5)) 6 ((σ.1 6) + 1))) := j_ig c0 (j_ip c1 (j_ig c2 (j_ip c3 (j_ip c4 rfl))))
            rw [E]
            exact (Fr.tr (Fr.sg (by decide)) (Fr.tr Fr.ar (Fr.tr Fr.ar (Fr.tr Fr.ar (Fr.tr Fr.ar (Fr.tr Fr.ar (Fr.rf _)))))))
          ·
            have E : fX3_append σ x1 x2 x3 x4 x5 = ((((σ.1 6) + 1) - 1), (sg (ar (ar (ar (ar (ar σ 0 (upd (σ.2 0) (σ.1 6).toNatClampNeg x1)) 1 (upd (σ.2 1) (σ.1 6).toNatClampNeg x2)) 2 (upd (σ.2 2) (σ.1 6).toNatClampNeg (-1))) 3 (upd (σ.2 3) (σ.1 6).toNatClampNeg x4)) 4 (upd (σ.2 4) (σ.1 6).toNatClampNeg x5)) 6 ((σ.1 6) + 1))) := j_ig c0 (j_ip c1 (j_ig c2 (j_ip c3 (j_ig c4 rfl))))
            rw [E]
            exact (Fr.tr (Fr.sg (by decide)) (Fr.tr Fr.ar (Fr.tr Fr.ar (Fr.tr Fr.ar (Fr.tr Fr.ar (Fr.tr Fr.ar (Fr.rf _)))))))
        ·
          by_cases c4 : (fX3_readsSecond x1) = 0
          ·
            have E : fX3_append σ x1 x2 x3 x4 x5 = ((((σ.1 6) + 1) - 1), (sg (ar (ar (ar (ar (ar σ 0 (upd (σ.2 0) (σ.1 6).toNatClampNeg x1)) 1 (upd (σ.2 1) (σ.1 6).toNatClampNeg x2)) 2 (upd (σ.2 2) (σ.1 6).toNatClampNeg x3)) 3 (upd (σ.2 3) (σ.1 6).toNatClampNeg (-1))) 4 (upd (σ.2 4) (σ.1 6).toNatClampNeg x5)) 6 ((σ.1 6) + 1))) := j_ig c0 (j_ip c1 (j_ig c2 (j_ig c3 (j_ip c4 rfl))))
            rw [E]
            exact (Fr.tr (Fr.sg (by decide)) (Fr.tr Fr.ar (Fr.tr Fr.ar (Fr.tr Fr.ar (Fr.tr Fr.ar (Fr.tr Fr.ar (Fr.rf _)))))))
          ·
            have E : fX3_append σ x1 x2 x3 x4 x5 = ((((σ.1 6) + 1) - 1), (sg (ar (ar (ar (ar (ar σ 0 (upd (σ.2 0) (σ.1 6).toNatClampNeg x1)) 1 (upd (σ.2 1) (σ.1 6).toNatClampNeg x2)) 2 (upd (σ.2 2) (σ.1 6).toNatClampNeg x3)) 3 (upd (σ.2 3) (σ.1 6).toNatClampNeg x4)) 4 (upd (σ.2 4) (σ.1 6).toNatClampNeg x5)) 6 ((σ.1 6) + 1))) := j_ig c0 (j_ip c1 (j_ig c2 (j_ig c3 (j_ig c4 rfl))))
            rw [E]
            exact (Fr.tr (Fr.sg (by decide)) (Fr.tr Fr.ar (Fr.tr Fr.ar (Fr.tr Fr.ar (Fr.tr Fr.ar (Fr.tr Fr.ar (Fr.rf _)))))))
    ·
      have E : fX3_append σ x1 x2 x3 x4 x5 = ((-1), σ) := j_ig c0 (j_ig c1 rfl)
      rw [E]
      exact (Fr.rf _)
def fX3_forget (σ : St) : St := (sg σ 6 0)
def rmX3_forget : Room := { frames := 0, cells := 0, slots := 0, locals := 0 }
set_option maxRecDepth 100000 in
set_option maxHeartbeats 4000000 in
theorem kX3_forget (l : Launch) (D : va_G) (a : Nat → Nat) (cI cZ : ClassId) (σ : St) : Cv l yX3_forget cX3_forget 1 none TB rmX3_forget D vwCl [(cI, .int), (cZ, .boolean)] [.ref (a 2)] (fx a cI cZ σ) (fun _ => (fx a cI cZ (fX3_forget σ))) 0 0 := by
  refine Cv_of (cc := cX3_forget) (maxL := 1) (ret := none) (by decide +kernel) TBg (Nat.le_of_ble_eq_true rfl) ?_
  intro p e s m args below meth c A h hr hname
  refine j_aload_n h 0 dX3_forget_0 rfl rfl ?_
  refine j_iconst h (v := 0) dX3_forget_1 (by decide) ?_
  refine j_put h iX3 tyX3 tyX3_ok nmX3 2 (fx_c2 _ _ _ σ) rfl 5 (by decide) tb1_78 rfl rfl rfl rfl (Nat.le_of_ble_eq_true rfl) (w' := (fx a cI cZ (sg σ 6 0))) (fx_p2_5 _ _ _ σ _) dX3_forget_2 ?_
  have E : fX3_forget σ = (sg σ 6 0) := rfl
  exact j_vreturn h hr (fun _ => 0) (congrArg (fx a cI cZ) E).symm dX3_forget_5
theorem fr_fX3_forget (σ : St) : Fr (fX3_forget σ) σ := by
  have E : fX3_forget σ = (sg σ 6 0) := rfl
  rw [E]
  exact (Fr.tr (Fr.sg (by decide)) (Fr.rf _))
def fX3_size (σ : St) : Int32 := (σ.1 6)
def rmX3_size : Room := { frames := 0, cells := 0, slots := 0, locals := 0 }
set_option maxRecDepth 100000 in
set_option maxHeartbeats 4000000 in
theorem kX3_size (l : Launch) (D : va_G) (a : Nat → Nat) (cI cZ : ClassId) (σ : St) : Ci l yX3_size cX3_size 1 (some .int) TB rmX3_size D vwCl [(cI, .int), (cZ, .boolean)] [.ref (a 2)] (fx a cI cZ σ) (fx a cI cZ σ) (fX3_size σ) := by
  refine Ci_of (cc := cX3_size) (maxL := 1) (ret := (some .int)) (by decide +kernel) TBg (Nat.le_of_ble_eq_true rfl) ?_
  intro p e s m args below meth c A h hr
  refine j_aload_n h 0 dX3_size_0 rfl rfl ?_
  refine j_get h iX3 2 (fx_c2 _ _ _ σ) rfl 5 (by decide) tb1_78 rfl (v := .int (σ.1 6)) rfl dX3_size_1 ?_
  have E : fX3_size σ = (σ.1 6) := rfl
  exact j_ireturn h hr E.symm rfl dX3_size_4
def fX3_kindOf (σ : St) (x1 : Int32) : Int32 := (if x1 < 0 then (-1) else (if 64 ≤ x1 then (-1) else ((σ.2 0) x1.toNatClampNeg)))
def rmX3_kindOf : Room := { frames := 0, cells := 0, slots := 0, locals := 0 }
set_option maxRecDepth 100000 in
set_option maxHeartbeats 4000000 in
theorem kX3_kindOf (l : Launch) (D : va_G) (a : Nat → Nat) (cI cZ : ClassId) (σ : St) (x1 : Int32) : Ci l yX3_kindOf cX3_kindOf 2 (some .int) TB rmX3_kindOf D vwCl [(cI, .int), (cZ, .boolean)] [.ref (a 2), .int x1] (fx a cI cZ σ) (fx a cI cZ σ) (fX3_kindOf σ x1) := by
  refine Ci_of (cc := cX3_kindOf) (maxL := 2) (ret := (some .int)) (by decide +kernel) TBg (Nat.le_of_ble_eq_true rfl) ?_
  intro p e s m args below meth c A h hr
  refine j_iload_n h 1 dX3_kindOf_0 rfl rfl ?_
  refine j_if_lt h dX3_kindOf_1 (tgt := 19) (by decide) (fun c1 => ?_) (fun c1 => ?_)
  ·
    refine j_iconst h (v := (-1)) dX3_kindOf_19 (by decide) ?_
    have E : fX3_kindOf σ x1 = (-1) := j_ip c1 rfl
    exact j_ireturn h hr E.symm rfl dX3_kindOf_20
  ·
    refine j_iload_n h 1 dX3_kindOf_4 rfl rfl ?_
    refine j_bipush h (v := 64) dX3_kindOf_5 (by decide) ?_
    refine j_icmp_ge h dX3_kindOf_7 (tgt := 19) (by decide) (fun c2 => ?_) (fun c2 => ?_)
    ·
      refine j_iconst h (v := (-1)) dX3_kindOf_19 (by decide) ?_
      have E : fX3_kindOf σ x1 = (-1) := j_ig c1 (j_ip c2 rfl)
      exact j_ireturn h hr E.symm rfl dX3_kindOf_20
    ·
      refine j_aload_n h 0 dX3_kindOf_10 rfl rfl ?_
      refine j_get h iX3 2 (fx_c2 _ _ _ σ) rfl 0 (by decide) tb1_73 rfl (v := .ref (a 3)) rfl dX3_kindOf_11 ?_
      refine j_iload_n h 1 dX3_kindOf_14 rfl rfl ?_
      refine j_iald h 3 0 (fx_g3 (σ := σ) (F := (σ.2 0)) rfl) rfl (j_in64 (j_lo1 c1) (j_hi1 c2)) dX3_kindOf_15 ?_
      refine j_goto h dX3_kindOf_16 (tgt := 20) (by decide) ?_
      have E : fX3_kindOf σ x1 = ((σ.2 0) x1.toNatClampNeg) := j_ig c1 (j_ig c2 rfl)
      exact j_ireturn h hr E.symm rfl dX3_kindOf_20
def fX3_written (σ : St) (x1 : Int32) : Int32 := (if x1 < 0 then (-1) else (if 64 ≤ x1 then (-1) else ((σ.2 1) x1.toNatClampNeg)))
def rmX3_written : Room := { frames := 0, cells := 0, slots := 0, locals := 0 }
set_option maxRecDepth 100000 in
set_option maxHeartbeats 4000000 in
theorem kX3_written (l : Launch) (D : va_G) (a : Nat → Nat) (cI cZ : ClassId) (σ : St) (x1 : Int32) : Ci l yX3_written cX3_written 2 (some .int) TB rmX3_written D vwCl [(cI, .int), (cZ, .boolean)] [.ref (a 2), .int x1] (fx a cI cZ σ) (fx a cI cZ σ) (fX3_written σ x1) := by
  refine Ci_of (cc := cX3_written) (maxL := 2) (ret := (some .int)) (by decide +kernel) TBg (Nat.le_of_ble_eq_true rfl) ?_
  intro p e s m args below meth c A h hr
  refine j_iload_n h 1 dX3_written_0 rfl rfl ?_
  refine j_if_lt h dX3_written_1 (tgt := 19) (by decide) (fun c1 => ?_) (fun c1 => ?_)
  ·
    refine j_iconst h (v := (-1)) dX3_written_19 (by decide) ?_
    have E : fX3_written σ x1 = (-1) := j_ip c1 rfl
    exact j_ireturn h hr E.symm rfl dX3_written_20
  ·
    refine j_iload_n h 1 dX3_written_4 rfl rfl ?_
    refine j_bipush h (v := 64) dX3_written_5 (by decide) ?_
    refine j_icmp_ge h dX3_written_7 (tgt := 19) (by decide) (fun c2 => ?_) (fun c2 => ?_)
    ·
      refine j_iconst h (v := (-1)) dX3_written_19 (by decide) ?_
      have E : fX3_written σ x1 = (-1) := j_ig c1 (j_ip c2 rfl)
      exact j_ireturn h hr E.symm rfl dX3_written_20
    ·
      refine j_aload_n h 0 dX3_written_10 rfl rfl ?_
      refine j_get h iX3 2 (fx_c2 _ _ _ σ) rfl 1 (by decide) tb1_74 rfl (v := .ref (a 4)) rfl dX3_written_11 ?_
      refine j_iload_n h 1 dX3_written_14 rfl rfl ?_
      refine j_iald h 4 0 (fx_g4 (σ := σ) (F := (σ.2 1)) rfl) rfl (j_in64 (j_lo1 c1) (j_hi1 c2)) dX3_written_15 ?_
      refine j_goto h dX3_written_16 (tgt := 20) (by decide) ?_
      have E : fX3_written σ x1 = ((σ.2 1) x1.toNatClampNeg) := j_ig c1 (j_ig c2 rfl)
      exact j_ireturn h hr E.symm rfl dX3_written_20
def fX3_firstRead (σ : St) (x1 : Int32) : Int32 := (if x1 < 0 then (-1) else (if 64 ≤ x1 then (-1) else ((σ.2 2) x1.toNatClampNeg)))
def rmX3_firstRead : Room := { frames := 0, cells := 0, slots := 0, locals := 0 }
set_option maxRecDepth 100000 in
set_option maxHeartbeats 4000000 in
theorem kX3_firstRead (l : Launch) (D : va_G) (a : Nat → Nat) (cI cZ : ClassId) (σ : St) (x1 : Int32) : Ci l yX3_firstRead cX3_firstRead 2 (some .int) TB rmX3_firstRead D vwCl [(cI, .int), (cZ, .boolean)] [.ref (a 2), .int x1] (fx a cI cZ σ) (fx a cI cZ σ) (fX3_firstRead σ x1) := by
  refine Ci_of (cc := cX3_firstRead) (maxL := 2) (ret := (some .int)) (by decide +kernel) TBg (Nat.le_of_ble_eq_true rfl) ?_
  intro p e s m args below meth c A h hr
  refine j_iload_n h 1 dX3_firstRead_0 rfl rfl ?_
  refine j_if_lt h dX3_firstRead_1 (tgt := 19) (by decide) (fun c1 => ?_) (fun c1 => ?_)
  ·
    refine j_iconst h (v := (-1)) dX3_firstRead_19 (by decide) ?_
    have E : fX3_firstRead σ x1 = (-1) := j_ip c1 rfl
    exact j_ireturn h hr E.symm rfl dX3_firstRead_20
  ·
    refine j_iload_n h 1 dX3_firstRead_4 rfl rfl ?_
    refine j_bipush h (v := 64) dX3_firstRead_5 (by decide) ?_
    refine j_icmp_ge h dX3_firstRead_7 (tgt := 19) (by decide) (fun c2 => ?_) (fun c2 => ?_)
    ·
      refine j_iconst h (v := (-1)) dX3_firstRead_19 (by decide) ?_
      have E : fX3_firstRead σ x1 = (-1) := j_ig c1 (j_ip c2 rfl)
      exact j_ireturn h hr E.symm rfl dX3_firstRead_20
    ·
      refine j_aload_n h 0 dX3_firstRead_10 rfl rfl ?_
      refine j_get h iX3 2 (fx_c2 _ _ _ σ) rfl 2 (by decide) tb1_75 rfl (v := .ref (a 5)) rfl dX3_firstRead_11 ?_
      refine j_iload_n h 1 dX3_firstRead_14 rfl rfl ?_
      refine j_iald h 5 0 (fx_g5 (σ := σ) (F := (σ.2 2)) rfl) rfl (j_in64 (j_lo1 c1) (j_hi1 c2)) dX3_firstRead_15 ?_
      refine j_goto h dX3_firstRead_16 (tgt := 20) (by decide) ?_
      have E : fX3_firstRead σ x1 = ((σ.2 2) x1.toNatClampNeg) := j_ig c1 (j_ig c2 rfl)
      exact j_ireturn h hr E.symm rfl dX3_firstRead_20
def fX3_secondRead (σ : St) (x1 : Int32) : Int32 := (if x1 < 0 then (-1) else (if 64 ≤ x1 then (-1) else ((σ.2 3) x1.toNatClampNeg)))
def rmX3_secondRead : Room := { frames := 0, cells := 0, slots := 0, locals := 0 }
set_option maxRecDepth 100000 in
set_option maxHeartbeats 4000000 in
theorem kX3_secondRead (l : Launch) (D : va_G) (a : Nat → Nat) (cI cZ : ClassId) (σ : St) (x1 : Int32) : Ci l yX3_secondRead cX3_secondRead 2 (some .int) TB rmX3_secondRead D vwCl [(cI, .int), (cZ, .boolean)] [.ref (a 2), .int x1] (fx a cI cZ σ) (fx a cI cZ σ) (fX3_secondRead σ x1) := by
  refine Ci_of (cc := cX3_secondRead) (maxL := 2) (ret := (some .int)) (by decide +kernel) TBg (Nat.le_of_ble_eq_true rfl) ?_
  intro p e s m args below meth c A h hr
  refine j_iload_n h 1 dX3_secondRead_0 rfl rfl ?_
  refine j_if_lt h dX3_secondRead_1 (tgt := 19) (by decide) (fun c1 => ?_) (fun c1 => ?_)
  ·
    refine j_iconst h (v := (-1)) dX3_secondRead_19 (by decide) ?_
    have E : fX3_secondRead σ x1 = (-1) := j_ip c1 rfl
    exact j_ireturn h hr E.symm rfl dX3_secondRead_20
  ·
    refine j_iload_n h 1 dX3_secondRead_4 rfl rfl ?_
    refine j_bipush h (v := 64) dX3_secondRead_5 (by decide) ?_
    refine j_icmp_ge h dX3_secondRead_7 (tgt := 19) (by decide) (fun c2 => ?_) (fun c2 => ?_)
    ·
      refine j_iconst h (v := (-1)) dX3_secondRead_19 (by decide) ?_
      have E : fX3_secondRead σ x1 = (-1) := j_ig c1 (j_ip c2 rfl)
      exact j_ireturn h hr E.symm rfl dX3_secondRead_20
    ·
      refine j_aload_n h 0 dX3_secondRead_10 rfl rfl ?_
      refine j_get h iX3 2 (fx_c2 _ _ _ σ) rfl 3 (by decide) tb1_76 rfl (v := .ref (a 6)) rfl dX3_secondRead_11 ?_
      refine j_iload_n h 1 dX3_secondRead_14 rfl rfl ?_
      refine j_iald h 6 0 (fx_g6 (σ := σ) (F := (σ.2 3)) rfl) rfl (j_in64 (j_lo1 c1) (j_hi1 c2)) dX3_secondRead_15 ?_
      refine j_goto h dX3_secondRead_16 (tgt := 20) (by decide) ?_
      have E : fX3_secondRead σ x1 = ((σ.2 3) x1.toNatClampNeg) := j_ig c1 (j_ig c2 rfl)
      exact j_ireturn h hr E.symm rfl dX3_secondRead_20
def fX3_number (σ : St) (x1 : Int32) : Int32 := (if x1 < 0 then 0 else (if 64 ≤ x1 then 0 else ((σ.2 4) x1.toNatClampNeg)))
def rmX3_number : Room := { frames := 0, cells := 0, slots := 0, locals := 0 }
set_option maxRecDepth 100000 in
set_option maxHeartbeats 4000000 in
theorem kX3_number (l : Launch) (D : va_G) (a : Nat → Nat) (cI cZ : ClassId) (σ : St) (x1 : Int32) : Ci l yX3_number cX3_number 2 (some .int) TB rmX3_number D vwCl [(cI, .int), (cZ, .boolean)] [.ref (a 2), .int x1] (fx a cI cZ σ) (fx a cI cZ σ) (fX3_number σ x1) := by
  refine Ci_of (cc := cX3_number) (maxL := 2) (ret := (some .int)) (by decide +kernel) TBg (Nat.le_of_ble_eq_true rfl) ?_
  intro p e s m args below meth c A h hr
  refine j_iload_n h 1 dX3_number_0 rfl rfl ?_
  refine j_if_lt h dX3_number_1 (tgt := 19) (by decide) (fun c1 => ?_) (fun c1 => ?_)
  ·
    refine j_iconst h (v := 0) dX3_number_19 (by decide) ?_
    have E : fX3_number σ x1 = 0 := j_ip c1 rfl
    exact j_ireturn h hr E.symm rfl dX3_number_20
  ·
    refine j_iload_n h 1 dX3_number_4 rfl rfl ?_
    refine j_bipush h (v := 64) dX3_number_5 (by decide) ?_
    refine j_icmp_ge h dX3_number_7 (tgt := 19) (by decide) (fun c2 => ?_) (fun c2 => ?_)
    ·
      refine j_iconst h (v := 0) dX3_number_19 (by decide) ?_
      have E : fX3_number σ x1 = 0 := j_ig c1 (j_ip c2 rfl)
      exact j_ireturn h hr E.symm rfl dX3_number_20
    ·
      refine j_aload_n h 0 dX3_number_10 rfl rfl ?_
      refine j_get h iX3 2 (fx_c2 _ _ _ σ) rfl 4 (by decide) tb1_77 rfl (v := .ref (a 7)) rfl dX3_number_11 ?_
      refine j_iload_n h 1 dX3_number_14 rfl rfl ?_
      refine j_iald h 7 0 (fx_g7 (σ := σ) (F := (σ.2 4)) rfl) rfl (j_in64 (j_lo1 c1) (j_hi1 c2)) dX3_number_15 ?_
      refine j_goto h dX3_number_16 (tgt := 20) (by decide) ?_
      have E : fX3_number σ x1 = ((σ.2 4) x1.toNatClampNeg) := j_ig c1 (j_ig c2 rfl)
      exact j_ireturn h hr E.symm rfl dX3_number_20
def fX3_behind (σ : St) (x1 : Int32) : Int32 := (if (σ.1 6) ≤ (x1 + 1) then 0 else (x1 + 1))
def rmX3_behind : Room := { frames := 0, cells := 0, slots := 0, locals := 0 }
set_option maxRecDepth 100000 in
set_option maxHeartbeats 4000000 in
theorem kX3_behind (l : Launch) (D : va_G) (a : Nat → Nat) (cI cZ : ClassId) (σ : St) (x1 : Int32) : Ci l yX3_behind cX3_behind 2 (some .int) TB rmX3_behind D vwCl [(cI, .int), (cZ, .boolean)] [.ref (a 2), .int x1] (fx a cI cZ σ) (fx a cI cZ σ) (fX3_behind σ x1) := by
  refine Ci_of (cc := cX3_behind) (maxL := 2) (ret := (some .int)) (by decide +kernel) TBg (Nat.le_of_ble_eq_true rfl) ?_
  intro p e s m args below meth c A h hr
  refine j_iload_n h 1 dX3_behind_0 rfl rfl ?_
  refine j_iconst h (v := 1) dX3_behind_1 (by decide) ?_
  refine j_iadd h dX3_behind_2 ?_
  refine j_aload_n h 0 dX3_behind_3 rfl rfl ?_
  refine j_get h iX3 2 (fx_c2 _ _ _ σ) rfl 5 (by decide) tb1_78 rfl (v := .int (σ.1 6)) rfl dX3_behind_4 ?_
  refine j_icmp_ge h dX3_behind_7 (tgt := 16) (by decide) (fun c1 => ?_) (fun c1 => ?_)
  ·
    refine j_iconst h (v := 0) dX3_behind_16 (by decide) ?_
    have E : fX3_behind σ x1 = 0 := j_ip c1 rfl
    exact j_ireturn h hr E.symm rfl dX3_behind_17
  ·
    refine j_iload_n h 1 dX3_behind_10 rfl rfl ?_
    refine j_iconst h (v := 1) dX3_behind_11 (by decide) ?_
    refine j_iadd h dX3_behind_12 ?_
    refine j_goto h dX3_behind_13 (tgt := 17) (by decide) ?_
    have E : fX3_behind σ x1 = (x1 + 1) := j_ig c1 rfl
    exact j_ireturn h hr E.symm rfl dX3_behind_17
def fX3_wordAt (σ : St) (x1 : Int32) : Int32 := (if (σ.1 6) ≤ 0 then 0 else (fm x1 (σ.1 6)))
def rmX3_wordAt : Room := { frames := 1, cells := 0, slots := 0, locals := 22 }
set_option maxRecDepth 100000 in
set_option maxHeartbeats 4000000 in
theorem kX3_wordAt (l : Launch) (D : va_G) (a : Nat → Nat) (cI cZ : ClassId) (σ : St) (x1 : Int32) : Ci l yX3_wordAt cX3_wordAt 2 (some .int) TB rmX3_wordAt D vwCl [(cI, .int), (cZ, .boolean)] [.ref (a 2), .int x1] (fx a cI cZ σ) (fx a cI cZ σ) (fX3_wordAt σ x1) := by
  refine Ci_of (cc := cX3_wordAt) (maxL := 2) (ret := (some .int)) (by decide +kernel) TBg (Nat.le_of_ble_eq_true rfl) ?_
  intro p e s m args below meth c A h hr
  refine j_aload_n h 0 dX3_wordAt_0 rfl rfl ?_
  refine j_get h iX3 2 (fx_c2 _ _ _ σ) rfl 5 (by decide) tb1_78 rfl (v := .int (σ.1 6)) rfl dX3_wordAt_1 ?_
  refine j_if_le h dX3_wordAt_4 (tgt := 18) (by decide) (fun c1 => ?_) (fun c1 => ?_)
  ·
    refine j_iconst h (v := 0) dX3_wordAt_18 (by decide) ?_
    have E : fX3_wordAt σ x1 = 0 := j_ip c1 rfl
    exact j_ireturn h hr E.symm rfl dX3_wordAt_19
  ·
    refine j_iload_n h 1 dX3_wordAt_7 rfl rfl ?_
    refine j_aload_n h 0 dX3_wordAt_8 rfl rfl ?_
    refine j_get h iX3 2 (fx_c2 _ _ _ σ) rfl 5 (by decide) tb1_78 rfl (v := .int (σ.1 6)) rfl dX3_wordAt_9 ?_
    refine j_callSi0 h (kJ9_floorMod l D cI cZ x1 (σ.1 6) (j_ne0 c1)) tb3_12 tb1_37 tb1_3 tb1_38 ⟨rfl, rfl⟩ (n := 2) (by decide +kernel) ⟨Nat.le_of_ble_eq_true rfl, Nat.le_of_ble_eq_true rfl⟩ (As := [.int x1, .int (σ.1 6)]) rfl (st := []) rfl (Nat.le_of_ble_eq_true rfl) dX3_wordAt_12 ⟨Nat.zero_le _, Nat.zero_le _⟩ ?_
    refine j_goto h dX3_wordAt_15 (tgt := 19) (by decide) ?_
    have E : fX3_wordAt σ x1 = (fm x1 (σ.1 6)) := j_ig c1 rfl
    exact j_ireturn h hr E.symm rfl dX3_wordAt_19
