def fX2_beginAnewA (σ : St) : St := (ar (ar σ 12 (fillF 8 0 (σ.2 12))) 13 (fillF 64 0 (σ.2 13)))
def rmX2_beginAnewA : Room := { frames := 1, cells := 0, slots := 0, locals := 23 }
set_option maxRecDepth 100000 in
set_option maxHeartbeats 4000000 in
theorem kX2_beginAnewA (l : Launch) (D : va_G) (a : Nat → Nat) (cI cZ : ClassId) (σ : St) : Cv l yX2_beginAnew cX2_beginAnew 1 none TB rmX2_beginAnewA D vwCl [(cI, .int), (cZ, .boolean)] [.ref (a 19)] (fx a cI cZ σ) (fun _ => (fx a cI cZ (fX2_beginAnewA σ))) 0 0 := by
  refine Cv_of (cc := cX2_beginAnew) (maxL := 1) (ret := none) (by decide +kernel) TBg (Nat.le_of_ble_eq_true rfl) ?_
  intro p e s m args below meth c A h hr hname
  refine j_aload_n h 0 dX2_beginAnew_0 rfl rfl ?_
  refine j_get h iX2 19 (fx_c19 _ _ _ σ) rfl 1 (by decide) tb1_193 rfl (v := .ref (a 20)) rfl dX2_beginAnew_1 ?_
  refine j_iconst h (v := 0) dX2_beginAnew_4 (by decide) ?_
  refine j_callSvG h (kJ7_fill l D cI cZ (a 20) 8 (σ.2 12) 0 (by decide)) tb2_58 tb1_106 tb1_7 tb1_107 ⟨rfl, rfl⟩ (n := 2) (by decide +kernel) ⟨Nat.le_of_ble_eq_true rfl, Nat.le_of_ble_eq_true rfl⟩ (As := [.ref (a 20), .int 0]) rfl (st := []) rfl (Nat.le_of_ble_eq_true rfl) dX2_beginAnew_5 ⟨Nat.zero_le _, Nat.zero_le _⟩ [20] [0, 1, 2, 3, 4, 5, 6, 7, 8, 9, 10, 11, 12, 13, 14, 15, 16, 17, 18, 19, 21, 22, 23, 24] [0, 1, 2, 3, 4, 5, 6, 7, 8, 9, 10, 11, 12, 13, 14, 15, 16, 17, 18, 19, 24, 20, 21, 22, 23] rfl rfl (wr := ((fx a cI cZ σ).eraseIdx 20)) rfl rfl (by decide) (w2 := (fx a cI cZ (ar σ 12 (fillF 8 0 (σ.2 12))))) rfl rfl ?_
  refine j_aload_n h 0 dX2_beginAnew_8 rfl rfl ?_
  refine j_get h iX2 19 (fx_c19 _ _ _ (ar σ 12 (fillF 8 0 (σ.2 12)))) rfl 2 (by decide) tb1_194 rfl (v := .ref (a 21)) rfl dX2_beginAnew_9 ?_
  refine j_iconst h (v := 0) dX2_beginAnew_12 (by decide) ?_
  refine j_callSvG h (kJ7_fill l D cI cZ (a 21) 64 (σ.2 13) 0 (by decide)) tb2_58 tb1_106 tb1_7 tb1_107 ⟨rfl, rfl⟩ (n := 2) (by decide +kernel) ⟨Nat.le_of_ble_eq_true rfl, Nat.le_of_ble_eq_true rfl⟩ (As := [.ref (a 21), .int 0]) rfl (st := []) rfl (Nat.le_of_ble_eq_true rfl) dX2_beginAnew_13 ⟨Nat.zero_le _, Nat.zero_le _⟩ [21] [0, 1, 2, 3, 4, 5, 6, 7, 8, 9, 10, 11, 12, 13, 14, 15, 16, 17, 18, 19, 20, 22, 23, 24] [0, 1, 2, 3, 4, 5, 6, 7, 8, 9, 10, 11, 12, 13, 14, 15, 16, 17, 18, 19, 20, 24, 21, 22, 23] rfl rfl (wr := ((fx a cI cZ (ar σ 12 (fillF 8 0 (σ.2 12)))).eraseIdx 21)) rfl rfl (by decide) (w2 := (fx a cI cZ (ar (ar σ 12 (fillF 8 0 (σ.2 12))) 13 (fillF 64 0 (σ.2 13))))) rfl rfl ?_
  have E : fX2_beginAnewA σ = (ar (ar σ 12 (fillF 8 0 (σ.2 12))) 13 (fillF 64 0 (σ.2 13))) := rfl
  exact j_vreturn h hr (fun _ => 0) (congrArg (fx a cI cZ) E).symm dX2_beginAnew_16
theorem fr_fX2_beginAnewA (σ : St) : Fr (fX2_beginAnewA σ) σ := by
  have E : fX2_beginAnewA σ = (ar (ar σ 12 (fillF 8 0 (σ.2 12))) 13 (fillF 64 0 (σ.2 13))) := rfl
  rw [E]
  exact (Fr.tr Fr.ar (Fr.tr Fr.ar (Fr.rf _)))
def fX2_valueOfA (σ : St) (x1 : Int32) : Int32 := (if x1 < 0 then 0 else (if 8 ≤ x1 then 0 else ((σ.2 12) x1.toNatClampNeg)))
def rmX2_valueOfA : Room := { frames := 0, cells := 0, slots := 0, locals := 0 }
set_option maxRecDepth 100000 in
set_option maxHeartbeats 4000000 in
theorem kX2_valueOfA (l : Launch) (D : va_G) (a : Nat → Nat) (cI cZ : ClassId) (σ : St) (x1 : Int32) : Ci l yX2_valueOf cX2_valueOf 2 (some .int) TB rmX2_valueOfA D vwCl [(cI, .int), (cZ, .boolean)] [.ref (a 19), .int x1] (fx a cI cZ σ) (fx a cI cZ σ) (fX2_valueOfA σ x1) := by
  refine Ci_of (cc := cX2_valueOf) (maxL := 2) (ret := (some .int)) (by decide +kernel) TBg (Nat.le_of_ble_eq_true rfl) ?_
  intro p e s m args below meth c A h hr
  refine j_iload_n h 1 dX2_valueOf_0 rfl rfl ?_
  refine j_if_lt h dX2_valueOf_1 (tgt := 19) (by decide) (fun c1 => ?_) (fun c1 => ?_)
  ·
    refine j_iconst h (v := 0) dX2_valueOf_19 (by decide) ?_
    have E : fX2_valueOfA σ x1 = 0 := j_ip c1 rfl
    exact j_ireturn h hr E.symm rfl dX2_valueOf_20
  ·
    refine j_iload_n h 1 dX2_valueOf_4 rfl rfl ?_
    refine j_bipush h (v := 8) dX2_valueOf_5 (by decide) ?_
    refine j_icmp_ge h dX2_valueOf_7 (tgt := 19) (by decide) (fun c2 => ?_) (fun c2 => ?_)
    ·
      refine j_iconst h (v := 0) dX2_valueOf_19 (by decide) ?_
      have E : fX2_valueOfA σ x1 = 0 := j_ig c1 (j_ip c2 rfl)
      exact j_ireturn h hr E.symm rfl dX2_valueOf_20
    ·
      refine j_aload_n h 0 dX2_valueOf_10 rfl rfl ?_
      refine j_get h iX2 19 (fx_c19 _ _ _ σ) rfl 1 (by decide) tb1_193 rfl (v := .ref (a 20)) rfl dX2_valueOf_11 ?_
      refine j_iload_n h 1 dX2_valueOf_14 rfl rfl ?_
      refine j_iald h 20 0 (fx_g20 (σ := σ) (F := (σ.2 12)) rfl) rfl (j_in8 (j_lo1 c1) (j_hi1 c2)) dX2_valueOf_15 ?_
      refine j_goto h dX2_valueOf_16 (tgt := 20) (by decide) ?_
      have E : fX2_valueOfA σ x1 = ((σ.2 12) x1.toNatClampNeg) := j_ig c1 (j_ig c2 rfl)
      exact j_ireturn h hr E.symm rfl dX2_valueOf_20
def fX2_valueAtA (σ : St) (x1 : Int32) : Int32 := ((σ.2 13) (fm x1 64).toNatClampNeg)
def rmX2_valueAtA : Room := { frames := 1, cells := 0, slots := 0, locals := 22 }
set_option maxRecDepth 100000 in
set_option maxHeartbeats 4000000 in
theorem kX2_valueAtA (l : Launch) (D : va_G) (a : Nat → Nat) (cI cZ : ClassId) (σ : St) (x1 : Int32) : Ci l yX2_valueAt cX2_valueAt 2 (some .int) TB rmX2_valueAtA D vwCl [(cI, .int), (cZ, .boolean)] [.ref (a 19), .int x1] (fx a cI cZ σ) (fx a cI cZ σ) (fX2_valueAtA σ x1) := by
  refine Ci_of (cc := cX2_valueAt) (maxL := 2) (ret := (some .int)) (by decide +kernel) TBg (Nat.le_of_ble_eq_true rfl) ?_
  intro p e s m args below meth c A h hr
  refine j_aload_n h 0 dX2_valueAt_0 rfl rfl ?_
  refine j_get h iX2 19 (fx_c19 _ _ _ σ) rfl 2 (by decide) tb1_194 rfl (v := .ref (a 21)) rfl dX2_valueAt_1 ?_
  refine j_iload_n h 1 dX2_valueAt_4 rfl rfl ?_
  refine j_bipush h (v := 64) dX2_valueAt_5 (by decide) ?_
  refine j_callSi0 h (kJ9_floorMod l D cI cZ x1 64 (by decide)) tb3_50 tb1_37 tb1_3 tb1_38 ⟨rfl, rfl⟩ (n := 2) (by decide +kernel) ⟨Nat.le_of_ble_eq_true rfl, Nat.le_of_ble_eq_true rfl⟩ (As := [.int x1, .int 64]) rfl (st := [.ref (a 21)]) rfl (Nat.le_of_ble_eq_true rfl) dX2_valueAt_7 ⟨Nat.zero_le _, Nat.zero_le _⟩ ?_
  refine j_iald h 21 0 (fx_g21 (σ := σ) (F := (σ.2 13)) rfl) rfl (fm_in64 _) dX2_valueAt_10 ?_
  have E : fX2_valueAtA σ x1 = ((σ.2 13) (fm x1 64).toNatClampNeg) := rfl
  exact j_ireturn h hr E.symm rfl dX2_valueAt_11
def fX2_goesA (σ : St) (x1 : Int32) : Int32 := (let q1 := (fX3_kindOf σ x1); (if q1 = 4 then (let q3 := (fX3_firstRead σ x1); (let q4 := (fX2_valueOfA σ q3); (if q4 = 0 then 0 else 1))) else 0))
def rmX2_goesA : Room := { frames := 1, cells := 0, slots := 0, locals := 21 }
set_option maxRecDepth 100000 in
set_option maxHeartbeats 4000000 in
theorem kX2_goesA (l : Launch) (D : va_G) (a : Nat → Nat) (cI cZ : ClassId) (σ : St) (x1 : Int32) : Ci l yX2_goes cX2_goes 2 (some .boolean) TB rmX2_goesA D vwCl [(cI, .int), (cZ, .boolean)] [.ref (a 19), .int x1] (fx a cI cZ σ) (fx a cI cZ σ) (fX2_goesA σ x1) := by
  refine Ci_of (cc := cX2_goes) (maxL := 2) (ret := (some .boolean)) (by decide +kernel) TBg (Nat.le_of_ble_eq_true rfl) ?_
  intro p e s m args below meth c A h hr
  refine j_aload_n h 0 dX2_goes_0 rfl rfl ?_
  refine j_get h iX2 19 (fx_c19 _ _ _ σ) rfl 0 (by decide) tb1_192 rfl (v := .ref (a 2)) rfl dX2_goes_1 ?_
  refine j_iload_n h 1 dX2_goes_4 rfl rfl ?_
  refine j_callVi h (kX3_kindOf l D a cI cZ σ x1) tb3_41 tb3_0 tb3_1 tb1_4 tb3_2 ⟨rfl, rfl⟩ (n := 1) (by decide +kernel) ⟨Nat.le_of_ble_eq_true rfl, Nat.le_of_ble_eq_true rfl⟩ (As := [.int x1]) rfl (ci := 3) (q0 := 2) rfl (fx_c2 _ _ _ σ) (st := []) rfl (Nat.le_of_ble_eq_true rfl) dX2_goes_5 ⟨Nat.zero_le _, Nat.zero_le _⟩ ?_
  generalize hq1 : (fX3_kindOf σ x1) = q1
  refine j_iconst h (v := 4) dX2_goes_8 (by decide) ?_
  refine j_icmp_ne h dX2_goes_9 (tgt := 31) (by decide) (fun c2 => ?_) (fun c2 => ?_)
  ·
    refine j_iconst h (v := 0) dX2_goes_31 (by decide) ?_
    subst hq1
    have E : fX2_goesA σ x1 = 0 := j_ig c2 rfl
    exact j_zreturn h hr (by decide) E.symm rfl dX2_goes_32
  ·
    refine j_aload_n h 0 dX2_goes_12 rfl rfl ?_
    refine j_aload_n h 0 dX2_goes_13 rfl rfl ?_
    refine j_get h iX2 19 (fx_c19 _ _ _ σ) rfl 0 (by decide) tb1_192 rfl (v := .ref (a 2)) rfl dX2_goes_14 ?_
    refine j_iload_n h 1 dX2_goes_17 rfl rfl ?_
    refine j_callVi h (kX3_firstRead l D a cI cZ σ x1) tb3_21 tb3_22 tb3_23 tb1_4 tb3_24 ⟨rfl, rfl⟩ (n := 1) (by decide +kernel) ⟨Nat.le_of_ble_eq_true rfl, Nat.le_of_ble_eq_true rfl⟩ (As := [.int x1]) rfl (ci := 3) (q0 := 2) rfl (fx_c2 _ _ _ σ) (st := [.ref (a 19)]) rfl (Nat.le_of_ble_eq_true rfl) dX2_goes_18 ⟨Nat.zero_le _, Nat.zero_le _⟩ ?_
    generalize hq3 : (fX3_firstRead σ x1) = q3
    refine j_callVi h (kX2_valueOfA l D a cI cZ σ q3) tb3_25 tb3_26 tb3_27 tb1_10 tb3_28 ⟨rfl, rfl⟩ (n := 1) (by decide +kernel) ⟨Nat.le_of_ble_eq_true rfl, Nat.le_of_ble_eq_true rfl⟩ (As := [.int q3]) rfl (ci := 2) (q0 := 19) rfl (fx_c19 _ _ _ σ) (st := []) rfl (Nat.le_of_ble_eq_true rfl) dX2_goes_21 ⟨Nat.zero_le _, Nat.zero_le _⟩ ?_
    generalize hq4 : (fX2_valueOfA σ q3) = q4
    refine j_if_eq h dX2_goes_24 (tgt := 31) (by decide) (fun c5 => ?_) (fun c5 => ?_)
    ·
      refine j_iconst h (v := 0) dX2_goes_31 (by decide) ?_
      subst hq1 hq3 hq4
      have E : fX2_goesA σ x1 = 0 := j_ip c2 (j_ip c5 rfl)
      exact j_zreturn h hr (by decide) E.symm rfl dX2_goes_32
    ·
      refine j_iconst h (v := 1) dX2_goes_27 (by decide) ?_
      refine j_goto h dX2_goes_28 (tgt := 32) (by decide) ?_
      subst hq1 hq3 hq4
      have E : fX2_goesA σ x1 = 1 := j_ip c2 (j_ig c5 rfl)
      exact j_zreturn h hr (by decide) E.symm rfl dX2_goes_32
def fX2_writeA (σ : St) (x1 x2 : Int32) : Int32 × St := (if x1 < 0 then (x2, σ) else (if 8 ≤ x1 then (x2, σ) else (x2, (ar σ 12 (upd (σ.2 12) x1.toNatClampNeg x2)))))
def rmX2_writeA : Room := { frames := 0, cells := 0, slots := 0, locals := 0 }
set_option maxRecDepth 100000 in
set_option maxHeartbeats 4000000 in
theorem kX2_writeA (l : Launch) (D : va_G) (a : Nat → Nat) (cI cZ : ClassId) (σ : St) (x1 x2 : Int32) : Ci l yX2_write cX2_write 3 (some .int) TB rmX2_writeA D vwCl [(cI, .int), (cZ, .boolean)] [.ref (a 19), .int x1, .int x2] (fx a cI cZ σ) (fx a cI cZ (fX2_writeA σ x1 x2).2) (fX2_writeA σ x1 x2).1 := by
  refine Ci_of (cc := cX2_write) (maxL := 3) (ret := (some .int)) (by decide +kernel) TBg (Nat.le_of_ble_eq_true rfl) ?_
  intro p e s m args below meth c A h hr
  refine j_iload_n h 1 dX2_write_0 rfl rfl ?_
  refine j_if_lt h dX2_write_1 (tgt := 17) (by decide) (fun c1 => ?_) (fun c1 => ?_)
  ·
    refine j_iload_n h 2 dX2_write_17 rfl rfl ?_
    have E : fX2_writeA σ x1 x2 = (x2, σ) := j_ip c1 rfl
    exact j_ireturn h hr (congrArg Prod.fst E).symm (congrArg (fun z => fx a cI cZ z.2) E).symm dX2_write_18
  ·
    refine j_iload_n h 1 dX2_write_4 rfl rfl ?_
    refine j_bipush h (v := 8) dX2_write_5 (by decide) ?_
    refine j_icmp_ge h dX2_write_7 (tgt := 17) (by decide) (fun c2 => ?_) (fun c2 => ?_)
    ·
      refine j_iload_n h 2 dX2_write_17 rfl rfl ?_
      have E : fX2_writeA σ x1 x2 = (x2, σ) := j_ig c1 (j_ip c2 rfl)
      exact j_ireturn h hr (congrArg Prod.fst E).symm (congrArg (fun z => fx a cI cZ z.2) E).symm dX2_write_18
    ·
      refine j_aload_n h 0 dX2_write_10 rfl rfl ?_
      refine j_get h iX2 19 (fx_c19 _ _ _ σ) rfl 1 (by decide) tb1_193 rfl (v := .ref (a 20)) rfl dX2_write_11 ?_
      refine j_iload_n h 1 dX2_write_14 rfl rfl ?_
      refine j_iload_n h 2 dX2_write_15 rfl rfl ?_
      refine j_iast h 20 0 (fx_g20 (σ := σ) (F := (σ.2 12)) rfl) rfl (j_in8 (j_lo1 c1) (j_hi1 c2)) (w' := (fx a cI cZ (ar σ 12 (upd (σ.2 12) x1.toNatClampNeg x2)))) (fx_s20 _ _ _ σ _) dX2_write_16 ?_
      refine j_iload_n h 2 dX2_write_17 rfl rfl ?_
      have E : fX2_writeA σ x1 x2 = (x2, (ar σ 12 (upd (σ.2 12) x1.toNatClampNeg x2))) := j_ig c1 (j_ig c2 rfl)
      exact j_ireturn h hr (congrArg Prod.fst E).symm (congrArg (fun z => fx a cI cZ z.2) E).symm dX2_write_18
theorem fr_fX2_writeA (σ : St) (x1 x2 : Int32) : Fr (fX2_writeA σ x1 x2).2 σ := by
  by_cases c0 : x1 < 0
  ·
    have E : fX2_writeA σ x1 x2 = (x2, σ) := j_ip c0 rfl
    rw [E]
    exact (Fr.rf _)
  ·
    by_cases c1 : 8 ≤ x1
    ·
      have E : fX2_writeA σ x1 x2 = (x2, σ) := j_ig c0 (j_ip c1 rfl)
      rw [E]
      exact (Fr.rf _)
    ·
      have E : fX2_writeA σ x1 x2 = (x2, (ar σ 12 (upd (σ.2 12) x1.toNatClampNeg x2))) := j_ig c0 (j_ig c1 rfl)
      rw [E]
      exact (Fr.tr Fr.ar (Fr.rf _))
def fX2_storeA (σ : St) (x1 x2 : Int32) : Int32 × St := (x2, (ar σ 13 (upd (σ.2 13) (fm x1 64).toNatClampNeg x2)))
def rmX2_storeA : Room := { frames := 1, cells := 0, slots := 0, locals := 22 }
set_option maxRecDepth 100000 in
set_option maxHeartbeats 4000000 in
theorem kX2_storeA (l : Launch) (D : va_G) (a : Nat → Nat) (cI cZ : ClassId) (σ : St) (x1 x2 : Int32) : Ci l yX2_store cX2_store 3 (some .int) TB rmX2_storeA D vwCl [(cI, .int), (cZ, .boolean)] [.ref (a 19), .int x1, .int x2] (fx a cI cZ σ) (fx a cI cZ (fX2_storeA σ x1 x2).2) (fX2_storeA σ x1 x2).1 := by
  refine Ci_of (cc := cX2_store) (maxL := 3) (ret := (some .int)) (by decide +kernel) TBg (Nat.le_of_ble_eq_true rfl) ?_
  intro p e s m args below meth c A h hr
  refine j_aload_n h 0 dX2_store_0 rfl rfl ?_
  refine j_get h iX2 19 (fx_c19 _ _ _ σ) rfl 2 (by decide) tb1_194 rfl (v := .ref (a 21)) rfl dX2_store_1 ?_
  refine j_iload_n h 1 dX2_store_4 rfl rfl ?_
  refine j_bipush h (v := 64) dX2_store_5 (by decide) ?_
  refine j_callSi0 h (kJ9_floorMod l D cI cZ x1 64 (by decide)) tb3_50 tb1_37 tb1_3 tb1_38 ⟨rfl, rfl⟩ (n := 2) (by decide +kernel) ⟨Nat.le_of_ble_eq_true rfl, Nat.le_of_ble_eq_true rfl⟩ (As := [.int x1, .int 64]) rfl (st := [.ref (a 21)]) rfl (Nat.le_of_ble_eq_true rfl) dX2_store_7 ⟨Nat.zero_le _, Nat.zero_le _⟩ ?_
  refine j_iload_n h 2 dX2_store_10 rfl rfl ?_
  refine j_iast h 21 0 (fx_g21 (σ := σ) (F := (σ.2 13)) rfl) rfl (fm_in64 _) (w' := (fx a cI cZ (ar σ 13 (upd (σ.2 13) (fm x1 64).toNatClampNeg x2)))) (fx_s21 _ _ _ σ _) dX2_store_11 ?_
  refine j_iload_n h 2 dX2_store_12 rfl rfl ?_
  have E : fX2_storeA σ x1 x2 = (x2, (ar σ 13 (upd (σ.2 13) (fm x1 64).toNatClampNeg x2))) := rfl
  exact j_ireturn h hr (congrArg Prod.fst E).symm (congrArg (fun z => fx a cI cZ z.2) E).symm dX2_store_13
theorem fr_fX2_storeA (σ : St) (x1 x2 : Int32) : Fr (fX2_storeA σ x1 x2).2 σ := by
  have E : fX2_storeA σ x1 x2 = (x2, (ar σ 13 (upd (σ.2 13) (fm x1 64).toNatClampNeg x2))) := rfl
  rw [E]
  exact (Fr.tr Fr.ar (Fr.rf _))
def fX2_performA (σ : St) (x1 : Int32) : Int32 × St := (let q1 := (fX3_firstRead σ x1); (let q2 := (fX2_valueOfA σ q1); (let q3 := (fX3_secondRead σ x1); (let q4 := (fX2_valueOfA σ q3); (let q5 := (fX3_number σ x1); (let q6 := (fX3_written σ x1); (let q7 := (fX3_kindOf σ x1); (if q7 = 0 then (let q9 := (fX2_writeA σ q6 ((q2 + q4) + q5)); (q9.1, q9.2)) else (if q7 = 1 then (let q11 := (fX2_valueAtA σ q2); (let q12 := (fX2_writeA σ q6 q11); (q12.1, q12.2))) else (if q7 = 2 then (let q14 := (fX2_storeA σ q2 q4); (q14.1, q14.2)) else (if q7 = 3 then (let q16 := (fX2_writeA σ q6 (q2 * q4)); (q16.1, q16.2)) else (if q7 = 4 then (0, σ) else (if q7 = 5 then (0, σ) else (if q7 = 6 then (0, σ) else (if q7 = 7 then (let q21 := (fX2_writeA σ q6 q5); (q21.1, q21.2)) else (0, σ))))))))))))))))
def rmX2_performA : Room := { frames := 2, cells := 0, slots := 0, locals := 44 }
set_option maxRecDepth 100000 in
set_option maxHeartbeats 4000000 in
theorem kX2_performA (l : Launch) (D : va_G) (a : Nat → Nat) (cI cZ : ClassId) (σ : St) (x1 : Int32) : Ci l yX2_perform cX2_perform 6 (some .int) TB rmX2_performA D vwCl [(cI, .int), (cZ, .boolean)] [.ref (a 19), .int x1] (fx a cI cZ σ) (fx a cI cZ (fX2_performA σ x1).2) (fX2_performA σ x1).1 := by
  refine Ci_of (cc := cX2_perform) (maxL := 6) (ret := (some .int)) (by decide +kernel) TBg (Nat.le_of_ble_eq_true rfl) ?_
  intro p e s m args below meth c A h hr
  refine j_aload_n h 0 dX2_perform_0 rfl rfl ?_
  refine j_aload_n h 0 dX2_perform_1 rfl rfl ?_
  refine j_get h iX2 19 (fx_c19 _ _ _ σ) rfl 0 (by decide) tb1_192 rfl (v := .ref (a 2)) rfl dX2_perform_2 ?_
  refine j_iload_n h 1 dX2_perform_5 rfl rfl ?_
  refine j_callVi h (kX3_firstRead l D a cI cZ σ x1) tb3_21 tb3_22 tb3_23 tb1_4 tb3_24 ⟨rfl, rfl⟩ (n := 1) (by decide +kernel) ⟨Nat.le_of_ble_eq_true rfl, Nat.le_of_ble_eq_true rfl⟩ (As := [.int x1]) rfl (ci := 3) (q0 := 2) rfl (fx_c2 _ _ _ σ) (st := [.ref (a 19)]) rfl (Nat.le_of_ble_eq_true rfl) dX2_perform_6 ⟨Nat.zero_le _, Nat.zero_le _⟩ ?_
  generalize hq1 : (fX3_firstRead σ x1) = q1
  refine j_callVi h (kX2_valueOfA l D a cI cZ σ q1) tb3_25 tb3_26 tb3_27 tb1_10 tb3_28 ⟨rfl, rfl⟩ (n := 1) (by decide +kernel) ⟨Nat.le_of_ble_eq_true rfl, Nat.le_of_ble_eq_true rfl⟩ (As := [.int q1]) rfl (ci := 2) (q0 := 19) rfl (fx_c19 _ _ _ σ) (st := []) rfl (Nat.le_of_ble_eq_true rfl) dX2_perform_9 ⟨Nat.zero_le _, Nat.zero_le _⟩ ?_
  generalize hq2 : (fX2_valueOfA σ q1) = q2
  refine j_istore_n h (lv' := [(2, .int q2), (0, .ref (a 19)), (1, .int x1)]) dX2_perform_12 rfl (by decide) rfl ?_
  refine j_aload_n h 1 dX2_perform_13 rfl rfl ?_
  refine j_aload_n h 1 dX2_perform_14 rfl rfl ?_
  refine j_get h iX2 19 (fx_c19 _ _ _ σ) rfl 0 (by decide) tb1_192 rfl (v := .ref (a 2)) rfl dX2_perform_15 ?_
  refine j_iload_n h 2 dX2_perform_18 rfl rfl ?_
  refine j_callVi h (kX3_secondRead l D a cI cZ σ x1) tb3_29 tb3_30 tb3_31 tb1_4 tb3_32 ⟨rfl, rfl⟩ (n := 1) (by decide +kernel) ⟨Nat.le_of_ble_eq_true rfl, Nat.le_of_ble_eq_true rfl⟩ (As := [.int x1]) rfl (ci := 3) (q0 := 2) rfl (fx_c2 _ _ _ σ) (st := [.ref (a 19)]) rfl (Nat.le_of_ble_eq_true rfl) dX2_perform_19 ⟨Nat.zero_le _, Nat.zero_le _⟩ ?_
  generalize hq3 : (fX3_secondRead σ x1) = q3
  refine j_callVi h (kX2_valueOfA l D a cI cZ σ q3) tb3_25 tb3_26 tb3_27 tb1_10 tb3_28 ⟨rfl, rfl⟩ (n := 1) (by decide +kernel) ⟨Nat.le_of_ble_eq_true rfl, Nat.le_of_ble_eq_true rfl⟩ (As := [.int q3]) rfl (ci := 2) (q0 := 19) rfl (fx_c19 _ _ _ σ) (st := []) rfl (Nat.le_of_ble_eq_true rfl) dX2_perform_22 ⟨Nat.zero_le _, Nat.zero_le _⟩ ?_
  generalize hq4 : (fX2_valueOfA σ q3) = q4
  refine j_istore_n h (lv' := [(3, .int q4), (2, .int q2), (0, .ref (a 19)), (1, .int x1)]) dX2_perform_25 rfl (by decide) rfl ?_
  refine j_aload_n h 2 dX2_perform_26 rfl rfl ?_
  refine j_get h iX2 19 (fx_c19 _ _ _ σ) rfl 0 (by decide) tb1_192 rfl (v := .ref (a 2)) rfl dX2_perform_27 ?_
  refine j_iload_n h 3 dX2_perform_30 rfl rfl ?_
  refine j_callVi h (kX3_number l D a cI cZ σ x1) tb3_33 tb3_34 tb3_35 tb1_4 tb3_36 ⟨rfl, rfl⟩ (n := 1) (by decide +kernel) ⟨Nat.le_of_ble_eq_true rfl, Nat.le_of_ble_eq_true rfl⟩ (As := [.int x1]) rfl (ci := 3) (q0 := 2) rfl (fx_c2 _ _ _ σ) (st := []) rfl (Nat.le_of_ble_eq_true rfl) dX2_perform_31 ⟨Nat.zero_le _, Nat.zero_le _⟩ ?_
  generalize hq5 : (fX3_number σ x1) = q5
  refine j_istore h (lv' := [(4, .int q5), (3, .int q4), (2, .int q2), (0, .ref (a 19)), (1, .int x1)]) dX2_perform_34 (by decide) rfl ?_
  refine j_aload_n h 3 dX2_perform_36 rfl rfl ?_
  refine j_get h iX2 19 (fx_c19 _ _ _ σ) rfl 0 (by decide) tb1_192 rfl (v := .ref (a 2)) rfl dX2_perform_37 ?_
  refine j_iload_n h 4 dX2_perform_40 rfl rfl ?_
  refine j_callVi h (kX3_written l D a cI cZ σ x1) tb3_37 tb3_38 tb3_39 tb1_4 tb3_40 ⟨rfl, rfl⟩ (n := 1) (by decide +kernel) ⟨Nat.le_of_ble_eq_true rfl, Nat.le_of_ble_eq_true rfl⟩ (As := [.int x1]) rfl (ci := 3) (q0 := 2) rfl (fx_c2 _ _ _ σ) (st := []) rfl (Nat.le_of_ble_eq_true rfl) dX2_perform_41 ⟨Nat.zero_le _, Nat.zero_le _⟩ ?_
  generalize hq6 : (fX3_written σ x1) = q6
  refine j_istore h (lv' := [(5, .int q6), (4, .int q5), (3, .int q4), (2, .int q2), (0, .ref (a 19)), (1, .int x1)]) dX2_perform_44 (by decide) rfl ?_
  refine j_aload_n h 4 dX2_perform_46 rfl rfl ?_
  refine j_get h iX2 19 (fx_c19 _ _ _ σ) rfl 0 (by decide) tb1_192 rfl (v := .ref (a 2)) rfl dX2_perform_47 ?_
  refine j_iload_n h 5 dX2_perform_50 rfl rfl ?_
  refine j_callVi h (kX3_kindOf l D a cI cZ σ x1) tb3_41 tb3_0 tb3_1 tb1_4 tb3_2 ⟨rfl, rfl⟩ (n := 1) (by decide +kernel) ⟨Nat.le_of_ble_eq_true rfl, Nat.le_of_ble_eq_true rfl⟩ (As := [.int x1]) rfl (ci := 3) (q0 := 2) rfl (fx_c2 _ _ _ σ) (st := []) rfl (Nat.le_of_ble_eq_true rfl) dX2_perform_51 ⟨Nat.zero_le _, Nat.zero_le _⟩ ?_
  generalize hq7 : (fX3_kindOf σ x1) = q7
  by_cases c8 : q7 = 0
  ·
    refine j_tableIn h dX2_perform_54 (off := 46) (tgt := 100) (by rw [c8]; decide) (by rw [c8]; decide) (by rw [c8]; decide) (by decide) ?_
    refine j_aload_n h 4 dX2_perform_100 rfl rfl ?_
    refine j_iload h 0 dX2_perform_101 rfl ?_
    refine j_iload_n h 3 dX2_perform_103 rfl rfl ?_
    refine j_iload_n h 2 dX2_perform_104 rfl rfl ?_
    refine j_iadd h dX2_perform_105 ?_
    refine j_iload h 1 dX2_perform_106 rfl ?_
    refine j_iadd h dX2_perform_108 ?_
    refine j_callVi h (kX2_writeA l D a cI cZ σ q6 ((q2 + q4) + q5)) tb3_42 tb3_44 tp_4 tb1_10 tb3_45 ⟨rfl, rfl⟩ (n := 2) (by decide +kernel) ⟨Nat.le_of_ble_eq_true rfl, Nat.le_of_ble_eq_true rfl⟩ (As := [.int q6, .int ((q2 + q4) + q5)]) rfl (ci := 2) (q0 := 19) rfl (fx_c19 _ _ _ σ) (st := []) rfl (Nat.le_of_ble_eq_true rfl) dX2_perform_109 ⟨Nat.zero_le _, Nat.zero_le _⟩ ?_
    generalize hq9 : (fX2_writeA σ q6 ((q2 + q4) + q5)) = q9
    subst hq1 hq2 hq3 hq4 hq5 hq6 hq7 hq9
    have E : fX2_performA σ x1 = ((fX2_writeA σ (fX3_written σ x1) (((fX2_valueOfA σ (fX3_firstRead σ x1)) + (fX2_valueOfA σ (fX3_secondRead σ x1))) + (fX3_number σ x1))).1, (fX2_writeA σ (fX3_written σ x1) (((fX2_valueOfA σ (fX3_firstRead σ x1)) + (fX2_valueOfA σ (fX3_secondRead σ x1))) + (fX3_number σ x1))).2) := j_ip c8 rfl
    exact j_ireturn h hr (congrArg Prod.fst E).symm (congrArg (fun z => fx a cI cZ z.2) E).symm dX2_perform_112
  ·
    by_cases c10 : q7 = 1
    ·
      refine j_tableIn h dX2_perform_54 (off := 59) (tgt := 113) (by rw [c10]; decide) (by rw [c10]; decide) (by rw [c10]; decide) (by decide) ?_
      refine j_aload_n h 4 dX2_perform_113 rfl rfl ?_
      refine j_iload h 0 dX2_perform_114 rfl ?_
      refine j_aload_n h 4 dX2_perform_116 rfl rfl ?_
      refine j_iload_n h 3 dX2_perform_117 rfl rfl ?_
      refine j_callVi h (kX2_valueAtA l D a cI cZ σ q2) tb3_46 tb3_47 tb3_48 tb1_10 tb3_49 ⟨rfl, rfl⟩ (n := 1) (by decide +kernel) ⟨Nat.le_of_ble_eq_true rfl, Nat.le_of_ble_eq_true rfl⟩ (As := [.int q2]) rfl (ci := 2) (q0 := 19) rfl (fx_c19 _ _ _ σ) (st := [.int q6, .ref (a 19)]) rfl (Nat.le_of_ble_eq_true rfl) dX2_perform_118 ⟨Nat.zero_le _, Nat.zero_le _⟩ ?_
      generalize hq11 : (fX2_valueAtA σ q2) = q11
      refine j_callVi h (kX2_writeA l D a cI cZ σ q6 q11) tb3_42 tb3_44 tp_4 tb1_10 tb3_45 ⟨rfl, rfl⟩ (n := 2) (by decide +kernel) ⟨Nat.le_of_ble_eq_true rfl, Nat.le_of_ble_eq_true rfl⟩ (As := [.int q6, .int q11]) rfl (ci := 2) (q0 := 19) rfl (fx_c19 _ _ _ σ) (st := []) rfl (Nat.le_of_ble_eq_true rfl) dX2_perform_121 ⟨Nat.zero_le _, Nat.zero_le _⟩ ?_
      generalize hq12 : (fX2_writeA σ q6 q11) = q12
      subst hq1 hq2 hq3 hq4 hq5 hq6 hq7 hq11 hq12
      have E : fX2_performA σ x1 = ((fX2_writeA σ (fX3_written σ x1) (fX2_valueAtA σ (fX2_valueOfA σ (fX3_firstRead σ x1)))).1, (fX2_writeA σ (fX3_written σ x1) (fX2_valueAtA σ (fX2_valueOfA σ (fX3_firstRead σ x1)))).2) := j_ig c8 (j_ip c10 rfl)
      exact j_ireturn h hr (congrArg Prod.fst E).symm (congrArg (fun z => fx a cI cZ z.2) E).symm dX2_perform_124
    ·
      by_cases c13 : q7 = 2
      ·
        refine j_tableIn h dX2_perform_54 (off := 71) (tgt := 125) (by rw [c13]; decide) (by rw [c13]; decide) (by rw [c13]; decide) (by decide) ?_
        refine j_aload_n h 4 dX2_perform_125 rfl rfl ?_
        refine j_iload_n h 3 dX2_perform_126 rfl rfl ?_
        refine j_iload_n h 2 dX2_perform_127 rfl rfl ?_
        refine j_callVi h (kX2_storeA l D a cI cZ σ q2 q4) tb3_51 tb3_53 tp_5 tb1_10 tb3_54 ⟨rfl, rfl⟩ (n := 2) (by decide +kernel) ⟨Nat.le_of_ble_eq_true rfl, Nat.le_of_ble_eq_true rfl⟩ (As := [.int q2, .int q4]) rfl (ci := 2) (q0 := 19) rfl (fx_c19 _ _ _ σ) (st := []) rfl (Nat.le_of_ble_eq_true rfl) dX2_perform_128 ⟨Nat.zero_le _, Nat.zero_le _⟩ ?_
        generalize hq14 : (fX2_storeA σ q2 q4) = q14
        subst hq1 hq2 hq3 hq4 hq5 hq6 hq7 hq14
        have E : fX2_performA σ x1 = ((fX2_storeA σ (fX2_valueOfA σ (fX3_firstRead σ x1)) (fX2_valueOfA σ (fX3_secondRead σ x1))).1, (fX2_storeA σ (fX2_valueOfA σ (fX3_firstRead σ x1)) (fX2_valueOfA σ (fX3_secondRead σ x1))).2) := j_ig c8 (j_ig c10 (j_ip c13 rfl))
        exact j_ireturn h hr (congrArg Prod.fst E).symm (congrArg (fun z => fx a cI cZ z.2) E).symm dX2_perform_131
      ·
        by_cases c15 : q7 = 3
        ·
          refine j_tableIn h dX2_perform_54 (off := 78) (tgt := 132) (by rw [c15]; decide) (by rw [c15]; decide) (by rw [c15]; decide) (by decide) ?_
          refine j_aload_n h 4 dX2_perform_132 rfl rfl ?_
          refine j_iload h 0 dX2_perform_133 rfl ?_
          refine j_iload_n h 3 dX2_perform_135 rfl rfl ?_
          refine j_iload_n h 2 dX2_perform_136 rfl rfl ?_
          refine j_imul h dX2_perform_137 ?_
          refine j_callVi h (kX2_writeA l D a cI cZ σ q6 (q2 * q4)) tb3_42 tb3_44 tp_4 tb1_10 tb3_45 ⟨rfl, rfl⟩ (n := 2) (by decide +kernel) ⟨Nat.le_of_ble_eq_true rfl, Nat.le_of_ble_eq_true rfl⟩ (As := [.int q6, .int (q2 * q4)]) rfl (ci := 2) (q0 := 19) rfl (fx_c19 _ _ _ σ) (st := []) rfl (Nat.le_of_ble_eq_true rfl) dX2_perform_138 ⟨Nat.zero_le _, Nat.zero_le _⟩ ?_
          generalize hq16 : (fX2_writeA σ q6 (q2 * q4)) = q16
          subst hq1 hq2 hq3 hq4 hq5 hq6 hq7 hq16
          have E : fX2_performA σ x1 = ((fX2_writeA σ (fX3_written σ x1) ((fX2_valueOfA σ (fX3_firstRead σ x1)) * (fX2_valueOfA σ (fX3_secondRead σ x1)))).1, (fX2_writeA σ (fX3_written σ x1) ((fX2_valueOfA σ (fX3_firstRead σ x1)) * (fX2_valueOfA σ (fX3_secondRead σ x1)))).2) := j_ig c8 (j_ig c10 (j_ig c13 (j_ip c15 rfl)))
          exact j_ireturn h hr (congrArg Prod.fst E).symm (congrArg (fun z => fx a cI cZ z.2) E).symm dX2_perform_141
        ·
          by_cases c17 : q7 = 4
          ·
            refine j_tableIn h dX2_perform_54 (off := 97) (tgt := 151) (by rw [c17]; decide) (by rw [c17]; decide) (by rw [c17]; decide) (by decide) ?_
            refine j_iconst h (v := 0) dX2_perform_151 (by decide) ?_
            subst hq1 hq2 hq3 hq4 hq5 hq6 hq7
            have E : fX2_performA σ x1 = (0, σ) := j_ig c8 (j_ig c10 (j_ig c13 (j_ig c15 (j_ip c17 rfl))))
            exact j_ireturn h hr (congrArg Prod.fst E).symm (congrArg (fun z => fx a cI cZ z.2) E).symm dX2_perform_152
          ·
            by_cases c18 : q7 = 5
            ·
              refine j_tableIn h dX2_perform_54 (off := 97) (tgt := 151) (by rw [c18]; decide) (by rw [c18]; decide) (by rw [c18]; decide) (by decide) ?_
              refine j_iconst h (v := 0) dX2_perform_151 (by decide) ?_
              subst hq1 hq2 hq3 hq4 hq5 hq6 hq7
              have E : fX2_performA σ x1 = (0, σ) := j_ig c8 (j_ig c10 (j_ig c13 (j_ig c15 (j_ig c17 (j_ip c18 rfl)))))
              exact j_ireturn h hr (congrArg Prod.fst E).symm (congrArg (fun z => fx a cI cZ z.2) E).symm dX2_perform_152
            ·
              by_cases c19 : q7 = 6
              ·
                refine j_tableIn h dX2_perform_54 (off := 97) (tgt := 151) (by rw [c19]; decide) (by rw [c19]; decide) (by rw [c19]; decide) (by decide) ?_
                refine j_iconst h (v := 0) dX2_perform_151 (by decide) ?_
                subst hq1 hq2 hq3 hq4 hq5 hq6 hq7
                have E : fX2_performA σ x1 = (0, σ) := j_ig c8 (j_ig c10 (j_ig c13 (j_ig c15 (j_ig c17 (j_ig c18 (j_ip c19 rfl))))))
                exact j_ireturn h hr (congrArg Prod.fst E).symm (congrArg (fun z => fx a cI cZ z.2) E).symm dX2_perform_152
              ·
                by_cases c20 : q7 = 7
                ·
                  refine j_tableIn h dX2_perform_54 (off := 88) (tgt := 142) (by rw [c20]; decide) (by rw [c20]; decide) (by rw [c20]; decide) (by decide) ?_
                  refine j_aload_n h 4 dX2_perform_142 rfl rfl ?_
                  refine j_iload h 0 dX2_perform_143 rfl ?_
                  refine j_iload h 1 dX2_perform_145 rfl ?_
                  refine j_callVi h (kX2_writeA l D a cI cZ σ q6 q5) tb3_42 tb3_44 tp_4 tb1_10 tb3_45 ⟨rfl, rfl⟩ (n := 2) (by decide +kernel) ⟨Nat.le_of_ble_eq_true rfl, Nat.le_of_ble_eq_true rfl⟩ (As := [.int q6, .int q5]) rfl (ci := 2) (q0 := 19) rfl (fx_c19 _ _ _ σ) (st := []) rfl (Nat.le_of_ble_eq_true rfl) dX2_perform_147 ⟨Nat.zero_le _, Nat.zero_le _⟩ ?_
                  generalize hq21 : (fX2_writeA σ q6 q5) = q21
                  subst hq1 hq2 hq3 hq4 hq5 hq6 hq7 hq21
                  have E : fX2_performA σ x1 = ((fX2_writeA σ (fX3_written σ x1) (fX3_number σ x1)).1, (fX2_writeA σ (fX3_written σ x1) (fX3_number σ x1)).2) := j_ig c8 (j_ig c10 (j_ig c13 (j_ig c15 (j_ig c17 (j_ig c18 (j_ig c19 (j_ip c20 rfl)))))))
                  exact j_ireturn h hr (congrArg Prod.fst E).symm (congrArg (fun z => fx a cI cZ z.2) E).symm dX2_perform_150
                ·
                  refine j_tableOut h dX2_perform_54 (tgt := 151) (by have n0 := lv_neT (a := 0) c8 (by decide); have n1 := lv_neT (a := 1) c10 (by decide); have n2 := lv_neT (a := 2) c13 (by decide); have n3 := lv_neT (a := 3) c15 (by decide); have n4 := lv_neT (a := 4) c17 (by decide); have n5 := lv_neT (a := 5) c18 (by decide); have n6 := lv_neT (a := 6) c19 (by decide); have n7 := lv_neT (a := 7) c20 (by decide); omega) (by decide) ?_
                  refine j_iconst h (v := 0) dX2_perform_151 (by decide) ?_
                  subst hq1 hq2 hq3 hq4 hq5 hq6 hq7
                  have E : fX2_performA σ x1 = (0, σ) := j_ig c8 (j_ig c10 (j_ig c13 (j_ig c15 (j_ig c17 (j_ig c18 (j_ig c19 (j_ig c20 rfl)))))))
                  exact j_ireturn h hr (congrArg Prod.fst E).symm (congrArg (fun z => fx a cI cZ z.2) E).symm dX2_perform_152
theorem fr_fX2_performA (σ : St) (x1 : Int32) : Fr (fX2_performA σ x1).2 σ := by
  by_cases c0 : (fX3_kindOf σ x1) = 0
  ·
    have E : fX2_performA σ x1 = ((fX2_writeA σ (fX3_written σ x1) (((fX2_valueOfA σ (fX3_firstRead σ x1)) + (fX2_valueOfA σ (fX3_secondRead σ x1))) + (fX3_number σ x1))).1, (fX2_writeA σ (fX3_written σ x1) (((fX2_valueOfA σ (fX3_firstRead σ x1)) + (fX2_valueOfA σ (fX3_secondRead σ x1))) + (fX3_number σ x1))).2) := j_ip c0 rfl
    rw [E]
    exact (Fr.tr (fr_fX2_writeA _ _ _) (Fr.rf _))
  ·
    by_cases c1 : (fX3_kindOf σ x1) = 1
    ·
      have E : fX2_performA σ x1 = ((fX2_writeA σ (fX3_written σ x1) (fX2_valueAtA σ (fX2_valueOfA σ (fX3_firstRead σ x1)))).1, (fX2_writeA σ (fX3_written σ x1) (fX2_valueAtA σ (fX2_valueOfA σ (fX3_firstRead σ x1)))).2) := j_ig c0 (j_ip c1 rfl)
      rw [E]
      exact (Fr.tr (fr_fX2_writeA _ _ _) (Fr.rf _))
    ·
      by_cases c2 : (fX3_kindOf σ x1) = 2
      ·
        have E : fX2_performA σ x1 = ((fX2_storeA σ (fX2_valueOfA σ (fX3_firstRead σ x1)) (fX2_valueOfA σ (fX3_secondRead σ x1))).1, (fX2_storeA σ (fX2_valueOfA σ (fX3_firstRead σ x1)) (fX2_valueOfA σ (fX3_secondRead σ x1))).2) := j_ig c0 (j_ig c1 (j_ip c2 rfl))
        rw [E]
        exact (Fr.tr (fr_fX2_storeA _ _ _) (Fr.rf _))
      ·
        by_cases c3 : (fX3_kindOf σ x1) = 3
        ·
          have E : fX2_performA σ x1 = ((fX2_writeA σ (fX3_written σ x1) ((fX2_valueOfA σ (fX3_firstRead σ x1)) * (fX2_valueOfA σ (fX3_secondRead σ x1)))).1, (fX2_writeA σ (fX3_written σ x1) ((fX2_valueOfA σ (fX3_firstRead σ x1)) * (fX2_valueOfA σ (fX3_secondRead σ x1)))).2) := j_ig c0 (j_ig c1 (j_ig c2 (j_ip c3 rfl)))
          rw [E]
          exact (Fr.tr (fr_fX2_writeA _ _ _) (Fr.rf _))
        ·
          by_cases c4 : (fX3_kindOf σ x1) = 4
          ·
            have E : fX2_performA σ x1 = (0, σ) := j_ig c0 (j_ig c1 (j_ig c2 (j_ig c3 (j_ip c4 rfl))))
            rw [E]
            exact (Fr.rf _)
          ·
            by_cases c5 : (fX3_kindOf σ x1) = 5
            ·
              have E : fX2_performA σ x1 = (0, σ) := j_ig c0 (j_ig c1 (j_ig c2 (j_ig c3 (j_ig c4 (j_ip c5 rfl)))))
              rw [E]
              exact (Fr.rf _)
            ·
              by_cases c6 : (fX3_kindOf σ x1) = 6
              ·
                have E : fX2_performA σ x1 = (0, σ) := j_ig c0 (j_ig c1 (j_ig c2 (j_ig c3 (j_ig c4 (j_ig c5 (j_ip c6 rfl))))))
                rw [E]
                exact (Fr.rf _)
              ·
                by_cases c7 : (fX3_kindOf σ x1) = 7
                ·
                  have E : fX2_performA σ x1 = ((fX2_writeA σ (fX3_written σ x1) (fX3_number σ x1)).1, (fX2_writeA σ (fX3_written σ x1) (fX3_number σ x1)).2) := j_ig c0 (j_ig c1 (j_ig c2 (j_ig c3 (j_ig c4 (j_ig c5 (j_ig c6 (j_ip c7 rfl)))))))
                  rw [E]
                  exact (Fr.tr (fr_fX2_writeA _ _ _) (Fr.rf _))
                ·
                  have E : fX2_performA σ x1 = (0, σ) := j_ig c0 (j_ig c1 (j_ig c2 (j_ig c3 (j_ig c4 (j_ig c5 (j_ig c6 (j_ig c7 rfl)))))))
                  rw [E]
                  exact (Fr.rf _)
