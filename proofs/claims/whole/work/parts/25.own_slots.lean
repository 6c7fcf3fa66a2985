def fX5_wordIn (σ : St) (x1 : Int32) : Int32 := (if x1 < 0 then (-1) else (if 8 ≤ x1 then (-1) else ((σ.2 5) x1.toNatClampNeg)))
def rmX5_wordIn : Room := { frames := 0, cells := 0, slots := 0, locals := 0 }
set_option maxRecDepth 100000 in
set_option maxHeartbeats 4000000 in
theorem kX5_wordIn (l : Launch) (D : va_G) (a : Nat → Nat) (cI cZ : ClassId) (σ : St) (x1 : Int32) : Ci l yX5_wordIn cX5_wordIn 2 (some .int) TB rmX5_wordIn D vwCl [(cI, .int), (cZ, .boolean)] [.ref (a 9), .int x1] (fx a cI cZ σ) (fx a cI cZ σ) (fX5_wordIn σ x1) := by
  refine Ci_of (cc := cX5_wordIn) (maxL := 2) (ret := (some .int)) (by decide +kernel) TBg (Nat.le_of_ble_eq_true rfl) ?_
  intro p e s m args below meth c A h hr
  refine j_iload_n h 1 dX5_wordIn_0 rfl rfl ?_
  refine j_if_lt h dX5_wordIn_1 (tgt := 19) (by decide) (fun c1 => ?_) (fun c1 => ?_)
  ·
    refine j_iconst h (v := (-1)) dX5_wordIn_19 (by decide) ?_
    have E : fX5_wordIn σ x1 = (-1) := j_ip c1 rfl
    exact j_ireturn h hr E.symm rfl dX5_wordIn_20
  ·
    refine j_iload_n h 1 dX5_wordIn_4 rfl rfl ?_
    refine j_bipush h (v := 8) dX5_wordIn_5 (by decide) ?_
    refine j_icmp_ge h dX5_wordIn_7 (tgt := 19) (by decide) (fun c2 => ?_) (fun c2 => ?_)
    ·
      refine j_iconst h (v := (-1)) dX5_wordIn_19 (by decide) ?_
      have E : fX5_wordIn σ x1 = (-1) := j_ig c1 (j_ip c2 rfl)
      exact j_ireturn h hr E.symm rfl dX5_wordIn_20
    ·
      refine j_aload_n h 0 dX5_wordIn_10 rfl rfl ?_
      refine j_get h iX5 9 (fx_c9 _ _ _ σ) rfl 0 (by decide) tb1_108 rfl (v := .ref (a 10)) rfl dX5_wordIn_11 ?_
      refine j_iload_n h 1 dX5_wordIn_14 rfl rfl ?_
      refine j_iald h 10 0 (fx_g10 (σ := σ) (F := (σ.2 5)) rfl) rfl (j_in8 (j_lo1 c1) (j_hi1 c2)) dX5_wordIn_15 ?_
      refine j_goto h dX5_wordIn_16 (tgt := 20) (by decide) ?_
      have E : fX5_wordIn σ x1 = ((σ.2 5) x1.toNatClampNeg) := j_ig c1 (j_ig c2 rfl)
      exact j_ireturn h hr E.symm rfl dX5_wordIn_20
def fX5_isOnTheWay (σ : St) (x1 : Int32) : Int32 := (if x1 < 0 then 0 else (if 8 ≤ x1 then 0 else (if ((σ.2 6) x1.toNatClampNeg) = 0 then 0 else 1)))
def rmX5_isOnTheWay : Room := { frames := 0, cells := 0, slots := 0, locals := 0 }
set_option maxRecDepth 100000 in
set_option maxHeartbeats 4000000 in
theorem kX5_isOnTheWay (l : Launch) (D : va_G) (a : Nat → Nat) (cI cZ : ClassId) (σ : St) (x1 : Int32) : Ci l yX5_isOnTheWay cX5_isOnTheWay 2 (some .boolean) TB rmX5_isOnTheWay D vwCl [(cI, .int), (cZ, .boolean)] [.ref (a 9), .int x1] (fx a cI cZ σ) (fx a cI cZ σ) (fX5_isOnTheWay σ x1) := by
  refine Ci_of (cc := cX5_isOnTheWay) (maxL := 2) (ret := (some .boolean)) (by decide +kernel) TBg (Nat.le_of_ble_eq_true rfl) ?_
  intro p e s m args below meth c A h hr
  refine j_iload_n h 1 dX5_isOnTheWay_0 rfl rfl ?_
  refine j_if_lt h dX5_isOnTheWay_1 (tgt := 23) (by decide) (fun c1 => ?_) (fun c1 => ?_)
  ·
    refine j_iconst h (v := 0) dX5_isOnTheWay_23 (by decide) ?_
    have E : fX5_isOnTheWay σ x1 = 0 := j_ip c1 rfl
    exact j_zreturn h hr (by decide) E.symm rfl dX5_isOnTheWay_24
  ·
    refine j_iload_n h 1 dX5_isOnTheWay_4 rfl rfl ?_
    refine j_bipush h (v := 8) dX5_isOnTheWay_5 (by decide) ?_
    refine j_icmp_ge h dX5_isOnTheWay_7 (tgt := 23) (by decide) (fun c2 => ?_) (fun c2 => ?_)
    ·
      refine j_iconst h (v := 0) dX5_isOnTheWay_23 (by decide) ?_
      have E : fX5_isOnTheWay σ x1 = 0 := j_ig c1 (j_ip c2 rfl)
      exact j_zreturn h hr (by decide) E.symm rfl dX5_isOnTheWay_24
    ·
      refine j_aload_n h 0 dX5_isOnTheWay_10 rfl rfl ?_
      refine j_get h iX5 9 (fx_c9 _ _ _ σ) rfl 1 (by decide) tb1_109 rfl (v := .ref (a 11)) rfl dX5_isOnTheWay_11 ?_
      refine j_iload_n h 1 dX5_isOnTheWay_14 rfl rfl ?_
      refine j_zald h 11 1 (fx_g11 (σ := σ) (F := (σ.2 6)) rfl) rfl (j_in8 (j_lo1 c1) (j_hi1 c2)) dX5_isOnTheWay_15 ?_
      refine j_if_eq h dX5_isOnTheWay_16 (tgt := 23) (by decide) (fun c3 => ?_) (fun c3 => ?_)
      ·
        refine j_iconst h (v := 0) dX5_isOnTheWay_23 (by decide) ?_
        have E : fX5_isOnTheWay σ x1 = 0 := j_ig c1 (j_ig c2 (j_ip c3 rfl))
        exact j_zreturn h hr (by decide) E.symm rfl dX5_isOnTheWay_24
      ·
        refine j_iconst h (v := 1) dX5_isOnTheWay_19 (by decide) ?_
        refine j_goto h dX5_isOnTheWay_20 (tgt := 24) (by decide) ?_
        have E : fX5_isOnTheWay σ x1 = 1 := j_ig c1 (j_ig c2 (j_ig c3 rfl))
        exact j_zreturn h hr (by decide) E.symm rfl dX5_isOnTheWay_24
def fX5_isGoing (σ : St) (x1 : Int32) : Int32 := (if x1 < 0 then 0 else (if 8 ≤ x1 then 0 else (if ((σ.2 7) x1.toNatClampNeg) = 0 then 0 else 1)))
def rmX5_isGoing : Room := { frames := 0, cells := 0, slots := 0, locals := 0 }
set_option maxRecDepth 100000 in
set_option maxHeartbeats 4000000 in
theorem kX5_isGoing (l : Launch) (D : va_G) (a : Nat → Nat) (cI cZ : ClassId) (σ : St) (x1 : Int32) : Ci l yX5_isGoing cX5_isGoing 2 (some .boolean) TB rmX5_isGoing D vwCl [(cI, .int), (cZ, .boolean)] [.ref (a 9), .int x1] (fx a cI cZ σ) (fx a cI cZ σ) (fX5_isGoing σ x1) := by
  refine Ci_of (cc := cX5_isGoing) (maxL := 2) (ret := (some .boolean)) (by decide +kernel) TBg (Nat.le_of_ble_eq_true rfl) ?_
  intro p e s m args below meth c A h hr
  refine j_iload_n h 1 dX5_isGoing_0 rfl rfl ?_
  refine j_if_lt h dX5_isGoing_1 (tgt := 23) (by decide) (fun c1 => ?_) (fun c1 => ?_)
  ·
    refine j_iconst h (v := 0) dX5_isGoing_23 (by decide) ?_
    have E : fX5_isGoing σ x1 = 0 := j_ip c1 rfl
    exact j_zreturn h hr (by decide) E.symm rfl dX5_isGoing_24
  ·
    refine j_iload_n h 1 dX5_isGoing_4 rfl rfl ?_
    refine j_bipush h (v := 8) dX5_isGoing_5 (by decide) ?_
    refine j_icmp_ge h dX5_isGoing_7 (tgt := 23) (by decide) (fun c2 => ?_) (fun c2 => ?_)
    ·
      refine j_iconst h (v := 0) dX5_isGoing_23 (by decide) ?_
      have E : fX5_isGoing σ x1 = 0 := j_ig c1 (j_ip c2 rfl)
      exact j_zreturn h hr (by decide) E.symm rfl dX5_isGoing_24
    ·
      refine j_aload_n h 0 dX5_isGoing_10 rfl rfl ?_
      refine j_get h iX5 9 (fx_c9 _ _ _ σ) rfl 2 (by decide) tb1_110 rfl (v := .ref (a 12)) rfl dX5_isGoing_11 ?_
      refine j_iload_n h 1 dX5_isGoing_14 rfl rfl ?_
      refine j_zald h 12 1 (fx_g12 (σ := σ) (F := (σ.2 7)) rfl) rfl (j_in8 (j_lo1 c1) (j_hi1 c2)) dX5_isGoing_15 ?_
      refine j_if_eq h dX5_isGoing_16 (tgt := 23) (by decide) (fun c3 => ?_) (fun c3 => ?_)
      ·
        refine j_iconst h (v := 0) dX5_isGoing_23 (by decide) ?_
        have E : fX5_isGoing σ x1 = 0 := j_ig c1 (j_ig c2 (j_ip c3 rfl))
        exact j_zreturn h hr (by decide) E.symm rfl dX5_isGoing_24
      ·
        refine j_iconst h (v := 1) dX5_isGoing_19 (by decide) ?_
        refine j_goto h dX5_isGoing_20 (tgt := 24) (by decide) ?_
        have E : fX5_isGoing σ x1 = 1 := j_ig c1 (j_ig c2 (j_ig c3 rfl))
        exact j_zreturn h hr (by decide) E.symm rfl dX5_isGoing_24
def fX5_put (σ : St) (x1 x2 x3 x4 : Int32) : St := (if x1 < 0 then σ else (if 8 ≤ x1 then σ else (ar (ar (ar σ 5 (upd (σ.2 5) x1.toNatClampNeg x2)) 6 (upd (σ.2 6) x1.toNatClampNeg (vp_nar .boolean x3))) 7 (upd (σ.2 7) x1.toNatClampNeg (vp_nar .boolean x4)))))
def rmX5_put : Room := { frames := 0, cells := 0, slots := 0, locals := 0 }
set_option maxRecDepth 100000 in
set_option maxHeartbeats 4000000 in
theorem kX5_put (l : Launch) (D : va_G) (a : Nat → Nat) (cI cZ : ClassId) (σ : St) (x1 x2 x3 x4 : Int32) : Cv l yX5_put cX5_put 5 none TB rmX5_put D vwCl [(cI, .int), (cZ, .boolean)] [.ref (a 9), .int x1, .int x2, .int x3, .int x4] (fx a cI cZ σ) (fun _ => (fx a cI cZ (fX5_put σ x1 x2 x3 x4))) 0 0 := by
  refine Cv_of (cc := cX5_put) (maxL := 5) (ret := none) (by decide +kernel) TBg (Nat.le_of_ble_eq_true rfl) ?_
  intro p e s m args below meth c A h hr hname
  refine j_iload_n h 1 dX5_put_0 rfl rfl ?_
  refine j_if_lt h dX5_put_1 (tgt := 32) (by decide) (fun c1 => ?_) (fun c1 => ?_)
  ·
    have E : fX5_put σ x1 x2 x3 x4 = σ := j_ip c1 rfl
    exact j_vreturn h hr (fun _ => 0) (congrArg (fx a cI cZ) E).symm dX5_put_32
  ·
    refine j_iload_n h 1 dX5_put_4 rfl rfl ?_
    refine j_bipush h (v := 8) dX5_put_5 (by decide) ?_
    refine j_icmp_ge h dX5_put_7 (tgt := 32) (by decide) (fun c2 => ?_) (fun c2 => ?_)
    ·
      have E : fX5_put σ x1 x2 x3 x4 = σ := j_ig c1 (j_ip c2 rfl)
      exact j_vreturn h hr (fun _ => 0) (congrArg (fx a cI cZ) E).symm dX5_put_32
    ·
      refine j_aload_n h 0 dX5_put_10 rfl rfl ?_
      refine j_get h iX5 9 (fx_c9 _ _ _ σ) rfl 0 (by decide) tb1_108 rfl (v := .ref (a 10)) rfl dX5_put_11 ?_
      refine j_iload_n h 1 dX5_put_14 rfl rfl ?_
      refine j_iload_n h 2 dX5_put_15 rfl rfl ?_
      refine j_iast h 10 0 (fx_g10 (σ := σ) (F := (σ.2 5)) rfl) rfl (j_in8 (j_lo1 c1) (j_hi1 c2)) (w' := (fx a cI cZ (ar σ 5 (upd (σ.2 5) x1.toNatClampNeg x2)))) (fx_s10 _ _ _ σ _) dX5_put_16 ?_
      refine j_aload_n h 0 dX5_put_17 rfl rfl ?_
      refine j_get h iX5 9 (fx_c9 _ _ _ (ar σ 5 (upd (σ.2 5) x1.toNatClampNeg x2))) rfl 1 (by decide) tb1_109 rfl (v := .ref (a 11)) rfl dX5_put_18 ?_
      refine j_iload_n h 1 dX5_put_21 rfl rfl ?_
      refine j_iload_n h 3 dX5_put_22 rfl rfl ?_
      refine j_zast h 11 1 (fx_g11 (σ := (ar σ 5 (upd (σ.2 5) x1.toNatClampNeg x2))) (F := (σ.2 6)) rfl) rfl (j_in8 (j_lo1 c1) (j_hi1 c2)) (w' := (fx a cI cZ (ar (ar σ 5 (upd (σ.2 5) x1.toNatClampNeg x2)) 6 (upd (σ.2 6) x1.toNatClampNeg (vp_nar .boolean x3))))) (fx_s11 _ _ _ (ar σ 5 (upd (σ.2 5) x1.toNatClampNeg x2)) _) dX5_put_23 ?_
      refine j_aload_n h 0 dX5_put_24 rfl rfl ?_
      refine j_get h iX5 9 (fx_c9 _ _ _ (ar (ar σ 5 (upd (σ.2 5) x1.toNatClampNeg x2)) 6 (upd (σ.2 6) x1.toNatClampNeg (vp_nar .boolean x3)))) rfl 2 (by decide) tb1_110 rfl (v := .ref (a 12)) rfl dX5_put_25 ?_
      refine j_iload_n h 1 dX5_put_28 rfl rfl ?_
      refine j_iload h 4 dX5_put_29 rfl ?_
      refine j_zast h 12 1 (fx_g12 (σ := (ar (ar σ 5 (upd (σ.2 5) x1.toNatClampNeg x2)) 6 (upd (σ.2 6) x1.toNatClampNeg (vp_nar .boolean x3)))) (F := (σ.2 7)) rfl) rfl (j_in8 (j_lo1 c1) (j_hi1 c2)) (w' := (fx a cI cZ (ar (ar (ar σ 5 (upd (σ.2 5) x1.toNatClampNeg x2)) 6 (upd (σ.2 6) x1.toNatClampNeg (vp_nar .boolean x3))) 7 (upd (σ.2 7) x1.toNatClampNeg (vp_nar .boolean x4))))) (fx_s12 _ _ _ (ar (ar σ 5 (upd (σ.2 5) x1.toNatClampNeg x2)) 6 (upd (σ.2 6) x1.toNatClampNeg (vp_nar .boolean x3))) _) dX5_put_31 ?_
      have E : fX5_put σ x1 x2 x3 x4 = (ar (ar (ar σ 5 (upd (σ.2 5) x1.toNatClampNeg x2)) 6 (upd (σ.2 6) x1.toNatClampNeg (vp_nar .boolean x3))) 7 (upd (σ.2 7) x1.toNatClampNeg (vp_nar .boolean x4))) := j_ig c1 (j_ig c2 rfl)
      exact j_vreturn h hr (fun _ => 0) (congrArg (fx a cI cZ) E).symm dX5_put_32
theorem fr_fX5_put (σ : St) (x1 x2 x3 x4 : Int32) : Fr (fX5_put σ x1 x2 x3 x4) σ := by
  by_cases c0 : x1 < 0
  ·
    have E : fX5_put σ x1 x2 x3 x4 = σ := j_ip c0 rfl
    rw [E]
    exact (Fr.rf _)
  ·
    by_cases c1 : 8 ≤ x1
    ·
      have E : fX5_put σ x1 x2 x3 x4 = σ := j_ig c0 (j_ip c1 rfl)
      rw [E]
      exact (Fr.rf _)
    ·
      have E : fX5_put σ x1 x2 x3 x4 = (ar (ar (ar σ 5 (upd (σ.2 5) x1.toNatClampNeg x2)) 6 (upd (σ.2 6) x1.toNatClampNeg (vp_nar .boolean x3))) 7 (upd (σ.2 7) x1.toNatClampNeg (vp_nar .boolean x4))) := j_ig c0 (j_ig c1 rfl)
      rw [E]
      exact (Fr.tr Fr.ar (Fr.tr Fr.ar (Fr.tr Fr.ar (Fr.rf _))))
def fX5_empty (σ : St) (x1 : Int32) : St := (let q1 := (fX5_put σ x1 (-1) 0 0); q1)
def rmX5_empty : Room := { frames := 1, cells := 0, slots := 0, locals := 24 }
set_option maxRecDepth 100000 in
set_option maxHeartbeats 4000000 in
theorem kX5_empty (l : Launch) (D : va_G) (a : Nat → Nat) (cI cZ : ClassId) (σ : St) (x1 : Int32) : Cv l yX5_empty cX5_empty 2 none TB rmX5_empty D vwCl [(cI, .int), (cZ, .boolean)] [.ref (a 9), .int x1] (fx a cI cZ σ) (fun _ => (fx a cI cZ (fX5_empty σ x1))) 0 0 := by
  refine Cv_of (cc := cX5_empty) (maxL := 2) (ret := none) (by decide +kernel) TBg (Nat.le_of_ble_eq_true rfl) ?_
  intro p e s m args below meth c A h hr hname
  refine j_aload_n h 0 dX5_empty_0 rfl rfl ?_
  refine j_iload_n h 1 dX5_empty_1 rfl rfl ?_
  refine j_iconst h (v := (-1)) dX5_empty_2 (by decide) ?_
  refine j_iconst h (v := 0) dX5_empty_3 (by decide) ?_
  refine j_iconst h (v := 0) dX5_empty_4 (by decide) ?_
  refine j_callVv h (kX5_put l D a cI cZ σ x1 (-1) 0 0) tb2_41 tb2_42 tb2_43 tb1_6 tb2_44 ⟨rfl, rfl⟩ (n := 4) (by decide +kernel) ⟨Nat.le_of_ble_eq_true rfl, Nat.le_of_ble_eq_true rfl⟩ (As := [.int x1, .int (-1), .int 0, .int 0]) rfl (ci := 5) (q0 := 9) rfl (fx_c9 _ _ _ σ) (st := []) rfl (Nat.le_of_ble_eq_true rfl) dX5_empty_5 ⟨Nat.zero_le _, Nat.zero_le _⟩ ?_
  generalize hq1 : (fX5_put σ x1 (-1) 0 0) = q1
  subst hq1
  have E : fX5_empty σ x1 = (fX5_put σ x1 (-1) 0 0) := rfl
  exact j_vreturn h hr (fun _ => 0) (congrArg (fx a cI cZ) E).symm dX5_empty_8
theorem fr_fX5_empty (σ : St) (x1 : Int32) : Fr (fX5_empty σ x1) σ := by
  have E : fX5_empty σ x1 = (fX5_put σ x1 (-1) 0 0) := rfl
  rw [E]
  exact (Fr.tr (fr_fX5_put _ _ _ _ _) (Fr.rf _))
def fX5_moveOnFrom (σ : St) (x1 : Int32) : St := (let q1 := (fX5_wordIn σ x1); (let q2 := (fX5_isOnTheWay σ x1); (let q3 := (fX5_isGoing σ x1); (let q4 := (fX5_put σ (x1 + 1) q1 q2 q3); (let q5 := (fX5_empty q4 x1); q5)))))
def rmX5_moveOnFrom : Room := { frames := 2, cells := 0, slots := 0, locals := 45 }
set_option maxRecDepth 100000 in
set_option maxHeartbeats 4000000 in
theorem kX5_moveOnFrom (l : Launch) (D : va_G) (a : Nat → Nat) (cI cZ : ClassId) (σ : St) (x1 : Int32) : Cv l yX5_moveOnFrom cX5_moveOnFrom 2 none TB rmX5_moveOnFrom D vwCl [(cI, .int), (cZ, .boolean)] [.ref (a 9), .int x1] (fx a cI cZ σ) (fun _ => (fx a cI cZ (fX5_moveOnFrom σ x1))) 0 0 := by
  refine Cv_of (cc := cX5_moveOnFrom) (maxL := 2) (ret := none) (by decide +kernel) TBg (Nat.le_of_ble_eq_true rfl) ?_
  intro p e s m args below meth c A h hr hname
  refine j_aload_n h 0 dX5_moveOnFrom_0 rfl rfl ?_
  refine j_iload_n h 1 dX5_moveOnFrom_1 rfl rfl ?_
  refine j_iconst h (v := 1) dX5_moveOnFrom_2 (by decide) ?_
  refine j_iadd h dX5_moveOnFrom_3 ?_
  refine j_aload_n h 0 dX5_moveOnFrom_4 rfl rfl ?_
  refine j_iload_n h 1 dX5_moveOnFrom_5 rfl rfl ?_
  refine j_callVi h (kX5_wordIn l D a cI cZ σ x1) tb3_96 tb2_228 tb2_229 tb1_6 tb2_230 ⟨rfl, rfl⟩ (n := 1) (by decide +kernel) ⟨Nat.le_of_ble_eq_true rfl, Nat.le_of_ble_eq_true rfl⟩ (As := [.int x1]) rfl (ci := 5) (q0 := 9) rfl (fx_c9 _ _ _ σ) (st := [.int (x1 + 1), .ref (a 9)]) rfl (Nat.le_of_ble_eq_true rfl) dX5_moveOnFrom_6 ⟨Nat.zero_le _, Nat.zero_le _⟩ ?_
  generalize hq1 : (fX5_wordIn σ x1) = q1
  refine j_aload_n h 0 dX5_moveOnFrom_9 rfl rfl ?_
  refine j_iload_n h 1 dX5_moveOnFrom_10 rfl rfl ?_
  refine j_callVi h (kX5_isOnTheWay l D a cI cZ σ x1) tb3_97 tb3_98 tb3_99 tb1_6 tb3_100 ⟨rfl, rfl⟩ (n := 1) (by decide +kernel) ⟨Nat.le_of_ble_eq_true rfl, Nat.le_of_ble_eq_true rfl⟩ (As := [.int x1]) rfl (ci := 5) (q0 := 9) rfl (fx_c9 _ _ _ σ) (st := [.int q1, .int (x1 + 1), .ref (a 9)]) rfl (Nat.le_of_ble_eq_true rfl) dX5_moveOnFrom_11 ⟨Nat.zero_le _, Nat.zero_le _⟩ ?_
  generalize hq2 : (fX5_isOnTheWay σ x1) = q2
  refine j_aload_n h 0 dX5_moveOnFrom_14 rfl rfl ?_
  refine j_iload_n h 1 dX5_moveOnFrom_15 rfl rfl ?_
  refine j_callVi h (kX5_isGoing l D a cI cZ σ x1) tb3_101 tb2_232 tb2_233 tb1_6 tb2_234 ⟨rfl, rfl⟩ (n := 1) (by decide +kernel) ⟨Nat.le_of_ble_eq_true rfl, Nat.le_of_ble_eq_true rfl⟩ (As := [.int x1]) rfl (ci := 5) (q0 := 9) rfl (fx_c9 _ _ _ σ) (st := [.int q2, .int q1, .int (x1 + 1), .ref (a 9)]) rfl (Nat.le_of_ble_eq_true rfl) dX5_moveOnFrom_16 ⟨Nat.zero_le _, Nat.zero_le _⟩ ?_
  generalize hq3 : (fX5_isGoing σ x1) = q3
  refine j_callVv h (kX5_put l D a cI cZ σ (x1 + 1) q1 q2 q3) tb2_41 tb2_42 tb2_43 tb1_6 tb2_44 ⟨rfl, rfl⟩ (n := 4) (by decide +kernel) ⟨Nat.le_of_ble_eq_true rfl, Nat.le_of_ble_eq_true rfl⟩ (As := [.int (x1 + 1), .int q1, .int q2, .int q3]) rfl (ci := 5) (q0 := 9) rfl (fx_c9 _ _ _ σ) (st := []) rfl (Nat.le_of_ble_eq_true rfl) dX5_moveOnFrom_19 ⟨Nat.zero_le _, Nat.zero_le _⟩ ?_
  generalize hq4 : (fX5_put σ (x1 + 1) q1 q2 q3) = q4
  refine j_aload_n h 0 dX5_moveOnFrom_22 rfl rfl ?_
  refine j_iload_n h 1 dX5_moveOnFrom_23 rfl rfl ?_
  refine j_callVv h (kX5_empty l D a cI cZ q4 x1) tb3_102 tb2_236 tb2_237 tb1_6 tb2_238 ⟨rfl, rfl⟩ (n := 1) (by decide +kernel) ⟨Nat.le_of_ble_eq_true rfl, Nat.le_of_ble_eq_true rfl⟩ (As := [.int x1]) rfl (ci := 5) (q0 := 9) rfl (fx_c9 _ _ _ q4) (st := []) rfl (Nat.le_of_ble_eq_true rfl) dX5_moveOnFrom_24 ⟨Nat.zero_le _, Nat.zero_le _⟩ ?_
  generalize hq5 : (fX5_empty q4 x1) = q5
  subst hq1 hq2 hq3 hq4 hq5
  have E : fX5_moveOnFrom σ x1 = (fX5_empty (fX5_put σ (x1 + 1) (fX5_wordIn σ x1) (fX5_isOnTheWay σ x1) (fX5_isGoing σ x1)) x1) := rfl
  exact j_vreturn h hr (fun _ => 0) (congrArg (fx a cI cZ) E).symm dX5_moveOnFrom_27
theorem fr_fX5_moveOnFrom (σ : St) (x1 : Int32) : Fr (fX5_moveOnFrom σ x1) σ := by
  have E : fX5_moveOnFrom σ x1 = (fX5_empty (fX5_put σ (x1 + 1) (fX5_wordIn σ x1) (fX5_isOnTheWay σ x1) (fX5_isGoing σ x1)) x1) := rfl
  rw [E]
  exact (Fr.tr (fr_fX5_empty _ _) (Fr.tr (fr_fX5_put _ _ _ _ _) (Fr.rf _)))
def gfX5_squashBelow : Nat → St → Int32 → Int32 → Int32 → (Int32 × St)
  | 0, σ, x1, x2, x3 => (0, σ)
  | n + 1, σ, x1, x2, x3 => (if 8 ≤ x3 then (x2, σ) else (if x1 ≤ x3 then (x2, σ) else (if ((σ.2 5) x3.toNatClampNeg) = (-1) then (let q1004 := (fX5_put σ x3 (-1) 0 0); gfX5_squashBelow n q1004 x1 x2 (x3 + 1)) else (let q1005 := (fX5_put σ x3 (-1) 0 0); gfX5_squashBelow n q1005 x1 (x2 + 1) (x3 + 1)))))
def fX5_squashBelow (σ : St) (x1 : Int32) : Int32 × St := gfX5_squashBelow 9 σ x1 0 0
def rmX5_squashBelow : Room := { frames := 1, cells := 0, slots := 0, locals := 24 }
set_option maxRecDepth 100000 in
set_option maxHeartbeats 4000000 in
theorem kX5_squashBelow (l : Launch) (D : va_G) (a : Nat → Nat) (cI cZ : ClassId) (σ : St) (x1 : Int32) : Ci l yX5_squashBelow cX5_squashBelow 4 (some .int) TB rmX5_squashBelow D vwCl [(cI, .int), (cZ, .boolean)] [.ref (a 9), .int x1] (fx a cI cZ σ) (fx a cI cZ (fX5_squashBelow σ x1).2) (fX5_squashBelow σ x1).1 := by
  refine Ci_of (cc := cX5_squashBelow) (maxL := 4) (ret := (some .int)) (by decide +kernel) TBg (Nat.le_of_ble_eq_true rfl) ?_
  intro p e s m args below meth c A h hr
  have loop : ∀ (n : Nat) (σ : St) (x2 x3 : Int32), 0 ≤ x3.toInt → x3.toInt ≤ 8 → 8 < x3.toInt + n → J p l e rmX5_squashBelow s m args below meth c D vwCl A 4 0 0 (MQ below (jEi D vwCl [(cI, .int), (cZ, .boolean)] A (fx a cI cZ (gfX5_squashBelow n σ x1 x2 x3).2) (gfX5_squashBelow n σ x1 x2 x3).1) args s 0 0 A) (fx a cI cZ σ) 4 [(2, .int x2), (3, .int x3), (0, .ref (a 9)), (1, .int x1)] [] := by
    intro n
    induction n with
    | zero => intro σ x2 x3 h1 h2 h3; exact absurd h3 (by omega)
    | succ n ih =>
      intro σ x2 x3 h1 h2 h3
      refine j_iload_n h 1 dX5_squashBelow_4 rfl rfl ?_
      refine j_bipush h (v := 8) dX5_squashBelow_5 (by decide) ?_
      refine j_icmp_ge h dX5_squashBelow_7 (tgt := 42) (by decide) (fun c1001 => ?_) (fun c1001 => ?_)
      ·
        refine j_iload_n h 0 dX5_squashBelow_42 rfl rfl ?_
        have E : gfX5_squashBelow (n + 1) σ x1 x2 x3 = (x2, σ) := j_ip c1001 rfl
        exact j_ireturn h hr (congrArg Prod.fst E).symm (congrArg (fun z => fx a cI cZ z.2) E).symm dX5_squashBelow_43
      ·
        refine j_iload_n h 1 dX5_squashBelow_10 rfl rfl ?_
        refine j_iload_n h 3 dX5_squashBelow_11 rfl rfl ?_
        refine j_icmp_ge h dX5_squashBelow_12 (tgt := 42) (by decide) (fun c1002 => ?_) (fun c1002 => ?_)
        ·
          refine j_iload_n h 0 dX5_squashBelow_42 rfl rfl ?_
          have E : gfX5_squashBelow (n + 1) σ x1 x2 x3 = (x2, σ) := j_ig c1001 (j_ip c1002 rfl)
          exact j_ireturn h hr (congrArg Prod.fst E).symm (congrArg (fun z => fx a cI cZ z.2) E).symm dX5_squashBelow_43
        ·
          refine j_aload_n h 2 dX5_squashBelow_15 rfl rfl ?_
          refine j_get h iX5 9 (fx_c9 _ _ _ σ) rfl 0 (by decide) tb1_108 rfl (v := .ref (a 10)) rfl dX5_squashBelow_16 ?_
          refine j_iload_n h 1 dX5_squashBelow_19 rfl rfl ?_
          refine j_iald h 10 0 (fx_g10 (σ := σ) (F := (σ.2 5)) rfl) rfl (j_in8 (j_lo0 h1) (j_hi1 c1001)) dX5_squashBelow_20 ?_
          refine j_iconst h (v := (-1)) dX5_squashBelow_21 (by decide) ?_
          refine j_icmp_eq h dX5_squashBelow_22 (tgt := 28) (by decide) (fun c1003 => ?_) (fun c1003 => ?_)
          ·
            refine j_aload_n h 2 dX5_squashBelow_28 rfl rfl ?_
            refine j_iload_n h 1 dX5_squashBelow_29 rfl rfl ?_
            refine j_iconst h (v := (-1)) dX5_squashBelow_30 (by decide) ?_
            refine j_iconst h (v := 0) dX5_squashBelow_31 (by decide) ?_
            refine j_iconst h (v := 0) dX5_squashBelow_32 (by decide) ?_
            refine j_callVv h (kX5_put l D a cI cZ σ x3 (-1) 0 0) tb2_41 tb2_42 tb2_43 tb1_6 tb2_44 ⟨rfl, rfl⟩ (n := 4) (by decide +kernel) ⟨Nat.le_of_ble_eq_true rfl, Nat.le_of_ble_eq_true rfl⟩ (As := [.int x3, .int (-1), .int 0, .int 0]) rfl (ci := 5) (q0 := 9) rfl (fx_c9 _ _ _ σ) (st := []) rfl (Nat.le_of_ble_eq_true rfl) dX5_squashBelow_33 ⟨Nat.zero_le _, Nat.zero_le _⟩ ?_
            generalize hq1004 : (fX5_put σ x3 (-1) 0 0) = q1004
            refine j_iinc h 1 (v := (x3 + 1)) (lv' := [(3, .int (x3 + 1)), (2, .int x2), (0, .ref (a 9)), (1, .int x1)]) dX5_squashBelow_36 rfl (rfl) (by decide) rfl ?_
            refine j_goto h dX5_squashBelow_39 (tgt := 4) (by decide) ?_
            have hi := j_inc (j_hi1 c1001)
            have hl := j_toLt c1001
            have h8 : (8 : Int32).toInt = 8 := by decide
            subst hq1004
            have E : gfX5_squashBelow (n + 1) σ x1 x2 x3 = gfX5_squashBelow n (fX5_put σ x3 (-1) 0 0) x1 x2 (x3 + 1) := j_ig c1001 (j_ig c1002 (j_ip c1003 rfl))
            rw [E]
            refine j_lv [1, 0, 2, 3] rfl ?_
            exact ih (fX5_put σ x3 (-1) 0 0) x2 (x3 + 1) (by omega) (by omega) (by omega)
          ·
            refine j_iinc h 0 (v := (x2 + 1)) (lv' := [(2, .int (x2 + 1)), (3, .int x3), (0, .ref (a 9)), (1, .int x1)]) dX5_squashBelow_25 rfl (rfl) (by decide) rfl ?_
            refine j_aload_n h 2 dX5_squashBelow_28 rfl rfl ?_
            refine j_iload_n h 1 dX5_squashBelow_29 rfl rfl ?_
            refine j_iconst h (v := (-1)) dX5_squashBelow_30 (by decide) ?_
            refine j_iconst h (v := 0) dX5_squashBelow_31 (by decide) ?_
            refine j_iconst h (v := 0) dX5_squashBelow_32 (by decide) ?_
            refine j_callVv h (kX5_put l D a cI cZ σ x3 (-1) 0 0) tb2_41 tb2_42 tb2_43 tb1_6 tb2_44 ⟨rfl, rfl⟩ (n := 4) (by decide +kernel) ⟨Nat.le_of_ble_eq_true rfl, Nat.le_of_ble_eq_true rfl⟩ (As := [.int x3, .int (-1), .int 0, .int 0]) rfl (ci := 5) (q0 := 9) rfl (fx_c9 _ _ _ σ) (st := []) rfl (Nat.le_of_ble_eq_true rfl) dX5_squashBelow_33 ⟨Nat.zero_le _, Nat.zero_le _⟩ ?_
            generalize hq1005 : (fX5_put σ x3 (-1) 0 0) = q1005
            refine j_iinc h 1 (v := (x3 + 1)) (lv' := [(3, .int (x3 + 1)), (2, .int (x2 + 1)), (0, .ref (a 9)), (1, .int x1)]) dX5_squashBelow_36 rfl (rfl) (by decide) rfl ?_
            refine j_goto h dX5_squashBelow_39 (tgt := 4) (by decide) ?_
            have hi := j_inc (j_hi1 c1001)
            have hl := j_toLt c1001
            have h8 : (8 : Int32).toInt = 8 := by decide
            subst hq1005
            have E : gfX5_squashBelow (n + 1) σ x1 x2 x3 = gfX5_squashBelow n (fX5_put σ x3 (-1) 0 0) x1 (x2 + 1) (x3 + 1) := j_ig c1001 (j_ig c1002 (j_ig c1003 rfl))
            rw [E]
            refine j_lv [1, 0, 2, 3] rfl ?_
            exact ih (fX5_put σ x3 (-1) 0 0) (x2 + 1) (x3 + 1) (by omega) (by omega) (by omega)
  refine j_iconst h (v := 0) dX5_squashBelow_0 (by decide) ?_
  refine j_istore_n h (lv' := [(2, .int 0), (0, .ref (a 9)), (1, .int x1)]) dX5_squashBelow_1 rfl (by decide) rfl ?_
  refine j_iconst h (v := 0) dX5_squashBelow_2 (by decide) ?_
  refine j_istore_n h (lv' := [(3, .int 0), (2, .int 0), (0, .ref (a 9)), (1, .int x1)]) dX5_squashBelow_3 rfl (by decide) rfl ?_
  have E : fX5_squashBelow σ x1 = gfX5_squashBelow 9 σ x1 0 0 := rfl
  rw [E]
  refine j_lv [1, 0, 2, 3] rfl ?_
  exact loop 9 σ 0 0 (by decide) (by decide) (by decide)
theorem fr_gfX5_squashBelow : ∀ (n : Nat) (σ : St) (x1 x2 x3 : Int32), Fr (gfX5_squashBelow n σ x1 x2 x3).2 σ := by
  intro n
  induction n with
  | zero => intro σ x1 x2 x3; exact Fr.rf _
  | succ n ih =>
    intro σ x1 x2 x3
    by_cases c0 : 8 ≤ x3
    ·
      have E : gfX5_squashBelow (n + 1) σ x1 x2 x3 = (x2, σ) := j_ip c0 rfl
      rw [E]
      exact (Fr.rf _)
    ·
      by_cases c1 : x1 ≤ x3
      ·
        have E : gfX5_squashBelow (n + 1) σ x1 x2 x3 = (x2, σ) := j_ig c0 (j_ip c1 rfl)
        rw [E]
        exact (Fr.rf _)
      ·
        by_cases c2 : ((σ.2 5) x3.toNatClampNeg) = (-1)
        ·
          have E : gfX5_squashBelow (n + 1) σ x1 x2 x3 = gfX5_squashBelow n (fX5_put σ x3 (-1) 0 0) x1 x2 (x3 + 1) := j_ig c0 (j_ig c1 (j_ip c2 rfl))
          rw [E]
          exact (Fr.tr (ih _ _ _ _) (Fr.tr (fr_fX5_put _ _ _ _ _) (Fr.rf _)))
        ·
          have E : gfX5_squashBelow (n + 1) σ x1 x2 x3 = gfX5_squashBelow n (fX5_put σ x3 (-1) 0 0) x1 (x2 + 1) (x3 + 1) := j_ig c0 (j_ig c1 (j_ig c2 rfl))
          rw [E]
          exact (Fr.tr (ih _ _ _ _) (Fr.tr (fr_fX5_put _ _ _ _ _) (Fr.rf _)))
theorem fr_fX5_squashBelow (σ : St) (x1 : Int32) : Fr (fX5_squashBelow σ x1).2 σ := by
  have E : fX5_squashBelow σ x1 = gfX5_squashBelow 9 σ x1 0 0 := rfl
  rw [E]
  exact (Fr.tr (fr_gfX5_squashBelow _ _ _ _ _) (Fr.rf _))
def fX5_beginAnew (σ : St) : St := (let q1 := (fX5_squashBelow σ 8); q1.2)
def rmX5_beginAnew : Room := { frames := 2, cells := 0, slots := 0, locals := 47 }
set_option maxRecDepth 100000 in
set_option maxHeartbeats 4000000 in
theorem kX5_beginAnew (l : Launch) (D : va_G) (a : Nat → Nat) (cI cZ : ClassId) (σ : St) : Cv l yX5_beginAnew cX5_beginAnew 1 none TB rmX5_beginAnew D vwCl [(cI, .int), (cZ, .boolean)] [.ref (a 9)] (fx a cI cZ σ) (fun _ => (fx a cI cZ (fX5_beginAnew σ))) 0 0 := by
  refine Cv_of (cc := cX5_beginAnew) (maxL := 1) (ret := none) (by decide +kernel) TBg (Nat.le_of_ble_eq_true rfl) ?_
  intro p e s m args below meth c A h hr hname
  refine j_aload_n h 0 dX5_beginAnew_0 rfl rfl ?_
  refine j_bipush h (v := 8) dX5_beginAnew_1 (by decide) ?_
  refine j_callVi h (kX5_squashBelow l D a cI cZ σ 8) tb2_37 tb2_38 tb2_39 tb1_6 tb2_40 ⟨rfl, rfl⟩ (n := 1) (by decide +kernel) ⟨Nat.le_of_ble_eq_true rfl, Nat.le_of_ble_eq_true rfl⟩ (As := [.int 8]) rfl (ci := 5) (q0 := 9) rfl (fx_c9 _ _ _ σ) (st := []) rfl (Nat.le_of_ble_eq_true rfl) dX5_beginAnew_3 ⟨Nat.zero_le _, Nat.zero_le _⟩ ?_
  generalize hq1 : (fX5_squashBelow σ 8) = q1
  refine j_pop h dX5_beginAnew_6 rfl ?_
  subst hq1
  have E : fX5_beginAnew σ = (fX5_squashBelow σ 8).2 := rfl
  exact j_vreturn h hr (fun _ => 0) (congrArg (fx a cI cZ) E).symm dX5_beginAnew_7
theorem fr_fX5_beginAnew (σ : St) : Fr (fX5_beginAnew σ) σ := by
  have E : fX5_beginAnew σ = (fX5_squashBelow σ 8).2 := rfl
  rw [E]
  exact (Fr.tr (fr_fX5_squashBelow _ _) (Fr.rf _))
