def rmX8_isReady : Room := { frames := 2, cells := 0, slots := 0, locals := 43 }
set_option maxRecDepth 100000 in
set_option maxHeartbeats 4000000 in
theorem kX8_isReady (l : Launch) (D : va_G) (a : Nat → Nat) (cI cZ : ClassId) (σ : St) (x1 : Int32) (h1 : vp_in x1 64) (hs : shp σ) (hw : mW (σ.2 5)) : Ci l yX8_isReady cX8_isReady 2 (some .boolean) TB rmX8_isReady D vwCl [(cI, .int), (cZ, .boolean)] [.ref (a 0), .int x1] (mx a cI cZ σ) (mx a cI cZ σ) (fX8_isReady σ x1) := by
  refine Ci_of (cc := cX8_isReady) (maxL := 2) (ret := (some .boolean)) (by decide +kernel) TBg (Nat.le_of_ble_eq_true rfl) ?_
  intro p e s m args below meth c A h hr
  refine j_aload_n h 0 dX8_isReady_0 rfl rfl ?_
  refine j_iload_n h 1 dX8_isReady_1 rfl rfl ?_
  refine j_callVi h (kX8_readsA l D a cI cZ σ x1 h1) tb4_154 tb4_156 tp_23 tb1_11 tb4_157 ⟨rfl, rfl⟩ (n := 1) (by decide +kernel) ⟨Nat.le_of_ble_eq_true rfl, Nat.le_of_ble_eq_true rfl⟩ (As := [.int x1]) rfl (ci := 8) (q0 := 0) rfl (mx_c0 _ _ _ σ) (st := []) rfl (Nat.le_of_ble_eq_true rfl) dX8_isReady_2 ⟨Nat.zero_le _, Nat.zero_le _⟩ ?_
  generalize hq1 : (fX8_readsA σ x1) = q1
  refine j_if_eq h dX8_isReady_5 (tgt := 21) (by decide) (fun c2 => ?_) (fun c2 => ?_)
  ·
    refine j_aload_n h 0 dX8_isReady_21 rfl rfl ?_
    refine j_iload_n h 1 dX8_isReady_22 rfl rfl ?_
    refine j_callVi h (kX8_readsB l D a cI cZ σ x1 h1) tb4_162 tb4_164 tp_25 tb1_11 tb4_165 ⟨rfl, rfl⟩ (n := 1) (by decide +kernel) ⟨Nat.le_of_ble_eq_true rfl, Nat.le_of_ble_eq_true rfl⟩ (As := [.int x1]) rfl (ci := 8) (q0 := 0) rfl (mx_c0 _ _ _ σ) (st := []) rfl (Nat.le_of_ble_eq_true rfl) dX8_isReady_23 ⟨Nat.zero_le _, Nat.zero_le _⟩ ?_
    generalize hq3 : (fX8_readsB σ x1) = q3
    refine j_if_eq h dX8_isReady_26 (tgt := 42) (by decide) (fun c4 => ?_) (fun c4 => ?_)
    ·
      refine j_iconst h (v := 1) dX8_isReady_42 (by decide) ?_
      refine j_goto h dX8_isReady_43 (tgt := 47) (by decide) ?_
      subst hq1 hq3
      have E : fX8_isReady σ x1 = 1 := j_ip c2 (j_ip c4 rfl)
      exact j_zreturn h hr (by decide) E.symm rfl dX8_isReady_47
    ·
      refine j_aload_n h 0 dX8_isReady_29 rfl rfl ?_
      refine j_aload_n h 0 dX8_isReady_30 rfl rfl ?_
      refine j_get h iX8 0 (mx_c0 _ _ _ σ) rfl 13 (by decide) tb3_217 rfl (v := .ref (a 4)) rfl dX8_isReady_31 ?_
      refine j_iload_n h 1 dX8_isReady_34 rfl rfl ?_
      refine j_iald h 4 0 (mx_g4 (σ := σ) (F := (σ.2 3)) rfl) rfl h1 dX8_isReady_35 ?_
      refine j_callVi h (kX8_isThere l D a cI cZ σ ((σ.2 3) x1.toNatClampNeg) hs hw) tb4_158 tb4_160 tp_24 tb1_11 tb4_161 ⟨rfl, rfl⟩ (n := 1) (by decide +kernel) ⟨Nat.le_of_ble_eq_true rfl, Nat.le_of_ble_eq_true rfl⟩ (As := [.int ((σ.2 3) x1.toNatClampNeg)]) rfl (ci := 8) (q0 := 0) rfl (mx_c0 _ _ _ σ) (st := []) rfl (Nat.le_of_ble_eq_true rfl) dX8_isReady_36 ⟨Nat.zero_le _, Nat.zero_le _⟩ ?_
      generalize hq5 : (fX8_isThere σ ((σ.2 3) x1.toNatClampNeg)) = q5
      refine j_if_eq h dX8_isReady_39 (tgt := 46) (by decide) (fun c6 => ?_) (fun c6 => ?_)
      ·
        refine j_iconst h (v := 0) dX8_isReady_46 (by decide) ?_
        subst hq1 hq3 hq5
        have E : fX8_isReady σ x1 = 0 := j_ip c2 (j_ig c4 (j_ip c6 rfl))
        exact j_zreturn h hr (by decide) E.symm rfl dX8_isReady_47
      ·
        refine j_iconst h (v := 1) dX8_isReady_42 (by decide) ?_
        refine j_goto h dX8_isReady_43 (tgt := 47) (by decide) ?_
        subst hq1 hq3 hq5
        have E : fX8_isReady σ x1 = 1 := j_ip c2 (j_ig c4 (j_ig c6 rfl))
        exact j_zreturn h hr (by decide) E.symm rfl dX8_isReady_47
  ·
    refine j_aload_n h 0 dX8_isReady_8 rfl rfl ?_
    refine j_aload_n h 0 dX8_isReady_9 rfl rfl ?_
    refine j_get h iX8 0 (mx_c0 _ _ _ σ) rfl 12 (by decide) tb3_216 rfl (v := .ref (a 3)) rfl dX8_isReady_10 ?_
    refine j_iload_n h 1 dX8_isReady_13 rfl rfl ?_
    refine j_iald h 3 0 (mx_g3 (σ := σ) (F := (σ.2 2)) rfl) rfl h1 dX8_isReady_14 ?_
    refine j_callVi h (kX8_isThere l D a cI cZ σ ((σ.2 2) x1.toNatClampNeg) hs hw) tb4_158 tb4_160 tp_24 tb1_11 tb4_161 ⟨rfl, rfl⟩ (n := 1) (by decide +kernel) ⟨Nat.le_of_ble_eq_true rfl, Nat.le_of_ble_eq_true rfl⟩ (As := [.int ((σ.2 2) x1.toNatClampNeg)]) rfl (ci := 8) (q0 := 0) rfl (mx_c0 _ _ _ σ) (st := []) rfl (Nat.le_of_ble_eq_true rfl) dX8_isReady_15 ⟨Nat.zero_le _, Nat.zero_le _⟩ ?_
    generalize hq7 : (fX8_isThere σ ((σ.2 2) x1.toNatClampNeg)) = q7
    refine j_if_eq h dX8_isReady_18 (tgt := 46) (by decide) (fun c8 => ?_) (fun c8 => ?_)
    ·
      refine j_iconst h (v := 0) dX8_isReady_46 (by decide) ?_
      subst hq1 hq7
      have E : fX8_isReady σ x1 = 0 := j_ig c2 (j_ip c8 rfl)
      exact j_zreturn h hr (by decide) E.symm rfl dX8_isReady_47
    ·
      refine j_aload_n h 0 dX8_isReady_21 rfl rfl ?_
      refine j_iload_n h 1 dX8_isReady_22 rfl rfl ?_
      refine j_callVi h (kX8_readsB l D a cI cZ σ x1 h1) tb4_162 tb4_164 tp_25 tb1_11 tb4_165 ⟨rfl, rfl⟩ (n := 1) (by decide +kernel) ⟨Nat.le_of_ble_eq_true rfl, Nat.le_of_ble_eq_true rfl⟩ (As := [.int x1]) rfl (ci := 8) (q0 := 0) rfl (mx_c0 _ _ _ σ) (st := []) rfl (Nat.le_of_ble_eq_true rfl) dX8_isReady_23 ⟨Nat.zero_le _, Nat.zero_le _⟩ ?_
      generalize hq9 : (fX8_readsB σ x1) = q9
      refine j_if_eq h dX8_isReady_26 (tgt := 42) (by decide) (fun c10 => ?_) (fun c10 => ?_)
      ·
        refine j_iconst h (v := 1) dX8_isReady_42 (by decide) ?_
        refine j_goto h dX8_isReady_43 (tgt := 47) (by decide) ?_
        subst hq1 hq7 hq9
        have E : fX8_isReady σ x1 = 1 := j_ig c2 (j_ig c8 (j_ip c10 rfl))
        exact j_zreturn h hr (by decide) E.symm rfl dX8_isReady_47
      ·
        refine j_aload_n h 0 dX8_isReady_29 rfl rfl ?_
        refine j_aload_n h 0 dX8_isReady_30 rfl rfl ?_
        refine j_get h iX8 0 (mx_c0 _ _ _ σ) rfl 13 (by decide) tb3_217 rfl (v := .ref (a 4)) rfl dX8_isReady_31 ?_
        refine j_iload_n h 1 dX8_isReady_34 rfl rfl ?_
        refine j_iald h 4 0 (mx_g4 (σ := σ) (F := (σ.2 3)) rfl) rfl h1 dX8_isReady_35 ?_
        refine j_callVi h (kX8_isThere l D a cI cZ σ ((σ.2 3) x1.toNatClampNeg) hs hw) tb4_158 tb4_160 tp_24 tb1_11 tb4_161 ⟨rfl, rfl⟩ (n := 1) (by decide +kernel) ⟨Nat.le_of_ble_eq_true rfl, Nat.le_of_ble_eq_true rfl⟩ (As := [.int ((σ.2 3) x1.toNatClampNeg)]) rfl (ci := 8) (q0 := 0) rfl (mx_c0 _ _ _ σ) (st := []) rfl (Nat.le_of_ble_eq_true rfl) dX8_isReady_36 ⟨Nat.zero_le _, Nat.zero_le _⟩ ?_
        generalize hq11 : (fX8_isThere σ ((σ.2 3) x1.toNatClampNeg)) = q11
        refine j_if_eq h dX8_isReady_39 (tgt := 46) (by decide) (fun c12 => ?_) (fun c12 => ?_)
        ·
          refine j_iconst h (v := 0) dX8_isReady_46 (by decide) ?_
          subst hq1 hq7 hq9 hq11
          have E : fX8_isReady σ x1 = 0 := j_ig c2 (j_ig c8 (j_ig c10 (j_ip c12 rfl)))
          exact j_zreturn h hr (by decide) E.symm rfl dX8_isReady_47
        ·
          refine j_iconst h (v := 1) dX8_isReady_42 (by decide) ?_
          refine j_goto h dX8_isReady_43 (tgt := 47) (by decide) ?_
          subst hq1 hq7 hq9 hq11
          have E : fX8_isReady σ x1 = 1 := j_ig c2 (j_ig c8 (j_ig c10 (j_ig c12 rfl)))
          exact j_zreturn h hr (by decide) E.symm rfl dX8_isReady_47
def rmX8_moveOn : Room := { frames := 0, cells := 0, slots := 0, locals := 0 }
set_option maxRecDepth 100000 in
set_option maxHeartbeats 4000000 in
theorem kX8_moveOn (l : Launch) (D : va_G) (a : Nat → Nat) (cI cZ : ClassId) (σ : St) (x1 : Int32) (h1 : vp_in x1 8) (h2 : vp_in (x1 + 1) 8) : Cv l yX8_moveOn cX8_moveOn 2 none TB rmX8_moveOn D vwCl [(cI, .int), (cZ, .boolean)] [.ref (a 0), .int x1] (mx a cI cZ σ) (fun _ => (mx a cI cZ (fX8_moveOn σ x1))) 0 0 := by
  refine Cv_of (cc := cX8_moveOn) (maxL := 2) (ret := none) (by decide +kernel) TBg (Nat.le_of_ble_eq_true rfl) ?_
  intro p e s m args below meth c A h hr hname
  refine j_aload_n h 0 dX8_moveOn_0 rfl rfl ?_
  refine j_get h iX8 0 (mx_c0 _ _ _ σ) rfl 15 (by decide) tb3_219 rfl (v := .ref (a 6)) rfl dX8_moveOn_1 ?_
  refine j_iload_n h 1 dX8_moveOn_4 rfl rfl ?_
  refine j_iconst h (v := 1) dX8_moveOn_5 (by decide) ?_
  refine j_iadd h dX8_moveOn_6 ?_
  refine j_aload_n h 0 dX8_moveOn_7 rfl rfl ?_
  refine j_get h iX8 0 (mx_c0 _ _ _ σ) rfl 15 (by decide) tb3_219 rfl (v := .ref (a 6)) rfl dX8_moveOn_8 ?_
  refine j_iload_n h 1 dX8_moveOn_11 rfl rfl ?_
  refine j_iald h 6 0 (mx_g6 (σ := σ) (F := (σ.2 5)) rfl) rfl h1 dX8_moveOn_12 ?_
  refine j_iast h 6 0 (mx_g6 (σ := σ) (F := (σ.2 5)) rfl) rfl h2 (w' := (mx a cI cZ (ar σ 5 (upd (σ.2 5) (x1 + 1).toNatClampNeg ((σ.2 5) x1.toNatClampNeg))))) (mx_s6 _ _ _ σ _) dX8_moveOn_13 ?_
  refine j_aload_n h 0 dX8_moveOn_14 rfl rfl ?_
  refine j_get h iX8 0 (mx_c0 _ _ _ (ar σ 5 (upd (σ.2 5) (x1 + 1).toNatClampNeg ((σ.2 5) x1.toNatClampNeg)))) rfl 16 (by decide) tb3_220 rfl (v := .ref (a 7)) rfl dX8_moveOn_15 ?_
  refine j_iload_n h 1 dX8_moveOn_18 rfl rfl ?_
  refine j_iconst h (v := 1) dX8_moveOn_19 (by decide) ?_
  refine j_iadd h dX8_moveOn_20 ?_
  refine j_aload_n h 0 dX8_moveOn_21 rfl rfl ?_
  refine j_get h iX8 0 (mx_c0 _ _ _ (ar σ 5 (upd (σ.2 5) (x1 + 1).toNatClampNeg ((σ.2 5) x1.toNatClampNeg)))) rfl 16 (by decide) tb3_220 rfl (v := .ref (a 7)) rfl dX8_moveOn_22 ?_
  refine j_iload_n h 1 dX8_moveOn_25 rfl rfl ?_
  refine j_zald h 7 1 (mx_g7 (σ := (ar σ 5 (upd (σ.2 5) (x1 + 1).toNatClampNeg ((σ.2 5) x1.toNatClampNeg)))) (F := (σ.2 6)) rfl) rfl h1 dX8_moveOn_26 ?_
  refine j_zast h 7 1 (mx_g7 (σ := (ar σ 5 (upd (σ.2 5) (x1 + 1).toNatClampNeg ((σ.2 5) x1.toNatClampNeg)))) (F := (σ.2 6)) rfl) rfl h2 (w' := (mx a cI cZ (ar (ar σ 5 (upd (σ.2 5) (x1 + 1).toNatClampNeg ((σ.2 5) x1.toNatClampNeg))) 6 (upd (σ.2 6) (x1 + 1).toNatClampNeg (vp_nar .boolean ((σ.2 6) x1.toNatClampNeg)))))) (mx_s7 _ _ _ (ar σ 5 (upd (σ.2 5) (x1 + 1).toNatClampNeg ((σ.2 5) x1.toNatClampNeg))) _) dX8_moveOn_27 ?_
  refine j_aload_n h 0 dX8_moveOn_28 rfl rfl ?_
  refine j_get h iX8 0 (mx_c0 _ _ _ (ar (ar σ 5 (upd (σ.2 5) (x1 + 1).toNatClampNeg ((σ.2 5) x1.toNatClampNeg))) 6 (upd (σ.2 6) (x1 + 1).toNatClampNeg (vp_nar .boolean ((σ.2 6) x1.toNatClampNeg))))) rfl 17 (by decide) tb3_221 rfl (v := .ref (a 8)) rfl dX8_moveOn_29 ?_
  refine j_iload_n h 1 dX8_moveOn_32 rfl rfl ?_
  refine j_iconst h (v := 1) dX8_moveOn_33 (by decide) ?_
  refine j_iadd h dX8_moveOn_34 ?_
  refine j_aload_n h 0 dX8_moveOn_35 rfl rfl ?_
  refine j_get h iX8 0 (mx_c0 _ _ _ (ar (ar σ 5 (upd (σ.2 5) (x1 + 1).toNatClampNeg ((σ.2 5) x1.toNatClampNeg))) 6 (upd (σ.2 6) (x1 + 1).toNatClampNeg (vp_nar .boolean ((σ.2 6) x1.toNatClampNeg))))) rfl 17 (by decide) tb3_221 rfl (v := .ref (a 8)) rfl dX8_moveOn_36 ?_
  refine j_iload_n h 1 dX8_moveOn_39 rfl rfl ?_
  refine j_zald h 8 1 (mx_g8 (σ := (ar (ar σ 5 (upd (σ.2 5) (x1 + 1).toNatClampNeg ((σ.2 5) x1.toNatClampNeg))) 6 (upd (σ.2 6) (x1 + 1).toNatClampNeg (vp_nar .boolean ((σ.2 6) x1.toNatClampNeg))))) (F := (σ.2 7)) rfl) rfl h1 dX8_moveOn_40 ?_
  refine j_zast h 8 1 (mx_g8 (σ := (ar (ar σ 5 (upd (σ.2 5) (x1 + 1).toNatClampNeg ((σ.2 5) x1.toNatClampNeg))) 6 (upd (σ.2 6) (x1 + 1).toNatClampNeg (vp_nar .boolean ((σ.2 6) x1.toNatClampNeg))))) (F := (σ.2 7)) rfl) rfl h2 (w' := (mx a cI cZ (ar (ar (ar σ 5 (upd (σ.2 5) (x1 + 1).toNatClampNeg ((σ.2 5) x1.toNatClampNeg))) 6 (upd (σ.2 6) (x1 + 1).toNatClampNeg (vp_nar .boolean ((σ.2 6) x1.toNatClampNeg)))) 7 (upd (σ.2 7) (x1 + 1).toNatClampNeg (vp_nar .boolean ((σ.2 7) x1.toNatClampNeg)))))) (mx_s8 _ _ _ (ar (ar σ 5 (upd (σ.2 5) (x1 + 1).toNatClampNeg ((σ.2 5) x1.toNatClampNeg))) 6 (upd (σ.2 6) (x1 + 1).toNatClampNeg (vp_nar .boolean ((σ.2 6) x1.toNatClampNeg)))) _) dX8_moveOn_41 ?_
  refine j_aload_n h 0 dX8_moveOn_42 rfl rfl ?_
  refine j_get h iX8 0 (mx_c0 _ _ _ (ar (ar (ar σ 5 (upd (σ.2 5) (x1 + 1).toNatClampNeg ((σ.2 5) x1.toNatClampNeg))) 6 (upd (σ.2 6) (x1 + 1).toNatClampNeg (vp_nar .boolean ((σ.2 6) x1.toNatClampNeg)))) 7 (upd (σ.2 7) (x1 + 1).toNatClampNeg (vp_nar .boolean ((σ.2 7) x1.toNatClampNeg))))) rfl 18 (by decide) tb3_222 rfl (v := .ref (a 9)) rfl dX8_moveOn_43 ?_
  refine j_iload_n h 1 dX8_moveOn_46 rfl rfl ?_
  refine j_iconst h (v := 1) dX8_moveOn_47 (by decide) ?_
  refine j_iadd h dX8_moveOn_48 ?_
  refine j_aload_n h 0 dX8_moveOn_49 rfl rfl ?_
  refine j_get h iX8 0 (mx_c0 _ _ _ (ar (ar (ar σ 5 (upd (σ.2 5) (x1 + 1).toNatClampNeg ((σ.2 5) x1.toNatClampNeg))) 6 (upd (σ.2 6) (x1 + 1).toNatClampNeg (vp_nar .boolean ((σ.2 6) x1.toNatClampNeg)))) 7 (upd (σ.2 7) (x1 + 1).toNatClampNeg (vp_nar .boolean ((σ.2 7) x1.toNatClampNeg))))) rfl 18 (by decide) tb3_222 rfl (v := .ref (a 9)) rfl dX8_moveOn_50 ?_
  refine j_iload_n h 1 dX8_moveOn_53 rfl rfl ?_
  refine j_iald h 9 0 (mx_g9 (σ := (ar (ar (ar σ 5 (upd (σ.2 5) (x1 + 1).toNatClampNeg ((σ.2 5) x1.toNatClampNeg))) 6 (upd (σ.2 6) (x1 + 1).toNatClampNeg (vp_nar .boolean ((σ.2 6) x1.toNatClampNeg)))) 7 (upd (σ.2 7) (x1 + 1).toNatClampNeg (vp_nar .boolean ((σ.2 7) x1.toNatClampNeg))))) (F := (σ.2 16)) rfl) rfl h1 dX8_moveOn_54 ?_
  refine j_iast h 9 0 (mx_g9 (σ := (ar (ar (ar σ 5 (upd (σ.2 5) (x1 + 1).toNatClampNeg ((σ.2 5) x1.toNatClampNeg))) 6 (upd (σ.2 6) (x1 + 1).toNatClampNeg (vp_nar .boolean ((σ.2 6) x1.toNatClampNeg)))) 7 (upd (σ.2 7) (x1 + 1).toNatClampNeg (vp_nar .boolean ((σ.2 7) x1.toNatClampNeg))))) (F := (σ.2 16)) rfl) rfl h2 (w' := (mx a cI cZ (ar (ar (ar (ar σ 5 (upd (σ.2 5) (x1 + 1).toNatClampNeg ((σ.2 5) x1.toNatClampNeg))) 6 (upd (σ.2 6) (x1 + 1).toNatClampNeg (vp_nar .boolean ((σ.2 6) x1.toNatClampNeg)))) 7 (upd (σ.2 7) (x1 + 1).toNatClampNeg (vp_nar .boolean ((σ.2 7) x1.toNatClampNeg)))) 16 (upd (σ.2 16) (x1 + 1).toNatClampNeg ((σ.2 16) x1.toNatClampNeg))))) (mx_s9 _ _ _ (ar (ar (ar σ 5 (upd (σ.2 5) (x1 + 1).toNatClampNeg ((σ.2 5) x1.toNatClampNeg))) 6 (upd (σ.2 6) (x1 + 1).toNatClampNeg (vp_nar .boolean ((σ.2 6) x1.toNatClampNeg)))) 7 (upd (σ.2 7) (x1 + 1).toNatClampNeg (vp_nar .boolean ((σ.2 7) x1.toNatClampNeg)))) _) dX8_moveOn_55 ?_
  refine j_aload_n h 0 dX8_moveOn_56 rfl rfl ?_
  refine j_get h iX8 0 (mx_c0 _ _ _ (ar (ar (ar (ar σ 5 (upd (σ.2 5) (x1 + 1).toNatClampNeg ((σ.2 5) x1.toNatClampNeg))) 6 (upd (σ.2 6) (x1 + 1).toNatClampNeg (vp_nar .boolean ((σ.2 6) x1.toNatClampNeg)))) 7 (upd (σ.2 7) (x1 + 1).toNatClampNeg (vp_nar .boolean ((σ.2 7) x1.toNatClampNeg)))) 16 (upd (σ.2 16) (x1 + 1).toNatClampNeg ((σ.2 16) x1.toNatClampNeg)))) rfl 19 (by decide) tb3_223 rfl (v := .ref (a 10)) rfl dX8_moveOn_57 ?_
  refine j_iload_n h 1 dX8_moveOn_60 rfl rfl ?_
  refine j_iconst h (v := 1) dX8_moveOn_61 (by decide) ?_
  refine j_iadd h dX8_moveOn_62 ?_
  refine j_aload_n h 0 dX8_moveOn_63 rfl rfl ?_
  refine j_get h iX8 0 (mx_c0 _ _ _ (ar (ar (ar (ar σ 5 (upd (σ.2 5) (x1 + 1).toNatClampNeg ((σ.2 5) x1.toNatClampNeg))) 6 (upd (σ.2 6) (x1 + 1).toNatClampNeg (vp_nar .boolean ((σ.2 6) x1.toNatClampNeg)))) 7 (upd (σ.2 7) (x1 + 1).toNatClampNeg (vp_nar .boolean ((σ.2 7) x1.toNatClampNeg)))) 16 (upd (σ.2 16) (x1 + 1).toNatClampNeg ((σ.2 16) x1.toNatClampNeg)))) rfl 19 (by decide) tb3_223 rfl (v := .ref (a 10)) rfl dX8_moveOn_64 ?_
  refine j_iload_n h 1 dX8_moveOn_67 rfl rfl ?_
  refine j_iald h 10 0 (mx_g10 (σ := (ar (ar (ar (ar σ 5 (upd (σ.2 5) (x1 + 1).toNatClampNeg ((σ.2 5) x1.toNatClampNeg))) 6 (upd (σ.2 6) (x1 + 1).toNatClampNeg (vp_nar .boolean ((σ.2 6) x1.toNatClampNeg)))) 7 (upd (σ.2 7) (x1 + 1).toNatClampNeg (vp_nar .boolean ((σ.2 7) x1.toNatClampNeg)))) 16 (upd (σ.2 16) (x1 + 1).toNatClampNeg ((σ.2 16) x1.toNatClampNeg)))) (F := (σ.2 17)) rfl) rfl h1 dX8_moveOn_68 ?_
  refine j_iast h 10 0 (mx_g10 (σ := (ar (ar (ar (ar σ 5 (upd (σ.2 5) (x1 + 1).toNatClampNeg ((σ.2 5) x1.toNatClampNeg))) 6 (upd (σ.2 6) (x1 + 1).toNatClampNeg (vp_nar .boolean ((σ.2 6) x1.toNatClampNeg)))) 7 (upd (σ.2 7) (x1 + 1).toNatClampNeg (vp_nar .boolean ((σ.2 7) x1.toNatClampNeg)))) 16 (upd (σ.2 16) (x1 + 1).toNatClampNeg ((σ.2 16) x1.toNatClampNeg)))) (F := (σ.2 17)) rfl) rfl h2 (w' := (mx a cI cZ (ar (ar (ar (ar (ar σ 5 (upd (σ.2 5) (x1 + 1).toNatClampNeg ((σ.2 5) x1.toNatClampNeg))) 6 (upd (σ.2 6) (x1 + 1).toNatClampNeg (vp_nar .boolean ((σ.2 6) x1.toNatClampNeg)))) 7 (upd (σ.2 7) (x1 + 1).toNatClampNeg (vp_nar .boolean ((σ.2 7) x1.toNatClampNeg)))) 16 (upd (σ.2 16) (x1 + 1).toNatClampNeg ((σ.2 16) x1.toNatClampNeg))) 17 (upd (σ.2 17) (x1 + 1).toNatClampNeg ((σ.2 17) x1.toNatClampNeg))))) (mx_s10 _ _ _ (ar (ar (ar (ar σ 5 (upd (σ.2 5) (x1 + 1).toNatClampNeg ((σ.2 5) x1.toNatClampNeg))) 6 (upd (σ.2 6) (x1 + 1).toNatClampNeg (vp_nar .boolean ((σ.2 6) x1.toNatClampNeg)))) 7 (upd (σ.2 7) (x1 + 1).toNatClampNeg (vp_nar .boolean ((σ.2 7) x1.toNatClampNeg)))) 16 (upd (σ.2 16) (x1 + 1).toNatClampNeg ((σ.2 16) x1.toNatClampNeg))) _) dX8_moveOn_69 ?_
  refine j_aload_n h 0 dX8_moveOn_70 rfl rfl ?_
  refine j_get h iX8 0 (mx_c0 _ _ _ (ar (ar (ar (ar (ar σ 5 (upd (σ.2 5) (x1 + 1).toNatClampNeg ((σ.2 5) x1.toNatClampNeg))) 6 (upd (σ.2 6) (x1 + 1).toNatClampNeg (vp_nar .boolean ((σ.2 6) x1.toNatClampNeg)))) 7 (upd (σ.2 7) (x1 + 1).toNatClampNeg (vp_nar .boolean ((σ.2 7) x1.toNatClampNeg)))) 16 (upd (σ.2 16) (x1 + 1).toNatClampNeg ((σ.2 16) x1.toNatClampNeg))) 17 (upd (σ.2 17) (x1 + 1).toNatClampNeg ((σ.2 17) x1.toNatClampNeg)))) rfl 20 (by decide) tb3_224 rfl (v := .ref (a 11)) rfl dX8_moveOn_71 ?_
  refine j_iload_n h 1 dX8_moveOn_74 rfl rfl ?_
  refine j_iconst h (v := 1) dX8_moveOn_75 (by decide) ?_
  refine j_iadd h dX8_moveOn_76 ?_
  refine j_aload_n h 0 dX8_moveOn_77 rfl rfl ?_
  refine j_get h iX8 0 (mx_c0 _ _ _ (ar (ar (ar (ar (ar σ 5 (upd (σ.2 5) (x1 + 1).toNatClampNeg ((σ.2 5) x1.toNatClampNeg))) 6 (upd (σ.2 6) (x1 + 1).toNatClampNeg (vp_nar .boolean ((σ.2 6) x1.toNatClampNeg)))) 7 (upd (σ.2 7) (x1 + 1).toNatClampNeg (vp_nar .boolean ((σ.2 7) x1.toNatClampNeg)))) 16 (upd (σ.2 16) (x1 + 1).toNatClampNeg ((σ.2 16) x1.toNatClampNeg))) 17 (upd (σ.2 17) (x1 + 1).toNatClampNeg ((σ.2 17) x1.toNatClampNeg)))) rfl 20 (by decide) tb3_224 rfl (v := .ref (a 11)) rfl dX8_moveOn_78 ?_
  refine j_iload_n h 1 dX8_moveOn_81 rfl rfl ?_
  refine j_iald h 11 0 (mx_g11 (σ := (ar (ar (ar (ar (ar σ 5 (upd (σ.2 5) (x1 + 1).toNatClampNeg ((σ.2 5) x1.toNatClampNeg))) 6 (upd (σ.2 6) (x1 + 1).toNatClampNeg (vp_nar .boolean ((σ.2 6) x1.toNatClampNeg)))) 7 (upd (σ.2 7) (x1 + 1).toNatClampNeg (vp_nar .boolean ((σ.2 7) x1.toNatClampNeg)))) 16 (upd (σ.2 16) (x1 + 1).toNatClampNeg ((σ.2 16) x1.toNatClampNeg))) 17 (upd (σ.2 17) (x1 + 1).toNatClampNeg ((σ.2 17) x1.toNatClampNeg)))) (F := (σ.2 18)) rfl) rfl h1 dX8_moveOn_82 ?_
  refine j_iast h 11 0 (mx_g11 (σ := (ar (ar (ar (ar (ar σ 5 (upd (σ.2 5) (x1 + 1).toNatClampNeg ((σ.2 5) x1.toNatClampNeg))) 6 (upd (σ.2 6) (x1 + 1).toNatClampNeg (vp_nar .boolean ((σ.2 6) x1.toNatClampNeg)))) 7 (upd (σ.2 7) (x1 + 1).toNatClampNeg (vp_nar .boolean ((σ.2 7) x1.toNatClampNeg)))) 16 (upd (σ.2 16) (x1 + 1).toNatClampNeg ((σ.2 16) x1.toNatClampNeg))) 17 (upd (σ.2 17) (x1 + 1).toNatClampNeg ((σ.2 17) x1.toNatClampNeg)))) (F := (σ.2 18)) rfl) rfl h2 (w' := (mx a cI cZ (ar (ar (ar (ar (ar (ar σ 5 (upd (σ.2 5) (x1 + 1).toNatClampNeg ((σ.2 5) x1.toNatClampNeg))) 6 (upd (σ.2 6) (x1 + 1).toNatClampNeg (vp_nar .boolean ((σ.2 6) x1.toNatClampNeg)))) 7 (upd (σ.2 7) (x1 + 1).toNatClampNeg (vp_nar .boolean ((σ.2 7) x1.toNatClampNeg)))) 16 (upd (σ.2 16) (x1 + 1).toNatClampNeg ((σ.2 16) x1.toNatClampNeg))) 17 (upd (σ.2 17) (x1 + 1).toNatClampNeg ((σ.2 17) x1.toNatClampNeg))) 18 (upd (σ.2 18) (x1 + 1).toNatClampNeg ((σ.2 18) x1.toNatClampNeg))))) (mx_s11 _ _ _ (ar (ar (ar (ar (ar σ 5 (upd (σ.2 5) (x1 + 1).toNatClampNeg ((σ.2 5) x1.toNatClampNeg))) 6 (upd (σ.2 6) (x1 + 1).toNatClampNeg (vp_nar .boolean ((σ.2 6) x1.toNatClampNeg)))) 7 (upd (σ.2 7) (x1 + 1).toNatClampNeg (vp_nar .boolean ((σ.2 7) x1.toNatClampNeg)))) 16 (upd (σ.2 16) (x1 + 1).toNatClampNeg ((σ.2 16) x1.toNatClampNeg))) 17 (upd (σ.2 17) (x1 + 1).toNatClampNeg ((σ.2 17) x1.toNatClampNeg))) _) dX8_moveOn_83 ?_
  refine j_aload_n h 0 dX8_moveOn_84 rfl rfl ?_
  refine j_get h iX8 0 (mx_c0 _ _ _ (ar (ar (ar (ar (ar (ar σ 5 (upd (σ.2 5) (x1 + 1).toNatClampNeg ((σ.2 5) x1.toNatClampNeg))) 6 (upd (σ.2 6) (x1 + 1).toNatClampNeg (vp_nar .boolean ((σ.2 6) x1.toNatClampNeg)))) 7 (upd (σ.2 7) (x1 + 1).toNatClampNeg (vp_nar .boolean ((σ.2 7) x1.toNatClampNeg)))) 16 (upd (σ.2 16) (x1 + 1).toNatClampNeg ((σ.2 16) x1.toNatClampNeg))) 17 (upd (σ.2 17) (x1 + 1).toNatClampNeg ((σ.2 17) x1.toNatClampNeg))) 18 (upd (σ.2 18) (x1 + 1).toNatClampNeg ((σ.2 18) x1.toNatClampNeg)))) rfl 21 (by decide) tb3_225 rfl (v := .ref (a 12)) rfl dX8_moveOn_85 ?_
  refine j_iload_n h 1 dX8_moveOn_88 rfl rfl ?_
  refine j_iconst h (v := 1) dX8_moveOn_89 (by decide) ?_
  refine j_iadd h dX8_moveOn_90 ?_
  refine j_aload_n h 0 dX8_moveOn_91 rfl rfl ?_
  refine j_get h iX8 0 (mx_c0 _ _ _ (ar (ar (ar (ar (ar (ar σ 5 (upd (σ.2 5) (x1 + 1).toNatClampNeg ((σ.2 5) x1.toNatClampNeg))) 6 (upd (σ.2 6) (x1 + 1).toNatClampNeg (vp_nar .boolean ((σ.2 6) x1.toNatClampNeg)))) 7 (upd (σ.2 7) (x1 + 1).toNatClampNeg (vp_nar .boolean ((σ.2 7) x1.toNatClampNeg)))) 16 (upd (σ.2 16) (x1 + 1).toNatClampNeg ((σ.2 16) x1.toNatClampNeg))) 17 (upd (σ.2 17) (x1 + 1).toNatClampNeg ((σ.2 17) x1.toNatClampNeg))) 18 (upd (σ.2 18) (x1 + 1).toNatClampNeg ((σ.2 18) x1.toNatClampNeg)))) rfl 21 (by decide) tb3_225 rfl (v := .ref (a 12)) rfl dX8_moveOn_92 ?_
  refine j_iload_n h 1 dX8_moveOn_95 rfl rfl ?_
  refine j_iald h 12 0 (mx_g12 (σ := (ar (ar (ar (ar (ar (ar σ 5 (upd (σ.2 5) (x1 + 1).toNatClampNeg ((σ.2 5) x1.toNatClampNeg))) 6 (upd (σ.2 6) (x1 + 1).toNatClampNeg (vp_nar .boolean ((σ.2 6) x1.toNatClampNeg)))) 7 (upd (σ.2 7) (x1 + 1).toNatClampNeg (vp_nar .boolean ((σ.2 7) x1.toNatClampNeg)))) 16 (upd (σ.2 16) (x1 + 1).toNatClampNeg ((σ.2 16) x1.toNatClampNeg))) 17 (upd (σ.2 17) (x1 + 1).toNatClampNeg ((σ.2 17) x1.toNatClampNeg))) 18 (upd (σ.2 18) (x1 + 1).toNatClampNeg ((σ.2 18) x1.toNatClampNeg)))) (F := (σ.2 19)) rfl) rfl h1 dX8_moveOn_96 ?_
  refine j_iast h 12 0 (mx_g12 (σ := (ar (ar (ar (ar (ar (ar σ 5 (upd (σ.2 5) (x1 + 1).toNatClampNeg ((σ.2 5) x1.toNatClampNeg))) 6 (upd (σ.2 6) (x1 + 1).toNatClampNeg (vp_nar .boolean ((σ.2 6) x1.toNatClampNeg)))) 7 (upd (σ.2 7) (x1 + 1).toNatClampNeg (vp_nar .boolean ((σ.2 7) x1.toNatClampNeg)))) 16 (upd (σ.2 16) (x1 + 1).toNatClampNeg ((σ.2 16) x1.toNatClampNeg))) 17 (upd (σ.2 17) (x1 + 1).toNatClampNeg ((σ.2 17) x1.toNatClampNeg))) 18 (upd (σ.2 18) (x1 + 1).toNatClampNeg ((σ.2 18) x1.toNatClampNeg)))) (F := (σ.2 19)) rfl) rfl h2 (w' := (mx a cI cZ (ar (ar (ar (ar (ar (ar (ar σ 5 (upd (σ.2 5) (x1 + 1).toNatClampNeg ((σ.2 5) x1.toNatClampNeg))) 6 (upd (σ.2 6) (x1 + 1).toNatClampNeg (vp_nar .boolean ((σ.2 6) x1.toNatClampNeg)))) 7 (upd (σ.2 7) (x1 + 1).toNatClampNeg (vp_nar .boolean ((σ.2 7) x1.toNatClampNeg)))) 16 (upd (σ.2 16) (x1 + 1).toNatClampNeg ((σ.2 16) x1.toNatClampNeg))) 17 (upd (σ.2 17) (x1 + 1).toNatClampNeg ((σ.2 17) x1.toNatClampNeg))) 18 (upd (σ.2 18) (x1 + 1).toNatClampNeg ((σ.2 18) x1.toNatClampNeg))) 19 (upd (σ.2 19) (x1 + 1).toNatClampNeg ((σ.2 19) x1.toNatClampNeg))))) (mx_s12 _ _ _ (ar (ar (ar (ar (ar (ar σ 5 (upd (σ.2 5) (x1 + 1).toNatClampNeg ((σ.2 5) x1.toNatClampNeg))) 6 (upd (σ.2 6) (x1 + 1).toNatClampNeg (vp_nar .boolean ((σ.2 6) x1.toNatClampNeg)))) 7 (upd (σ.2 7) (x1 + 1).toNatClampNeg (vp_nar .boolean ((σ.2 7) x1.toNatClampNeg)))) 16 (upd (σ.2 16) (x1 + 1).toNatClampNeg ((σ.2 16) x1.toNatClampNeg))) 17 (upd (σ.2 17) (x1 + 1).toNatClampNeg ((σ.2 17) x1.toNatClampNeg))) 18 (upd (σ.2 18) (x1 + 1).toNatClampNeg ((σ.2 18) x1.toNatClampNeg))) _) dX8_moveOn_97 ?_
  refine j_aload_n h 0 dX8_moveOn_98 rfl rfl ?_
  refine j_get h iX8 0 (mx_c0 _ _ _ (ar (ar (ar (ar (ar (ar (ar σ 5 (upd (σ.2 5) (x1 + 1).toNatClampNeg ((σ.2 5) x1.toNatClampNeg))) 6 (upd (σ.2 6) (x1 + 1).toNatClampNeg (vp_nar .boolean ((σ.2 6) x1.toNatClampNeg)))) 7 (upd (σ.2 7) (x1 + 1).toNatClampNeg (vp_nar .boolean ((σ.2 7) x1.toNatClampNeg)))) 16 (upd (σ.2 16) (x1 + 1).toNatClampNeg ((σ.2 16) x1.toNatClampNeg))) 17 (upd (σ.2 17) (x1 + 1).toNatClampNeg ((σ.2 17) x1.toNatClampNeg))) 18 (upd (σ.2 18) (x1 + 1).toNatClampNeg ((σ.2 18) x1.toNatClampNeg))) 19 (upd (σ.2 19) (x1 + 1).toNatClampNeg ((σ.2 19) x1.toNatClampNeg)))) rfl 15 (by decide) tb3_219 rfl (v := .ref (a 6)) rfl dX8_moveOn_99 ?_
  refine j_iload_n h 1 dX8_moveOn_102 rfl rfl ?_
  refine j_iconst h (v := (-1)) dX8_moveOn_103 (by decide) ?_
  refine j_iast h 6 0 (mx_g6 (σ := (ar (ar (ar (ar (ar (ar (ar σ 5 (upd (σ.2 5) (x1 + 1).toNatClampNeg ((σ.2 5) x1.toNatClampNeg))) 6 (upd (σ.2 6) (x1 + 1).toNatClampNeg (vp_nar .boolean ((σ.2 6) x1.toNatClampNeg)))) 7 (upd (σ.2 7) (x1 + 1).toNatClampNeg (vp_nar .boolean ((σ.2 7) x1.toNatClampNeg)))) 16 (upd (σ.2 16) (x1 + 1).toNatClampNeg ((σ.2 16) x1.toNatClampNeg))) 17 (upd (σ.2 17) (x1 + 1).toNatClampNeg ((σ.2 17) x1.toNatClampNeg))) 18 (upd (σ.2 18) (x1 + 1).toNatClampNeg ((σ.2 18) x1.toNatClampNeg))) 19 (upd (σ.2 19) (x1 + 1).toNatClampNeg ((σ.2 19) x1.toNatClampNeg)))) (F := (upd (σ.2 5) (x1 + 1).toNatClampNeg ((σ.2 5) x1.toNatClampNeg))) rfl) rfl h1 (w' := (mx a cI cZ (ar (ar (ar (ar (ar (ar (ar (ar σ 5 (upd (σ.2 5) (x1 + 1).toNatClampNeg ((σ.2 5) x1.toNatClampNeg))) 6 (upd (σ.2 6) (x1 + 1).toNatClampNeg (vp_nar .boolean ((σ.2 6) x1.toNatClampNeg)))) 7 (upd (σ.2 7) (x1 + 1).toNatClampNeg (vp_nar .boolean ((σ.2 7) x1.toNatClampNeg)))) 16 (upd (σ.2 16) (x1 + 1).toNatClampNeg ((σ.2 16) x1.toNatClampNeg))) 17 (upd (σ.2 17) (x1 + 1).toNatClampNeg ((σ.2 17) x1.toNatClampNeg))) 18 (upd (σ.2 18) (x1 + 1).toNatClampNeg ((σ.2 18) x1.toNatClampNeg))) 19 (upd (σ.2 19) (x1 + 1).toNatClampNeg ((σ.2 19) x1.toNatClampNeg))) 5 (upd (upd (σ.2 5) (x1 + 1).toNatClampNeg ((σ.2 5) x1.toNatClampNeg)) x1.toNatClampNeg (-1))))) (mx_s6 _ _ _ (ar (ar (ar (ar (ar (ar (ar σ 5 (upd (σ.2 5) (x1 + 1).toNatClampNeg ((σ.2 5) x1.toNatClampNeg))) 6 (upd (σ.2 6) (x1 + 1).toNatClampNeg (vp_nar .boolean ((σ.2 6) x1.toNatClampNeg)))) 7 (upd (σ.2 7) (x1 + 1).toNatClampNeg (vp_nar .boolean ((σ.2 7) x1.toNatClampNeg)))) 16 (upd (σ.2 16) (x1 + 1).toNatClampNeg ((σ.2 16) x1.toNatClampNeg))) 17 (upd (σ.2 17) (x1 + 1).toNatClampNeg ((σ.2 17) x1.toNatClampNeg))) 18 (upd (σ.2 18) (x1 + 1).toNatClampNeg ((σ.2 18) x1.toNatClampNeg))) 19 (upd (σ.2 19) (x1 + 1).toNatClampNeg ((σ.2 19) x1.toNatClampNeg))) _) dX8_moveOn_104 ?_
  have E : fX8_moveOn σ x1 = (ar (ar (ar (ar (ar (ar (ar (ar σ 5 (upd (σ.2 5) (x1 + 1).toNatClampNeg ((σ.2 5) x1.toNatClampNeg))) 6 (upd (σ.2 6) (x1 + 1).toNatClampNeg (vp_nar .boolean ((σ.2 6) x1.toNatClampNeg)))) 7 (upd (σ.2 7) (x1 + 1).toNatClampNeg (vp_nar .boolean ((σ.2 7) x1.toNatClampNeg)))) 16 (upd (σ.2 16) (x1 + 1).toNatClampNeg ((σ.2 16) x1.toNatClampNeg))) 17 (upd (σ.2 17) (x1 + 1).toNatClampNeg ((σ.2 17) x1.toNatClampNeg))) 18 (upd (σ.2 18) (x1 + 1).toNatClampNeg ((σ.2 18) x1.toNatClampNeg))) 19 (upd (σ.2 19) (x1 + 1).toNatClampNeg ((σ.2 19) x1.toNatClampNeg))) 5 (upd (upd (σ.2 5) (x1 + 1).toNatClampNeg ((σ.2 5) x1.toNatClampNeg)) x1.toNatClampNeg (-1))) := rfl
  exact j_vreturn h hr (fun _ => 0) (congrArg (mx a cI cZ) E).symm dX8_moveOn_105
def rmX8_squash : Room := { frames := 0, cells := 0, slots := 0, locals := 0 }
set_option maxRecDepth 100000 in
set_option maxHeartbeats 4000000 in
theorem kX8_squash (l : Launch) (D : va_G) (a : Nat → Nat) (cI cZ : ClassId) (σ : St) (x1 x2 : Int32) (h1 : x1.toInt ≤ 8) (h2 : ¬ (σ.1 6) = 0) : Cv l yX8_squash cX8_squash 4 none TB rmX8_squash D vwCl [(cI, .int), (cZ, .boolean)] [.ref (a 0), .int x1, .int x2] (mx a cI cZ σ) (fun _ => (mx a cI cZ (fX8_squash σ x1 x2))) 0 0 := by
  refine Cv_of (cc := cX8_squash) (maxL := 4) (ret := none) (by decide +kernel) TBg (Nat.le_of_ble_eq_true rfl) ?_
  intro p e s m args below meth c A h hr hname
  have loop : ∀ (n : Nat) (σ : St) (x3 : Int32), ¬ (σ.1 6) = 0 → 0 ≤ x3.toInt → x3.toInt ≤ 8 → 8 < x3.toInt + n → J p l e rmX8_squash s m args below meth c D vwCl A 4 0 0 (MQ below (jEv D vwCl [(cI, .int), (cZ, .boolean)] A (fun _ => mx a cI cZ (gfX8_squash n σ x1 x2 x3))) args s 0 0 A) (mx a cI cZ σ) 2 [(3, .int x3), (0, .ref (a 0)), (1, .int x1), (2, .int x2)] [] := by
    intro n
    induction n with
    | zero => intro σ x3 h2 h3 h4 h5; exact absurd h5 (by omega)
    | succ n ih =>
      intro σ x3 h2 h3 h4 h5
      refine j_iload_n h 0 dX8_squash_2 rfl rfl ?_
      refine j_iload_n h 2 dX8_squash_3 rfl rfl ?_
      refine j_icmp_ge h dX8_squash_4 (tgt := 43) (by decide) (fun c1001 => ?_) (fun c1001 => ?_)
      ·
        refine j_aload_n h 1 dX8_squash_43 rfl rfl ?_
        refine j_iload_n h 3 dX8_squash_44 rfl rfl ?_
        refine j_aload_n h 1 dX8_squash_45 rfl rfl ?_
        refine j_get h iX8 0 (mx_c0 _ _ _ σ) rfl 9 (by decide) tb3_213 rfl (v := .int (σ.1 6)) rfl dX8_squash_46 ?_
        refine j_irem h dX8_squash_49 h2 ?_
        refine j_put h iX8 tyX8 tyX8_ok nmX8 0 (mx_c0 _ _ _ σ) rfl 26 (by decide) tb3_230 rfl rfl rfl rfl (Nat.le_of_ble_eq_true rfl) (w' := (mx a cI cZ (sg σ 18 (x2 - x2 / (σ.1 6) * (σ.1 6))))) (mx_p0_26 _ _ _ σ _) dX8_squash_50 ?_
        refine j_aload_n h 1 dX8_squash_53 rfl rfl ?_
        refine j_iconst h (v := 0) dX8_squash_54 (by decide) ?_
        refine j_put h iX8 tyX8 tyX8_ok nmX8 0 (mx_c0 _ _ _ (sg σ 18 (x2 - x2 / (σ.1 6) * (σ.1 6)))) rfl 27 (by decide) tb3_231 rfl rfl rfl rfl (Nat.le_of_ble_eq_true rfl) (w' := (mx a cI cZ (sg (sg σ 18 (x2 - x2 / (σ.1 6) * (σ.1 6))) 19 0))) (mx_p0_27 _ _ _ (sg σ 18 (x2 - x2 / (σ.1 6) * (σ.1 6))) _) dX8_squash_55 ?_
        refine j_aload_n h 1 dX8_squash_58 rfl rfl ?_
        refine j_iconst h (v := 0) dX8_squash_59 (by decide) ?_
        refine j_put h iX8 tyX8 tyX8_ok nmX8 0 (mx_c0 _ _ _ (sg (sg σ 18 (x2 - x2 / (σ.1 6) * (σ.1 6))) 19 0)) rfl 30 (by decide) tb3_234 rfl rfl rfl rfl (Nat.le_of_ble_eq_true rfl) (w' := (mx a cI cZ (sg (sg (sg σ 18 (x2 - x2 / (σ.1 6) * (σ.1 6))) 19 0) 21 0))) (mx_p0_30 _ _ _ (sg (sg σ 18 (x2 - x2 / (σ.1 6) * (σ.1 6))) 19 0) _) dX8_squash_60 ?_
        have E : gfX8_squash (n + 1) σ x1 x2 x3 = (sg (sg (sg σ 18 (x2 - x2 / (σ.1 6) * (σ.1 6))) 19 0) 21 0) := j_ip c1001 rfl
        exact j_vreturn h hr (fun _ => 0) (congrArg (mx a cI cZ) E).symm dX8_squash_63
      ·
        refine j_aload_n h 1 dX8_squash_7 rfl rfl ?_
        refine j_dup h dX8_squash_8 rfl ?_
        refine j_get h iX8 0 (mx_c0 _ _ _ σ) rfl 34 (by decide) tb3_238 rfl (v := .int (σ.1 12)) rfl dX8_squash_9 ?_
        refine j_aload_n h 1 dX8_squash_12 rfl rfl ?_
        refine j_get h iX8 0 (mx_c0 _ _ _ σ) rfl 15 (by decide) tb3_219 rfl (v := .ref (a 6)) rfl dX8_squash_13 ?_
        refine j_iload_n h 0 dX8_squash_16 rfl rfl ?_
        refine j_iald h 6 0 (mx_g6 (σ := σ) (F := (σ.2 5)) rfl) rfl (m_s h3 (by have := j_toLt c1001; omega)) dX8_squash_17 ?_
        refine j_if_lt h dX8_squash_18 (tgt := 25) (by decide) (fun c1002 => ?_) (fun c1002 => ?_)
        ·
          refine j_iconst h (v := 0) dX8_squash_25 (by decide) ?_
          refine j_iadd h dX8_squash_26 ?_
          refine j_put h iX8 tyX8 tyX8_ok nmX8 0 (mx_c0 _ _ _ σ) rfl 34 (by decide) tb3_238 rfl rfl rfl rfl (Nat.le_of_ble_eq_true rfl) (w' := (mx a cI cZ (sg σ 12 ((σ.1 12) + 0)))) (mx_p0_34 _ _ _ σ _) dX8_squash_27 ?_
          refine j_aload_n h 1 dX8_squash_30 rfl rfl ?_
          refine j_get h iX8 0 (mx_c0 _ _ _ (sg σ 12 ((σ.1 12) + 0))) rfl 15 (by decide) tb3_219 rfl (v := .ref (a 6)) rfl dX8_squash_31 ?_
          refine j_iload_n h 0 dX8_squash_34 rfl rfl ?_
          refine j_iconst h (v := (-1)) dX8_squash_35 (by decide) ?_
          refine j_iast h 6 0 (mx_g6 (σ := (sg σ 12 ((σ.1 12) + 0))) (F := (σ.2 5)) rfl) rfl (m_s h3 (by have := j_toLt c1001; omega)) (w' := (mx a cI cZ (ar (sg σ 12 ((σ.1 12) + 0)) 5 (upd (σ.2 5) x3.toNatClampNeg (-1))))) (mx_s6 _ _ _ (sg σ 12 ((σ.1 12) + 0)) _) dX8_squash_36 ?_
          refine j_iinc h 0 (v := (x3 + 1)) (lv' := [(3, .int (x3 + 1)), (0, .ref (a 0)), (1, .int x1), (2, .int x2)]) dX8_squash_37 rfl (rfl) (by decide) rfl ?_
          refine j_goto h dX8_squash_40 (tgt := 2) (by decide) ?_
          have hi := j_inc (j_hi1 c1001)
          have hl := j_toLt c1001
          have E : gfX8_squash (n + 1) σ x1 x2 x3 = gfX8_squash n (ar (sg σ 12 ((σ.1 12) + 0)) 5 (upd (σ.2 5) x3.toNatClampNeg (-1))) x1 x2 (x3 + 1) := j_ig c1001 (j_ip c1002 rfl)
          rw [E]
          refine j_lv [0, 1, 2, 3] rfl ?_
          exact ih (ar (sg σ 12 ((σ.1 12) + 0)) 5 (upd (σ.2 5) x3.toNatClampNeg (-1))) (x3 + 1) h2 (by omega) (by omega) (by omega)
        ·
          refine j_iconst h (v := 1) dX8_squash_21 (by decide) ?_
          refine j_goto h dX8_squash_22 (tgt := 26) (by decide) ?_
          refine j_iadd h dX8_squash_26 ?_
          refine j_put h iX8 tyX8 tyX8_ok nmX8 0 (mx_c0 _ _ _ σ) rfl 34 (by decide) tb3_238 rfl rfl rfl rfl (Nat.le_of_ble_eq_true rfl) (w' := (mx a cI cZ (sg σ 12 ((σ.1 12) + 1)))) (mx_p0_34 _ _ _ σ _) dX8_squash_27 ?_
          refine j_aload_n h 1 dX8_squash_30 rfl rfl ?_
          refine j_get h iX8 0 (mx_c0 _ _ _ (sg σ 12 ((σ.1 12) + 1))) rfl 15 (by decide) tb3_219 rfl (v := .ref (a 6)) rfl dX8_squash_31 ?_
          refine j_iload_n h 0 dX8_squash_34 rfl rfl ?_
          refine j_iconst h (v := (-1)) dX8_squash_35 (by decide) ?_
          refine j_iast h 6 0 (mx_g6 (σ := (sg σ 12 ((σ.1 12) + 1))) (F := (σ.2 5)) rfl) rfl (m_s h3 (by have := j_toLt c1001; omega)) (w' := (mx a cI cZ (ar (sg σ 12 ((σ.1 12) + 1)) 5 (upd (σ.2 5) x3.toNatClampNeg (-1))))) (mx_s6 _ _ _ (sg σ 12 ((σ.1 12) + 1)) _) dX8_squash_36 ?_
          refine j_iinc h 0 (v := (x3 + 1)) (lv' := [(3, .int (x3 + 1)), (0, .ref (a 0)), (1, .int x1), (2, .int x2)]) dX8_squash_37 rfl (rfl) (by decide) rfl ?_
          refine j_goto h dX8_squash_40 (tgt := 2) (by decide) ?_
          have hi := j_inc (j_hi1 c1001)
          have hl := j_toLt c1001
          have E : gfX8_squash (n + 1) σ x1 x2 x3 = gfX8_squash n (ar (sg σ 12 ((σ.1 12) + 1)) 5 (upd (σ.2 5) x3.toNatClampNeg (-1))) x1 x2 (x3 + 1) := j_ig c1001 (j_ig c1002 rfl)
          rw [E]
          refine j_lv [0, 1, 2, 3] rfl ?_
          exact ih (ar (sg σ 12 ((σ.1 12) + 1)) 5 (upd (σ.2 5) x3.toNatClampNeg (-1))) (x3 + 1) h2 (by omega) (by omega) (by omega)
  refine j_iconst h (v := 0) dX8_squash_0 (by decide) ?_
  refine j_istore_n h (lv' := [(3, .int 0), (0, .ref (a 0)), (1, .int x1), (2, .int x2)]) dX8_squash_1 rfl (by decide) rfl ?_
  have E : fX8_squash σ x1 x2 = gfX8_squash 9 σ x1 x2 0 := rfl
  rw [E]
  refine j_lv [0, 1, 2, 3] rfl ?_
  exact loop 9 σ 0 h2 (by decide) (by decide) (by decide)
def rmX8_know : Room := { frames := 1, cells := 0, slots := 0, locals := 23 }
set_option maxRecDepth 100000 in
set_option maxHeartbeats 4000000 in
theorem kX8_know (l : Launch) (D : va_G) (a : Nat → Nat) (cI cZ : ClassId) (σ : St) (x1 x2 : Int32) (h1 : x1.toInt ≤ 8) (h2 : ¬ (σ.1 6) = 0) : Cv l yX8_know cX8_know 3 none TB rmX8_know D vwCl [(cI, .int), (cZ, .boolean)] [.ref (a 0), .int x1, .int x2] (mx a cI cZ σ) (fun _ => (mx a cI cZ (fX8_know σ x1 x2))) 0 0 := by
  refine Cv_of (cc := cX8_know) (maxL := 3) (ret := none) (by decide +kernel) TBg (Nat.le_of_ble_eq_true rfl) ?_
  intro p e s m args below meth c A h hr hname
  refine j_iload_n h 2 dX8_know_0 rfl rfl ?_
  refine j_if_ge h dX8_know_1 (tgt := 5) (by decide) (fun c1 => ?_) (fun c1 => ?_)
  ·
    refine j_aload_n h 0 dX8_know_5 rfl rfl ?_
    refine j_dup h dX8_know_6 rfl ?_
    refine j_get h iX8 0 (mx_c0 _ _ _ σ) rfl 36 (by decide) tb4_0 rfl (v := .int (σ.1 14)) rfl dX8_know_7 ?_
    refine j_iconst h (v := 1) dX8_know_10 (by decide) ?_
    refine j_iadd h dX8_know_11 ?_
    refine j_put h iX8 tyX8 tyX8_ok nmX8 0 (mx_c0 _ _ _ σ) rfl 36 (by decide) tb4_0 rfl rfl rfl rfl (Nat.le_of_ble_eq_true rfl) (w' := (mx a cI cZ (sg σ 14 ((σ.1 14) + 1)))) (mx_p0_36 _ _ _ σ _) dX8_know_12 ?_
    refine j_aload_n h 0 dX8_know_15 rfl rfl ?_
    refine j_iload_n h 1 dX8_know_16 rfl rfl ?_
    refine j_iload_n h 2 dX8_know_17 rfl rfl ?_
    refine j_callVv h (kX8_squash l D a cI cZ (sg σ 14 ((σ.1 14) + 1)) x1 x2 h1 h2) tb4_126 tb4_128 tp_16 tb1_11 tb4_129 ⟨rfl, rfl⟩ (n := 2) (by decide +kernel) ⟨Nat.le_of_ble_eq_true rfl, Nat.le_of_ble_eq_true rfl⟩ (As := [.int x1, .int x2]) rfl (ci := 8) (q0 := 0) rfl (mx_c0 _ _ _ (sg σ 14 ((σ.1 14) + 1))) (st := []) rfl (Nat.le_of_ble_eq_true rfl) dX8_know_18 ⟨Nat.zero_le _, Nat.zero_le _⟩ ?_
    generalize hq2 : (fX8_squash (sg σ 14 ((σ.1 14) + 1)) x1 x2) = q2
    subst hq2
    have E : fX8_know σ x1 x2 = (fX8_squash (sg σ 14 ((σ.1 14) + 1)) x1 x2) := j_ip c1 rfl
    exact j_vreturn h hr (fun _ => 0) (congrArg (mx a cI cZ) E).symm dX8_know_21
  ·
    have E : fX8_know σ x1 x2 = σ := j_ig c1 rfl
    exact j_vreturn h hr (fun _ => 0) (congrArg (mx a cI cZ) E).symm dX8_know_4
def rmX8_commit : Room := { frames := 1, cells := 0, slots := 0, locals := 21 }
set_option maxRecDepth 100000 in
set_option maxHeartbeats 4000000 in
theorem kX8_commit (l : Launch) (D : va_G) (a : Nat → Nat) (cI cZ : ClassId) (σ : St) (x1 : Int32) (h1 : vp_in x1 8) (h2 : vp_in ((σ.2 5) x1.toNatClampNeg) 64) (hR : mR σ) (hp : mP (σ.2 18)) (hc : 0 ≤ (σ.1 10).toInt) : Cv l yX8_commit cX8_commit 4 none TB rmX8_commit D vwCl [(cI, .int), (cZ, .boolean)] [.ref (a 0), .int x1] (mx a cI cZ σ) (fun _ => (mx a cI cZ (fX8_commit σ x1))) 0 0 := by
  refine Cv_of (cc := cX8_commit) (maxL := 4) (ret := none) (by decide +kernel) TBg (Nat.le_of_ble_eq_true rfl) ?_
  intro p e s m args below meth c A h hr hname
  refine j_aload_n h 0 dX8_commit_0 rfl rfl ?_
  refine j_get h iX8 0 (mx_c0 _ _ _ σ) rfl 15 (by decide) tb3_219 rfl (v := .ref (a 6)) rfl dX8_commit_1 ?_
  refine j_iload_n h 1 dX8_commit_4 rfl rfl ?_
  refine j_iald h 6 0 (mx_g6 (σ := σ) (F := (σ.2 5)) rfl) rfl h1 dX8_commit_5 ?_
  refine j_istore_n h (lv' := [(2, .int ((σ.2 5) x1.toNatClampNeg)), (0, .ref (a 0)), (1, .int x1)]) dX8_commit_6 rfl (by decide) rfl ?_
  refine j_aload_n h 1 dX8_commit_7 rfl rfl ?_
  refine j_iload_n h 0 dX8_commit_8 rfl rfl ?_
  refine j_callVi h (kX8_writes l D a cI cZ σ ((σ.2 5) x1.toNatClampNeg) h2) tb4_134 tb4_136 tp_18 tb1_11 tb4_137 ⟨rfl, rfl⟩ (n := 1) (by decide +kernel) ⟨Nat.le_of_ble_eq_true rfl, Nat.le_of_ble_eq_true rfl⟩ (As := [.int ((σ.2 5) x1.toNatClampNeg)]) rfl (ci := 8) (q0 := 0) rfl (mx_c0 _ _ _ σ) (st := []) rfl (Nat.le_of_ble_eq_true rfl) dX8_commit_9 ⟨Nat.zero_le _, Nat.zero_le _⟩ ?_
  generalize hq1 : (fX8_writes σ ((σ.2 5) x1.toNatClampNeg)) = q1
  refine j_if_eq h dX8_commit_12 (tgt := 32) (by decide) (fun c2 => ?_) (fun c2 => ?_)
  ·
    refine j_aload_n h 1 dX8_commit_32 rfl rfl ?_
    refine j_get h iX8 0 (mx_c0 _ _ _ σ) rfl 10 (by decide) tb3_214 rfl (v := .ref (a 1)) rfl dX8_commit_33 ?_
    refine j_iload_n h 0 dX8_commit_36 rfl rfl ?_
    refine j_iald h 1 0 (mx_g1 (σ := σ) (F := (σ.2 0)) rfl) rfl h2 dX8_commit_37 ?_
    refine j_iconst h (v := 2) dX8_commit_38 (by decide) ?_
    refine j_icmp_ne h dX8_commit_39 (tgt := 59) (by decide) (fun c3 => ?_) (fun c3 => ?_)
    ·
      refine j_aload_n h 1 dX8_commit_59 rfl rfl ?_
      refine j_get h iX8 0 (mx_c0 _ _ _ σ) rfl 32 (by decide) tb3_236 rfl (v := .int (σ.1 10)) rfl dX8_commit_60 ?_
      refine j_sipush h (v := 400) dX8_commit_63 (by decide) ?_
      refine j_irem h dX8_commit_66 (by decide) ?_
      refine j_istore_n h (lv' := [(3, .int ((σ.1 10) - (σ.1 10) / 400 * 400)), (2, .int ((σ.2 5) x1.toNatClampNeg)), (0, .ref (a 0)), (1, .int x1)]) dX8_commit_67 rfl (by decide) rfl ?_
      refine j_aload_n h 2 dX8_commit_68 rfl rfl ?_
      refine j_get h iX8 0 (mx_c0 _ _ _ σ) rfl 38 (by decide) tb4_2 rfl (v := .ref (a 18)) rfl dX8_commit_69 ?_
      refine j_iload_n h 0 dX8_commit_72 rfl rfl ?_
      refine j_iload_n h 1 dX8_commit_73 rfl rfl ?_
      refine j_iast h 18 0 (mx_g18 (σ := σ) (F := (σ.2 8)) rfl) rfl (m_rem400 hc) (w' := (mx a cI cZ (ar σ 8 (upd (σ.2 8) ((σ.1 10) - (σ.1 10) / 400 * 400).toNatClampNeg ((σ.2 5) x1.toNatClampNeg))))) (mx_s18 _ _ _ σ _) dX8_commit_74 ?_
      refine j_aload_n h 2 dX8_commit_75 rfl rfl ?_
      refine j_get h iX8 0 (mx_c0 _ _ _ (ar σ 8 (upd (σ.2 8) ((σ.1 10) - (σ.1 10) / 400 * 400).toNatClampNeg ((σ.2 5) x1.toNatClampNeg)))) rfl 39 (by decide) tb4_3 rfl (v := .ref (a 19)) rfl dX8_commit_76 ?_
      refine j_iload_n h 0 dX8_commit_79 rfl rfl ?_
      refine j_aload_n h 2 dX8_commit_80 rfl rfl ?_
      refine j_get h iX8 0 (mx_c0 _ _ _ (ar σ 8 (upd (σ.2 8) ((σ.1 10) - (σ.1 10) / 400 * 400).toNatClampNeg ((σ.2 5) x1.toNatClampNeg)))) rfl 31 (by decide) tb3_235 rfl (v := .int (σ.1 9)) rfl dX8_commit_81 ?_
      refine j_iast h 19 0 (mx_g19 (σ := (ar σ 8 (upd (σ.2 8) ((σ.1 10) - (σ.1 10) / 400 * 400).toNatClampNeg ((σ.2 5) x1.toNatClampNeg)))) (F := (σ.2 9)) rfl) rfl (m_rem400 hc) (w' := (mx a cI cZ (ar (ar σ 8 (upd (σ.2 8) ((σ.1 10) - (σ.1 10) / 400 * 400).toNatClampNeg ((σ.2 5) x1.toNatClampNeg))) 9 (upd (σ.2 9) ((σ.1 10) - (σ.1 10) / 400 * 400).toNatClampNeg (σ.1 9))))) (mx_s19 _ _ _ (ar σ 8 (upd (σ.2 8) ((σ.1 10) - (σ.1 10) / 400 * 400).toNatClampNeg ((σ.2 5) x1.toNatClampNeg))) _) dX8_commit_84 ?_
      refine j_aload_n h 2 dX8_commit_85 rfl rfl ?_
      refine j_get h iX8 0 (mx_c0 _ _ _ (ar (ar σ 8 (upd (σ.2 8) ((σ.1 10) - (σ.1 10) / 400 * 400).toNatClampNeg ((σ.2 5) x1.toNatClampNeg))) 9 (upd (σ.2 9) ((σ.1 10) - (σ.1 10) / 400 * 400).toNatClampNeg (σ.1 9)))) rfl 40 (by decide) tb4_4 rfl (v := .ref (a 20)) rfl dX8_commit_86 ?_
      refine j_iload_n h 0 dX8_commit_89 rfl rfl ?_
      refine j_aload_n h 2 dX8_commit_90 rfl rfl ?_
      refine j_get h iX8 0 (mx_c0 _ _ _ (ar (ar σ 8 (upd (σ.2 8) ((σ.1 10) - (σ.1 10) / 400 * 400).toNatClampNeg ((σ.2 5) x1.toNatClampNeg))) 9 (upd (σ.2 9) ((σ.1 10) - (σ.1 10) / 400 * 400).toNatClampNeg (σ.1 9)))) rfl 19 (by decide) tb3_223 rfl (v := .ref (a 10)) rfl dX8_commit_91 ?_
      refine j_iload_n h 3 dX8_commit_94 rfl rfl ?_
      refine j_iald h 10 0 (mx_g10 (σ := (ar (ar σ 8 (upd (σ.2 8) ((σ.1 10) - (σ.1 10) / 400 * 400).toNatClampNeg ((σ.2 5) x1.toNatClampNeg))) 9 (upd (σ.2 9) ((σ.1 10) - (σ.1 10) / 400 * 400).toNatClampNeg (σ.1 9)))) (F := (σ.2 17)) rfl) rfl h1 dX8_commit_95 ?_
      refine j_iast h 20 0 (mx_g20 (σ := (ar (ar σ 8 (upd (σ.2 8) ((σ.1 10) - (σ.1 10) / 400 * 400).toNatClampNeg ((σ.2 5) x1.toNatClampNeg))) 9 (upd (σ.2 9) ((σ.1 10) - (σ.1 10) / 400 * 400).toNatClampNeg (σ.1 9)))) (F := (σ.2 10)) rfl) rfl (m_rem400 hc) (w' := (mx a cI cZ (ar (ar (ar σ 8 (upd (σ.2 8) ((σ.1 10) - (σ.1 10) / 400 * 400).toNatClampNeg ((σ.2 5) x1.toNatClampNeg))) 9 (upd (σ.2 9) ((σ.1 10) - (σ.1 10) / 400 * 400).toNatClampNeg (σ.1 9))) 10 (upd (σ.2 10) ((σ.1 10) - (σ.1 10) / 400 * 400).toNatClampNeg ((σ.2 17) x1.toNatClampNeg))))) (mx_s20 _ _ _ (ar (ar σ 8 (upd (σ.2 8) ((σ.1 10) - (σ.1 10) / 400 * 400).toNatClampNeg ((σ.2 5) x1.toNatClampNeg))) 9 (upd (σ.2 9) ((σ.1 10) - (σ.1 10) / 400 * 400).toNatClampNeg (σ.1 9))) _) dX8_commit_96 ?_
      refine j_aload_n h 2 dX8_commit_97 rfl rfl ?_
      refine j_dup h dX8_commit_98 rfl ?_
      refine j_get h iX8 0 (mx_c0 _ _ _ (ar (ar (ar σ 8 (upd (σ.2 8) ((σ.1 10) - (σ.1 10) / 400 * 400).toNatClampNeg ((σ.2 5) x1.toNatClampNeg))) 9 (upd (σ.2 9) ((σ.1 10) - (σ.1 10) / 400 * 400).toNatClampNeg (σ.1 9))) 10 (upd (σ.2 10) ((σ.1 10) - (σ.1 10) / 400 * 400).toNatClampNeg ((σ.2 17) x1.toNatClampNeg)))) rfl 32 (by decide) tb3_236 rfl (v := .int (σ.1 10)) rfl dX8_commit_99 ?_
      refine j_iconst h (v := 1) dX8_commit_102 (by decide) ?_
      refine j_iadd h dX8_commit_103 ?_
      refine j_put h iX8 tyX8 tyX8_ok nmX8 0 (mx_c0 _ _ _ (ar (ar (ar σ 8 (upd (σ.2 8) ((σ.1 10) - (σ.1 10) / 400 * 400).toNatClampNeg ((σ.2 5) x1.toNatClampNeg))) 9 (upd (σ.2 9) ((σ.1 10) - (σ.1 10) / 400 * 400).toNatClampNeg (σ.1 9))) 10 (upd (σ.2 10) ((σ.1 10) - (σ.1 10) / 400 * 400).toNatClampNeg ((σ.2 17) x1.toNatClampNeg)))) rfl 32 (by decide) tb3_236 rfl rfl rfl rfl (Nat.le_of_ble_eq_true rfl) (w' := (mx a cI cZ (sg (ar (ar (ar σ 8 (upd (σ.2 8) ((σ.1 10) - (σ.1 10) / 400 * 400).toNatClampNeg ((σ.2 5) x1.toNatClampNeg))) 9 (upd (σ.2 9) ((σ.1 10) - (σ.1 10) / 400 * 400).toNatClampNeg (σ.1 9))) 10 (upd (σ.2 10) ((σ.1 10) - (σ.1 10) / 400 * 400).toNatClampNeg ((σ.2 17) x1.toNatClampNeg))) 10 ((σ.1 10) + 1)))) (mx_p0_32 _ _ _ (ar (ar (ar σ 8 (upd (σ.2 8) ((σ.1 10) - (σ.1 10) / 400 * 400).toNatClampNeg ((σ.2 5) x1.toNatClampNeg))) 9 (upd (σ.2 9) ((σ.1 10) - (σ.1 10) / 400 * 400).toNatClampNeg (σ.1 9))) 10 (upd (σ.2 10) ((σ.1 10) - (σ.1 10) / 400 * 400).toNatClampNeg ((σ.2 17) x1.toNatClampNeg))) _) dX8_commit_104 ?_
      subst hq1
      have E : fX8_commit σ x1 = (sg (ar (ar (ar σ 8 (upd (σ.2 8) ((σ.1 10) - (σ.1 10) / 400 * 400).toNatClampNeg ((σ.2 5) x1.toNatClampNeg))) 9 (upd (σ.2 9) ((σ.1 10) - (σ.1 10) / 400 * 400).toNatClampNeg (σ.1 9))) 10 (upd (σ.2 10) ((σ.1 10) - (σ.1 10) / 400 * 400).toNatClampNeg ((σ.2 17) x1.toNatClampNeg))) 10 ((σ.1 10) + 1)) := j_ip c2 (j_ig c3 rfl)
      exact j_vreturn h hr (fun _ => 0) (congrArg (mx a cI cZ) E).symm dX8_commit_107
    ·
      refine j_aload_n h 1 dX8_commit_42 rfl rfl ?_
      refine j_get h iX8 0 (mx_c0 _ _ _ σ) rfl 25 (by decide) tb3_229 rfl (v := .ref (a 16)) rfl dX8_commit_43 ?_
      refine j_aload_n h 1 dX8_commit_46 rfl rfl ?_
      refine j_get h iX8 0 (mx_c0 _ _ _ σ) rfl 20 (by decide) tb3_224 rfl (v := .ref (a 11)) rfl dX8_commit_47 ?_
      refine j_iload_n h 2 dX8_commit_50 rfl rfl ?_
      refine j_iald h 11 0 (mx_g11 (σ := σ) (F := (σ.2 18)) rfl) rfl h1 dX8_commit_51 ?_
      refine j_aload_n h 1 dX8_commit_52 rfl rfl ?_
      refine j_get h iX8 0 (mx_c0 _ _ _ σ) rfl 19 (by decide) tb3_223 rfl (v := .ref (a 10)) rfl dX8_commit_53 ?_
      refine j_iload_n h 2 dX8_commit_56 rfl rfl ?_
      refine j_iald h 10 0 (mx_g10 (σ := σ) (F := (σ.2 17)) rfl) rfl h1 dX8_commit_57 ?_
      refine j_iast h 16 0 (mx_g16 (σ := σ) (F := (σ.2 15)) rfl) rfl (hp _ (m_cl h1 (by decide))) (w' := (mx a cI cZ (ar σ 15 (upd (σ.2 15) ((σ.2 18) x1.toNatClampNeg).toNatClampNeg ((σ.2 17) x1.toNatClampNeg))))) (mx_s16 _ _ _ σ _) dX8_commit_58 ?_
      refine j_aload_n h 1 dX8_commit_59 rfl rfl ?_
      refine j_get h iX8 0 (mx_c0 _ _ _ (ar σ 15 (upd (σ.2 15) ((σ.2 18) x1.toNatClampNeg).toNatClampNeg ((σ.2 17) x1.toNatClampNeg)))) rfl 32 (by decide) tb3_236 rfl (v := .int (σ.1 10)) rfl dX8_commit_60 ?_
      refine j_sipush h (v := 400) dX8_commit_63 (by decide) ?_
      refine j_irem h dX8_commit_66 (by decide) ?_
      refine j_istore_n h (lv' := [(3, .int ((σ.1 10) - (σ.1 10) / 400 * 400)), (2, .int ((σ.2 5) x1.toNatClampNeg)), (0, .ref (a 0)), (1, .int x1)]) dX8_commit_67 rfl (by decide) rfl ?_
      refine j_aload_n h 2 dX8_commit_68 rfl rfl ?_
      refine j_get h iX8 0 (mx_c0 _ _ _ (ar σ 15 (upd (σ.2 15) ((σ.2 18) x1.toNatClampNeg).toNatClampNeg ((σ.2 17) x1.toNatClampNeg)))) rfl 38 (by decide) tb4_2 rfl (v := .ref (a 18)) rfl dX8_commit_69 ?_
      refine j_iload_n h 0 dX8_commit_72 rfl rfl ?_
      refine j_iload_n h 1 dX8_commit_73 rfl rfl ?_
      refine j_iast h 18 0 (mx_g18 (σ := (ar σ 15 (upd (σ.2 15) ((σ.2 18) x1.toNatClampNeg).toNatClampNeg ((σ.2 17) x1.toNatClampNeg)))) (F := (σ.2 8)) rfl) rfl (m_rem400 hc) (w' := (mx a cI cZ (ar (ar σ 15 (upd (σ.2 15) ((σ.2 18) x1.toNatClampNeg).toNatClampNeg ((σ.2 17) x1.toNatClampNeg))) 8 (upd (σ.2 8) ((σ.1 10) - (σ.1 10) / 400 * 400).toNatClampNeg ((σ.2 5) x1.toNatClampNeg))))) (mx_s18 _ _ _ (ar σ 15 (upd (σ.2 15) ((σ.2 18) x1.toNatClampNeg).toNatClampNeg ((σ.2 17) x1.toNatClampNeg))) _) dX8_commit_74 ?_
      refine j_aload_n h 2 dX8_commit_75 rfl rfl ?_
      refine j_get h iX8 0 (mx_c0 _ _ _ (ar (ar σ 15 (upd (σ.2 15) ((σ.2 18) x1.toNatClampNeg).toNatClampNeg ((σ.2 17) x1.toNatClampNeg))) 8 (upd (σ.2 8) ((σ.1 10) - (σ.1 10) / 400 * 400).toNatClampNeg ((σ.2 5) x1.toNatClampNeg)))) rfl 39 (by decide) tb4_3 rfl (v := .ref (a 19)) rfl dX8_commit_76 ?_
      refine j_iload_n h 0 dX8_commit_79 rfl rfl ?_
      refine j_aload_n h 2 dX8_commit_80 rfl rfl ?_
      refine j_get h iX8 0 (mx_c0 _ _ _ (ar (ar σ 15 (upd (σ.2 15) ((σ.2 18) x1.toNatClampNeg).toNatClampNeg ((σ.2 17) x1.toNatClampNeg))) 8 (upd (σ.2 8) ((σ.1 10) - (σ.1 10) / 400 * 400).toNatClampNeg ((σ.2 5) x1.toNatClampNeg)))) rfl 31 (by decide) tb3_235 rfl (v := .int (σ.1 9)) rfl dX8_commit_81 ?_
      refine j_iast h 19 0 (mx_g19 (σ := (ar (ar σ 15 (upd (σ.2 15) ((σ.2 18) x1.toNatClampNeg).toNatClampNeg ((σ.2 17) x1.toNatClampNeg))) 8 (upd (σ.2 8) ((σ.1 10) - (σ.1 10) / 400 * 400).toNatClampNeg ((σ.2 5) x1.toNatClampNeg)))) (F := (σ.2 9)) rfl) rfl (m_rem400 hc) (w' := (mx a cI cZ (ar (ar (ar σ 15 (upd (σ.2 15) ((σ.2 18) x1.toNatClampNeg).toNatClampNeg ((σ.2 17) x1.toNatClampNeg))) 8 (upd (σ.2 8) ((σ.1 10) - (σ.1 10) / 400 * 400).toNatClampNeg ((σ.2 5) x1.toNatClampNeg))) 9 (upd (σ.2 9) ((σ.1 10) - (σ.1 10) / 400 * 400).toNatClampNeg (σ.1 9))))) (mx_s19 _ _ _ (ar (ar σ 15 (upd (σ.2 15) ((σ.2 18) x1.toNatClampNeg).toNatClampNeg ((σ.2 17) x1.toNatClampNeg))) 8 (upd (σ.2 8) ((σ.1 10) - (σ.1 10) / 400 * 400).toNatClampNeg ((σ.2 5) x1.toNatClampNeg))) _) dX8_commit_84 ?_
      refine j_aload_n h 2 dX8_commit_85 rfl rfl ?_
      refine j_get h iX8 0 (mx_c0 _ _ _ (ar (ar (ar σ 15 (upd (σ.2 15) ((σ.2 18) x1.toNatClampNeg).toNatClampNeg ((σ.2 17) x1.toNatClampNeg))) 8 (upd (σ.2 8) ((σ.1 10) - (σ.1 10) / 400 * 400).toNatClampNeg ((σ.2 5) x1.toNatClampNeg))) 9 (upd (σ.2 9) ((σ.1 10) - (σ.1 10) / 400 * 400).toNatClampNeg (σ.1 9)))) rfl 40 (by decide) tb4_4 rfl (v := .ref (a 20)) rfl dX8_commit_86 ?_
      refine j_iload_n h 0 dX8_commit_89 rfl rfl ?_
      refine j_aload_n h 2 dX8_commit_90 rfl rfl ?_
      refine j_get h iX8 0 (mx_c0 _ _ _ (ar (ar (ar σ 15 (upd (σ.2 15) ((σ.2 18) x1.toNatClampNeg).toNatClampNeg ((σ.2 17) x1.toNatClampNeg))) 8 (upd (σ.2 8) ((σ.1 10) - (σ.1 10) / 400 * 400).toNatClampNeg ((σ.2 5) x1.toNatClampNeg))) 9 (upd (σ.2 9) ((σ.1 10) - (σ.1 10) / 400 * 400).toNatClampNeg (σ.1 9)))) rfl 19 (by decide) tb3_223 rfl (v := .ref (a 10)) rfl dX8_commit_91 ?_
      refine j_iload_n h 3 dX8_commit_94 rfl rfl ?_
      refine j_iald h 10 0 (mx_g10 (σ := (ar (ar (ar σ 15 (upd (σ.2 15) ((σ.2 18) x1.toNatClampNeg).toNatClampNeg ((σ.2 17) x1.toNatClampNeg))) 8 (upd (σ.2 8) ((σ.1 10) - (σ.1 10) / 400 * 400).toNatClampNeg ((σ.2 5) x1.toNatClampNeg))) 9 (upd (σ.2 9) ((σ.1 10) - (σ.1 10) / 400 * 400).toNatClampNeg (σ.1 9)))) (F := (σ.2 17)) rfl) rfl h1 dX8_commit_95 ?_
      refine j_iast h 20 0 (mx_g20 (σ := (ar (ar (ar σ 15 (upd (σ.2 15) ((σ.2 18) x1.toNatClampNeg).toNatClampNeg ((σ.2 17) x1.toNatClampNeg))) 8 (upd (σ.2 8) ((σ.1 10) - (σ.1 10) / 400 * 400).toNatClampNeg ((σ.2 5) x1.toNatClampNeg))) 9 (upd (σ.2 9) ((σ.1 10) - (σ.1 10) / 400 * 400).toNatClampNeg (σ.1 9)))) (F := (σ.2 10)) rfl) rfl (m_rem400 hc) (w' := (mx a cI cZ (ar (ar (ar (ar σ 15 (upd (σ.2 15) ((σ.2 18) x1.toNatClampNeg).toNatClampNeg ((σ.2 17) x1.toNatClampNeg))) 8 (upd (σ.2 8) ((σ.1 10) - (σ.1 10) / 400 * 400).toNatClampNeg ((σ.2 5) x1.toNatClampNeg))) 9 (upd (σ.2 9) ((σ.1 10) - (σ.1 10) / 400 * 400).toNatClampNeg (σ.1 9))) 10 (upd (σ.2 10) ((σ.1 10) - (σ.1 10) / 400 * 400).toNatClampNeg ((σ.2 17) x1.toNatClampNeg))))) (mx_s20 _ _ _ (ar (ar (ar σ 15 (upd (σ.2 15) ((σ.2 18) x1.toNatClampNeg).toNatClampNeg ((σ.2 17) x1.toNatClampNeg))) 8 (upd (σ.2 8) ((σ.1 10) - (σ.1 10) / 400 * 400).toNatClampNeg ((σ.2 5) x1.toNatClampNeg))) 9 (upd (σ.2 9) ((σ.1 10) - (σ.1 10) / 400 * 400).toNatClampNeg (σ.1 9))) _) dX8_commit_96 ?_
      refine j_aload_n h 2 dX8_commit_97 rfl rfl ?_
      refine j_dup h dX8_commit_98 rfl ?_
      refine j_get h iX8 0 (mx_c0 _ _ _ (ar (ar (ar (ar σ 15 (upd (σ.2 15) ((σ.2 18) x1.toNatClampNeg).toNatClampNeg ((σ.2 17) x1.toNatClampNeg))) 8 (upd (σ.2 8) ((σ.1 10) - (σ.1 10) / 400 * 400).toNatClampNeg ((σ.2 5) x1.toNatClampNeg))) 9 (upd (σ.2 9) ((σ.1 10) - (σ.1 10) / 400 * 400).toNatClampNeg (σ.1 9))) 10 (upd (σ.2 10) ((σ.1 10) - (σ.1 10) / 400 * 400).toNatClampNeg ((σ.2 17) x1.toNatClampNeg)))) rfl 32 (by decide) tb3_236 rfl (v := .int (σ.1 10)) rfl dX8_commit_99 ?_
      refine j_iconst h (v := 1) dX8_commit_102 (by decide) ?_
      refine j_iadd h dX8_commit_103 ?_
      refine j_put h iX8 tyX8 tyX8_ok nmX8 0 (mx_c0 _ _ _ (ar (ar (ar (ar σ 15 (upd (σ.2 15) ((σ.2 18) x1.toNatClampNeg).toNatClampNeg ((σ.2 17) x1.toNatClampNeg))) 8 (upd (σ.2 8) ((σ.1 10) - (σ.1 10) / 400 * 400).toNatClampNeg ((σ.2 5) x1.toNatClampNeg))) 9 (upd (σ.2 9) ((σ.1 10) - (σ.1 10) / 400 * 400).toNatClampNeg (σ.1 9))) 10 (upd (σ.2 10) ((σ.1 10) - (σ.1 10) / 400 * 400).toNatClampNeg ((σ.2 17) x1.toNatClampNeg)))) rfl 32 (by decide) tb3_236 rfl rfl rfl rfl (Nat.le_of_ble_eq_true rfl) (w' := (mx a cI cZ (sg (ar (ar (ar (ar σ 15 (upd (σ.2 15) ((σ.2 18) x1.toNatClampNeg).toNatClampNeg ((σ.2 17) x1.toNatClampNeg))) 8 (upd (σ.2 8) ((σ.1 10) - (σ.1 10) / 400 * 400).toNatClampNeg ((σ.2 5) x1.toNatClampNeg))) 9 (upd (σ.2 9) ((σ.1 10) - (σ.1 10) / 400 * 400).toNatClampNeg (σ.1 9))) 10 (upd (σ.2 10) ((σ.1 10) - (σ.1 10) / 400 * 400).toNatClampNeg ((σ.2 17) x1.toNatClampNeg))) 10 ((σ.1 10) + 1)))) (mx_p0_32 _ _ _ (ar (ar (ar (ar σ 15 (upd (σ.2 15) ((σ.2 18) x1.toNatClampNeg).toNatClampNeg ((σ.2 17) x1.toNatClampNeg))) 8 (upd (σ.2 8) ((σ.1 10) - (σ.1 10) / 400 * 400).toNatClampNeg ((σ.2 5) x1.toNatClampNeg))) 9 (upd (σ.2 9) ((σ.1 10) - (σ.1 10) / 400 * 400).toNatClampNeg (σ.1 9))) 10 (upd (σ.2 10) ((σ.1 10) - (σ.1 10) / 400 * 400).toNatClampNeg ((σ.2 17) x1.toNatClampNeg))) _) dX8_commit_104 ?_
      subst hq1
      have E : fX8_commit σ x1 = (sg (ar (ar (ar (ar σ 15 (upd (σ.2 15) ((σ.2 18) x1.toNatClampNeg).toNatClampNeg ((σ.2 17) x1.toNatClampNeg))) 8 (upd (σ.2 8) ((σ.1 10) - (σ.1 10) / 400 * 400).toNatClampNeg ((σ.2 5) x1.toNatClampNeg))) 9 (upd (σ.2 9) ((σ.1 10) - (σ.1 10) / 400 * 400).toNatClampNeg (σ.1 9))) 10 (upd (σ.2 10) ((σ.1 10) - (σ.1 10) / 400 * 400).toNatClampNeg ((σ.2 17) x1.toNatClampNeg))) 10 ((σ.1 10) + 1)) := j_ip c2 (j_ip c3 rfl)
      exact j_vreturn h hr (fun _ => 0) (congrArg (mx a cI cZ) E).symm dX8_commit_107
  ·
    refine j_aload_n h 1 dX8_commit_15 rfl rfl ?_
    refine j_get h iX8 0 (mx_c0 _ _ _ σ) rfl 24 (by decide) tb3_228 rfl (v := .ref (a 15)) rfl dX8_commit_16 ?_
    refine j_aload_n h 1 dX8_commit_19 rfl rfl ?_
    refine j_get h iX8 0 (mx_c0 _ _ _ σ) rfl 11 (by decide) tb3_215 rfl (v := .ref (a 2)) rfl dX8_commit_20 ?_
    refine j_iload_n h 0 dX8_commit_23 rfl rfl ?_
    refine j_iald h 2 0 (mx_g2 (σ := σ) (F := (σ.2 1)) rfl) rfl h2 dX8_commit_24 ?_
    refine j_aload_n h 1 dX8_commit_25 rfl rfl ?_
    refine j_get h iX8 0 (mx_c0 _ _ _ σ) rfl 19 (by decide) tb3_223 rfl (v := .ref (a 10)) rfl dX8_commit_26 ?_
    refine j_iload_n h 2 dX8_commit_29 rfl rfl ?_
    refine j_iald h 10 0 (mx_g10 (σ := σ) (F := (σ.2 17)) rfl) rfl h1 dX8_commit_30 ?_
    refine j_iast h 15 0 (mx_g15 (σ := σ) (F := (σ.2 14)) rfl) rfl (hR _ (m_cl h2 (by decide))).1 (w' := (mx a cI cZ (ar σ 14 (upd (σ.2 14) ((σ.2 1) ((σ.2 5) x1.toNatClampNeg).toNatClampNeg).toNatClampNeg ((σ.2 17) x1.toNatClampNeg))))) (mx_s15 _ _ _ σ _) dX8_commit_31 ?_
    refine j_aload_n h 1 dX8_commit_32 rfl rfl ?_
    refine j_get h iX8 0 (mx_c0 _ _ _ (ar σ 14 (upd (σ.2 14) ((σ.2 1) ((σ.2 5) x1.toNatClampNeg).toNatClampNeg).toNatClampNeg ((σ.2 17) x1.toNatClampNeg)))) rfl 10 (by decide) tb3_214 rfl (v := .ref (a 1)) rfl dX8_commit_33 ?_
    refine j_iload_n h 0 dX8_commit_36 rfl rfl ?_
    refine j_iald h 1 0 (mx_g1 (σ := (ar σ 14 (upd (σ.2 14) ((σ.2 1) ((σ.2 5) x1.toNatClampNeg).toNatClampNeg).toNatClampNeg ((σ.2 17) x1.toNatClampNeg)))) (F := (σ.2 0)) rfl) rfl h2 dX8_commit_37 ?_
    refine j_iconst h (v := 2) dX8_commit_38 (by decide) ?_
    refine j_icmp_ne h dX8_commit_39 (tgt := 59) (by decide) (fun c4 => ?_) (fun c4 => ?_)
    ·
      refine j_aload_n h 1 dX8_commit_59 rfl rfl ?_
      refine j_get h iX8 0 (mx_c0 _ _ _ (ar σ 14 (upd (σ.2 14) ((σ.2 1) ((σ.2 5) x1.toNatClampNeg).toNatClampNeg).toNatClampNeg ((σ.2 17) x1.toNatClampNeg)))) rfl 32 (by decide) tb3_236 rfl (v := .int (σ.1 10)) rfl dX8_commit_60 ?_
      refine j_sipush h (v := 400) dX8_commit_63 (by decide) ?_
      refine j_irem h dX8_commit_66 (by decide) ?_
      refine j_istore_n h (lv' := [(3, .int ((σ.1 10) - (σ.1 10) / 400 * 400)), (2, .int ((σ.2 5) x1.toNatClampNeg)), (0, .ref (a 0)), (1, .int x1)]) dX8_commit_67 rfl (by decide) rfl ?_
      refine j_aload_n h 2 dX8_commit_68 rfl rfl ?_
      refine j_get h iX8 0 (mx_c0 _ _ _ (ar σ 14 (upd (σ.2 14) ((σ.2 1) ((σ.2 5) x1.toNatClampNeg).toNatClampNeg).toNatClampNeg ((σ.2 17) x1.toNatClampNeg)))) rfl 38 (by decide) tb4_2 rfl (v := .ref (a 18)) rfl dX8_commit_69 ?_
      refine j_iload_n h 0 dX8_commit_72 rfl rfl ?_
      refine j_iload_n h 1 dX8_commit_73 rfl rfl ?_
      refine j_iast h 18 0 (mx_g18 (σ := (ar σ 14 (upd (σ.2 14) ((σ.2 1) ((σ.2 5) x1.toNatClampNeg).toNatClampNeg).toNatClampNeg ((σ.2 17) x1.toNatClampNeg)))) (F := (σ.2 8)) rfl) rfl (m_rem400 hc) (w' := (mx a cI cZ (ar (ar σ 14 (upd (σ.2 14) ((σ.2 1) ((σ.2 5) x1.toNatClampNeg).toNatClampNeg).toNatClampNeg ((σ.2 17) x1.toNatClampNeg))) 8 (upd (σ.2 8) ((σ.1 10) - (σ.1 10) / 400 * 400).toNatClampNeg ((σ.2 5) x1.toNatClampNeg))))) (mx_s18 _ _ _ (ar σ 14 (upd (σ.2 14) ((σ.2 1) ((σ.2 5) x1.toNatClampNeg).toNatClampNeg).toNatClampNeg ((σ.2 17) x1.toNatClampNeg))) _) dX8_commit_74 ?_
      refine j_aload_n h 2 dX8_commit_75 rfl rfl ?_
      refine j_get h iX8 0 (mx_c0 _ _ _ (ar (ar σ 14 (upd (σ.2 14) ((σ.2 1) ((σ.2 5) x1.toNatClampNeg).toNatClampNeg).toNatClampNeg ((σ.2 17) x1.toNatClampNeg))) 8 (upd (σ.2 8) ((σ.1 10) - (σ.1 10) / 400 * 400).toNatClampNeg ((σ.2 5) x1.toNatClampNeg)))) rfl 39 (by decide) tb4_3 rfl (v := .ref (a 19)) rfl dX8_commit_76 ?_
      refine j_iload_n h 0 dX8_commit_79 rfl rfl ?_
      refine j_aload_n h 2 dX8_commit_80 rfl rfl ?_
      refine j_get h iX8 0 (mx_c0 _ _ _ (ar (ar σ 14 (upd (σ.2 14) ((σ.2 1) ((σ.2 5) x1.toNatClampNeg).toNatClampNeg).toNatClampNeg ((σ.2 17) x1.toNatClampNeg))) 8 (upd (σ.2 8) ((σ.1 10) - (σ.1 10) / 400 * 400).toNatClampNeg ((σ.2 5) x1.toNatClampNeg)))) rfl 31 (by decide) tb3_235 rfl (v := .int (σ.1 9)) rfl dX8_commit_81 ?_
      refine j_iast h 19 0 (mx_g19 (σ := (ar (ar σ 14 (upd (σ.2 14) ((σ.2 1) ((σ.2 5) x1.toNatClampNeg).toNatClampNeg).toNatClampNeg ((σ.2 17) x1.toNatClampNeg))) 8 (upd (σ.2 8) ((σ.1 10) - (σ.1 10) / 400 * 400).toNatClampNeg ((σ.2 5) x1.toNatClampNeg)))) (F := (σ.2 9)) rfl) rfl (m_rem400 hc) (w' := (mx a cI cZ (ar (ar (ar σ 14 (upd (σ.2 14) ((σ.2 1) ((σ.2 5) x1.toNatClampNeg).toNatClampNeg).toNatClampNeg ((σ.2 17) x1.toNatClampNeg))) 8 (upd (σ.2 8) ((σ.1 10) - (σ.1 10) / 400 * 400).toNatClampNeg ((σ.2 5) x1.toNatClampNeg))) 9 (upd (σ.2 9) ((σ.1 10) - (σ.1 10) / 400 * 400).toNatClampNeg (σ.1 9))))) (mx_s19 _ _ _ (ar (ar σ 14 (upd (σ.2 14) ((σ.2 1) ((σ.2 5) x1.toNatClampNeg).toNatClampNeg).toNatClampNeg ((σ.2 17) x1.toNatClampNeg))) 8 (upd (σ.2 8) ((σ.1 10) - (σ.1 10) / 400 * 400).toNatClampNeg ((σ.2 5) x1.toNatClampNeg))) _) dX8_commit_84 ?_
      refine j_aload_n h 2 dX8_commit_85 rfl rfl ?_
      refine j_get h iX8 0 (mx_c0 _ _ _ (ar (ar (ar σ 14 (upd (σ.2 14) ((σ.2 1) ((σ.2 5) x1.toNatClampNeg).toNatClampNeg).toNatClampNeg ((σ.2 17) x1.toNatClampNeg))) 8 (upd (σ.2 8) ((σ.1 10) - (σ.1 10) / 400 * 400).toNatClampNeg ((σ.2 5) x1.toNatClampNeg))) 9 (upd (σ.2 9) ((σ.1 10) - (σ.1 10) / 400 * 400).toNatClampNeg (σ.1 9)))) rfl 40 (by decide) tb4_4 rfl (v := .ref (a 20)) rfl dX8_commit_86 ?_
      refine j_iload_n h 0 dX8_commit_89 rfl rfl ?_
      refine j_aload_n h 2 dX8_commit_90 rfl rfl ?_
      refine j_get h iX8 0 (mx_c0 _ _ _ (ar (ar (ar σ 14 (upd (σ.2 14) ((σ.2 1) ((σ.2 5) x1.toNatClampNeg).toNatClampNeg).toNatClampNeg ((σ.2 17) x1.toNatClampNeg))) 8 (upd (σ.2 8) ((σ.1 10) - (σ.1 10) / 400 * 400).toNatClampNeg ((σ.2 5) x1.toNatClampNeg))) 9 (upd (σ.2 9) ((σ.1 10) - (σ.1 10) / 400 * 400).toNatClampNeg (σ.1 9)))) rfl 19 (by decide) tb3_223 rfl (v := .ref (a 10)) rfl dX8_commit_91 ?_
      refine j_iload_n h 3 dX8_commit_94 rfl rfl ?_
      refine j_iald h 10 0 (mx_g10 (σ := (ar (ar (ar σ 14 (upd (σ.2 14) ((σ.2 1) ((σ.2 5) x1.toNatClampNeg).toNatClampNeg).toNatClampNeg ((σ.2 17) x1.toNatClampNeg))) 8 (upd (σ.2 8) ((σ.1 10) - (σ.1 10) / 400 * 400).toNatClampNeg ((σ.2 5) x1.toNatClampNeg))) 9 (upd (σ.2 9) ((σ.1 10) - (σ.1 10) / 400 * 400).toNatClampNeg (σ.1 9)))) (F := (σ.2 17)) rfl) rfl h1 dX8_commit_95 ?_
      refine j_iast h 20 0 (mx_g20 (σ := (ar (ar (ar σ 14 (upd (σ.2 14) ((σ.2 1) ((σ.2 5) x1.toNatClampNeg).toNatClampNeg).toNatClampNeg ((σ.2 17) x1.toNatClampNeg))) 8 (upd (σ.2 8) ((σ.1 10) - (σ.1 10) / 400 * 400).toNatClampNeg ((σ.2 5) x1.toNatClampNeg))) 9 (upd (σ.2 9) ((σ.1 10) - (σ.1 10) / 400 * 400).toNatClampNeg (σ.1 9)))) (F := (σ.2 10)) rfl) rfl (m_rem400 hc) (w' := (mx a cI cZ (ar (ar (ar (ar σ 14 (upd (σ.2 14) ((σ.2 1) ((σ.2 5) x1.toNatClampNeg).toNatClampNeg).toNatClampNeg ((σ.2 17) x1.toNatClampNeg))) 8 (upd (σ.2 8) ((σ.1 10) - (σ.1 10) / 400 * 400).toNatClampNeg ((σ.2 5) x1.toNatClampNeg))) 9 (upd (σ.2 9) ((σ.1 10) - (σ.1 10) / 400 * 400).toNatClampNeg (σ.1 9))) 10 (upd (σ.2 10) ((σ.1 10) - (σ.1 10) / 400 * 400).toNatClampNeg ((σ.2 17) x1.toNatClampNeg))))) (mx_s20 _ _ _ (ar (ar (ar σ 14 (upd (σ.2 14) ((σ.2 1) ((σ.2 5) x1.toNatClampNeg).toNatClampNeg).toNatClampNeg ((σ.2 17) x1.toNatClampNeg))) 8 (upd (σ.2 8) ((σ.1 10) - (σ.1 10) / 400 * 400).toNatClampNeg ((σ.2 5) x1.toNatClampNeg))) 9 (upd (σ.2 9) ((σ.1 10) - (σ.1 10) / 400 * 400).toNatClampNeg (σ.1 9))) _) dX8_commit_96 ?_
      refine j_aload_n h 2 dX8_commit_97 rfl rfl ?_
      refine j_dup h dX8_commit_98 rfl ?_
      refine j_get h iX8 0 (mx_c0 _ _ _ (ar (ar (ar (ar σ 14 (upd (σ.2 14) ((σ.2 1) ((σ.2 5) x1.toNatClampNeg).toNatClampNeg).toNatClampNeg ((σ.2 17) x1.toNatClampNeg))) 8 (upd (σ.2 8) ((σ.1 10) - (σ.1 10) / 400 * 400).toNatClampNeg ((σ.2 5) x1.toNatClampNeg))) 9 (upd (σ.2 9) ((σ.1 10) - (σ.1 10) / 400 * 400).toNatClampNeg (σ.1 9))) 10 (upd (σ.2 10) ((σ.1 10) - (σ.1 10) / 400 * 400).toNatClampNeg ((σ.2 17) x1.toNatClampNeg)))) rfl 32 (by decide) tb3_236 rfl (v := .int (σ.1 10)) rfl dX8_commit_99 ?_
      refine j_iconst h (v := 1) dX8_commit_102 (by decide) ?_
      refine j_iadd h dX8_commit_103 ?_
      refine j_put h iX8 tyX8 tyX8_ok nmX8 0 (mx_c0 _ _ _ (ar (ar (ar (ar σ 14 (upd (σ.2 14) ((σ.2 1) ((σ.2 5) x1.toNatClampNeg).toNatClampNeg).toNatClampNeg ((σ.2 17) x1.toNatClampNeg))) 8 (upd (σ.2 8) ((σ.1 10) - (σ.1 10) / 400 * 400).toNatClampNeg ((σ.2 5) x1.toNatClampNeg))) 9 (upd (σ.2 9) ((σ.1 10) - (σ.1 10) / 400 * 400).toNatClampNeg (σ.1 9))) 10 (upd (σ.2 10) ((σ.1 10) - (σ.1 10) / 400 * 400).toNatClampNeg ((σ.2 17) x1.toNatClampNeg)))) rfl 32 (by decide) tb3_236 rfl rfl rfl rfl (Nat.le_of_ble_eq_true rfl) (w' := (mx a cI cZ (sg (ar (ar (ar (ar σ 14 (upd (σ.2 14) ((σ.2 1) ((σ.2 5) x1.toNatClampNeg).toNatClampNeg).toNatClampNeg ((σ.2 17) x1.toNatClampNeg))) 8 (upd (σ.2 8) ((σ.1 10) - (σ.1 10) / 400 * 400).toNatClampNeg ((σ.2 5) x1.toNatClampNeg))) 9 (upd (σ.2 9) ((σ.1 10) - (σ.1 10) / 400 * 400).toNatClampNeg (σ.1 9))) 10 (upd (σ.2 10) ((σ.1 10) - (σ.1 10) / 400 * 400).toNatClampNeg ((σ.2 17) x1.toNatClampNeg))) 10 ((σ.1 10) + 1)))) (mx_p0_32 _ _ _ (ar (ar (ar (ar σ 14 (upd (σ.2 14) ((σ.2 1) ((σ.2 5) x1.toNatClampNeg).toNatClampNeg).toNatClampNeg ((σ.2 17) x1.toNatClampNeg))) 8 (upd (σ.2 8) ((σ.1 10) - (σ.1 10) / 400 * 400).toNatClampNeg ((σ.2 5) x1.toNatClampNeg))) 9 (upd (σ.2 9) ((σ.1 10) - (σ.1 10) / 400 * 400).toNatClampNeg (σ.1 9))) 10 (upd (σ.2 10) ((σ.1 10) - (σ.1 10) / 400 * 400).toNatClampNeg ((σ.2 17) x1.toNatClampNeg))) _) dX8_commit_104 ?_
      subst hq1
      have E : fX8_commit σ x1 = (sg (ar (ar (ar (ar σ 14 (upd (σ.2 14) ((σ.2 1) ((σ.2 5) x1.toNatClampNeg).toNatClampNeg).toNatClampNeg ((σ.2 17) x1.toNatClampNeg))) 8 (upd (σ.2 8) ((σ.1 10) - (σ.1 10) / 400 * 400).toNatClampNeg ((σ.2 5) x1.toNatClampNeg))) 9 (upd (σ.2 9) ((σ.1 10) - (σ.1 10) / 400 * 400).toNatClampNeg (σ.1 9))) 10 (upd (σ.2 10) ((σ.1 10) - (σ.1 10) / 400 * 400).toNatClampNeg ((σ.2 17) x1.toNatClampNeg))) 10 ((σ.1 10) + 1)) := j_ig c2 (j_ig c4 rfl)
      exact j_vreturn h hr (fun _ => 0) (congrArg (mx a cI cZ) E).symm dX8_commit_107
    ·
      refine j_aload_n h 1 dX8_commit_42 rfl rfl ?_
      refine j_get h iX8 0 (mx_c0 _ _ _ (ar σ 14 (upd (σ.2 14) ((σ.2 1) ((σ.2 5) x1.toNatClampNeg).toNatClampNeg).toNatClampNeg ((σ.2 17) x1.toNatClampNeg)))) rfl 25 (by decide) tb3_229 rfl (v := .ref (a 16)) rfl dX8_commit_43 ?_
      refine j_aload_n h 1 dX8_commit_46 rfl rfl ?_
      refine j_get h iX8 0 (mx_c0 _ _ _ (ar σ 14 (upd (σ.2 14) ((σ.2 1) ((σ.2 5) x1.toNatClampNeg).toNatClampNeg).toNatClampNeg ((σ.2 17) x1.toNatClampNeg)))) rfl 20 (by decide) tb3_224 rfl (v := .ref (a 11)) rfl dX8_commit_47 ?_
      refine j_iload_n h 2 dX8_commit_50 rfl rfl ?_
      refine j_iald h 11 0 (mx_g11 (σ := (ar σ 14 (upd (σ.2 14) ((σ.2 1) ((σ.2 5) x1.toNatClampNeg).toNatClampNeg).toNatClampNeg ((σ.2 17) x1.toNatClampNeg)))) (F := (σ.2 18)) rfl) rfl h1 dX8_commit_51 ?_
      refine j_aload_n h 1 dX8_commit_52 rfl rfl ?_
      refine j_get h iX8 0 (mx_c0 _ _ _ (ar σ 14 (upd (σ.2 14) ((σ.2 1) ((σ.2 5) x1.toNatClampNeg).toNatClampNeg).toNatClampNeg ((σ.2 17) x1.toNatClampNeg)))) rfl 19 (by decide) tb3_223 rfl (v := .ref (a 10)) rfl dX8_commit_53 ?_
      refine j_iload_n h 2 dX8_commit_56 rfl rfl ?_
      refine j_iald h 10 0 (mx_g10 (σ := (ar σ 14 (upd (σ.2 14) ((σ.2 1) ((σ.2 5) x1.toNatClampNeg).toNatClampNeg).toNatClampNeg ((σ.2 17) x1.toNatClampNeg)))) (F := (σ.2 17)) rfl) rfl h1 dX8_commit_57 ?_
      refine j_iast h 16 0 (mx_g16 (σ := (ar σ 14 (upd (σ.2 14) ((σ.2 1) ((σ.2 5) x1.toNatClampNeg).toNatClampNeg).toNatClampNeg ((σ.2 17) x1.toNatClampNeg)))) (F := (σ.2 15)) rfl) rfl (hp _ (m_cl h1 (by decide))) (w' := (mx a cI cZ (ar (ar σ 14 (upd (σ.2 14) ((σ.2 1) ((σ.2 5) x1.toNatClampNeg).toNatClampNeg).toNatClampNeg ((σ.2 17) x1.toNatClampNeg))) 15 (upd (σ.2 15) ((σ.2 18) x1.toNatClampNeg).toNatClampNeg ((σ.2 17) x1.toNatClampNeg))))) (mx_s16 _ _ _ (ar σ 14 (upd (σ.2 14) ((σ.2 1) ((σ.2 5) x1.toNatClampNeg).toNatClampNeg).toNatClampNeg ((σ.2 17) x1.toNatClampNeg))) _) dX8_commit_58 ?_
      refine j_aload_n h 1 dX8_commit_59 rfl rfl ?_
      refine j_get h iX8 0 (mx_c0 _ _ _ (ar (ar σ 14 (upd (σ.2 14) ((σ.2 1) ((σ.2 5) x1.toNatClampNeg).toNatClampNeg).toNatClampNeg ((σ.2 17) x1.toNatClampNeg))) 15 (upd (σ.2 15) ((σ.2 18) x1.toNatClampNeg).toNatClampNeg ((σ.2 17) x1.toNatClampNeg)))) rfl 32 (by decide) tb3_236 rfl (v := .int (σ.1 10)) rfl dX8_commit_60 ?_
      refine j_sipush h (v := 400) dX8_commit_63 (by decide) ?_
      refine j_irem h dX8_commit_66 (by decide) ?_
      refine j_istore_n h (lv' := [(3, .int ((σ.1 10) - (σ.1 10) / 400 * 400)), (2, .int ((σ.2 5) x1.toNatClampNeg)), (0, .ref (a 0)), (1, .int x1)]) dX8_commit_67 rfl (by decide) rfl ?_
      refine j_aload_n h 2 dX8_commit_68 rfl rfl ?_
      refine j_get h iX8 0 (mx_c0 _ _ _ (ar (ar σ 14 (upd (σ.2 14) ((σ.2 1) ((σ.2 5) x1.toNatClampNeg).toNatClampNeg).toNatClampNeg ((σ.2 17) x1.toNatClampNeg))) 15 (upd (σ.2 15) ((σ.2 18) x1.toNatClampNeg).toNatClampNeg ((σ.2 17) x1.toNatClampNeg)))) rfl 38 (by decide) tb4_2 rfl (v := .ref (a 18)) rfl dX8_commit_69 ?_
      refine j_iload_n h 0 dX8_commit_72 rfl rfl ?_
      refine j_iload_n h 1 dX8_commit_73 rfl rfl ?_
      refine j_iast h 18 0 (mx_g18 (σ := (ar (ar σ 14 (upd (σ.2 14) ((σ.2 1) ((σ.2 5) x1.toNatClampNeg).toNatClampNeg).toNatClampNeg ((σ.2 17) x1.toNatClampNeg))) 15 (upd (σ.2 15) ((σ.2 18) x1.toNatClampNeg).toNatClampNeg ((σ.2 17) x1.toNatClampNeg)))) (F := (σ.2 8)) rfl) rfl (m_rem400 hc) (w' := (mx a cI cZ (ar (ar (ar σ 14 (upd (σ.2 14) ((σ.2 1) ((σ.2 5) x1.toNatClampNeg).toNatClampNeg).toNatClampNeg ((σ.2 17) x1.toNatClampNeg))) 15 (upd (σ.2 15) ((σ.2 18) x1.toNatClampNeg).toNatClampNeg ((σ.2 17) x1.toNatClampNeg))) 8 (upd (σ.2 8) ((σ.1 10) - (σ.1 10) / 400 * 400).toNatClampNeg ((σ.2 5) x1.toNatClampNeg))))) (mx_s18 _ _ _ (ar (ar σ 14 (upd (σ.2 14) ((σ.2 1) ((σ.2 5) x1.toNatClampNeg).toNatClampNeg).toNatClampNeg ((σ.2 17) x1.toNatClampNeg))) 15 (upd (σ.2 15) ((σ.2 18) x1.toNatClampNeg).toNatClampNeg ((σ.2 17) x1.toNatClampNeg))) _) dX8_commit_74 ?_
      refine j_aload_n h 2 dX8_commit_75 rfl rfl ?_
      refine j_get h iX8 0 (mx_c0 _ _ _ (ar (ar (ar σ 14 (upd (σ.2 14) ((σ.2 1) ((σ.2 5) x1.toNatClampNeg).toNatClampNeg).toNatClampNeg ((σ.2 17) x1.toNatClampNeg))) 15 (upd (σ.2 15) ((σ.2 18) x1.toNatClampNeg).toNatClampNeg ((σ.2 17) x1.toNatClampNeg))) 8 (upd (σ.2 8) ((σ.1 10) - (σ.1 10) / 400 * 400).toNatClampNeg ((σ.2 5) x1.toNatClampNeg)))) rfl 39 (by decide) tb4_3 rfl (v := .ref (a 19)) rfl dX8_commit_76 ?_
      refine j_iload_n h 0 dX8_commit_79 rfl rfl ?_
      refine j_aload_n h 2 dX8_commit_80 rfl rfl ?_
      refine j_get h iX8 0 (mx_c0 _ _ _ (ar (ar (ar σ 14 (upd (σ.2 14) ((σ.2 1) ((σ.2 5) x1.toNatClampNeg).toNatClampNeg).toNatClampNeg ((σ.2 17) x1.toNatClampNeg))) 15 (upd (σ.2 15) ((σ.2 18) x1.toNatClampNeg).toNatClampNeg ((σ.2 17) x1.toNatClampNeg))) 8 (upd (σ.2 8) ((σ.1 10) - (σ.1 10) / 400 * 400).toNatClampNeg ((σ.2 5) x1.toNatClampNeg)))) rfl 31 (by decide) tb3_235 rfl (v := .int (σ.1 9)) rfl dX8_commit_81 ?_
      refine j_iast h 19 0 (mx_g19 (σ := (ar (ar (ar σ 14 (upd (σ.2 14) ((σ.2 1) ((σ.2 5) x1.toNatClampNeg).toNatClampNeg).toNatClampNeg ((σ.2 17) x1.toNatClampNeg))) 15 (upd (σ.2 15) ((σ.2 18) x1.toNatClampNeg).toNatClampNeg ((σ.2 17) x1.toNatClampNeg))) 8 (upd (σ.2 8) ((σ.1 10) - (σ.1 10) / 400 * 400).toNatClampNeg ((σ.2 5) x1.toNatClampNeg)))) (F := (σ.2 9)) rfl) rfl (m_rem400 hc) (w' := (mx a cI cZ (ar (ar (ar (ar σ 14 (upd (σ.2 14) ((σ.2 1) ((σ.2 5) x1.toNatClampNeg).toNatClampNeg).toNatClampNeg ((σ.2 17) x1.toNatClampNeg))) 15 (upd (σ.2 15) ((σ.2 18) x1.toNatClampNeg).toNatClampNeg ((σ.2 17) x1.toNatClampNeg))) 8 (upd (σ.2 8) ((σ.1 10) - (σ.1 10) / 400 * 400).toNatClampNeg ((σ.2 5) x1.toNatClampNeg))) 9 (upd (σ.2 9) ((σ.1 10) - (σ.1 10) / 400 * 400).toNatClampNeg (σ.1 9))))) (mx_s19 _ _ _ (ar (ar (ar σ 14 (upd (σ.2 14) ((σ.2 1) ((σ.2 5) x1.toNatClampNeg).toNatClampNeg).toNatClampNeg ((σ.2 17) x1.toNatClampNeg))) 15 (upd (σ.2 15) ((σ.2 18) x1.toNatClampNeg).toNatClampNeg ((σ.2 17) x1.toNatClampNeg))) 8 (upd (σ.2 8) ((σ.1 10) - (σ.1 10) / 400 * 400).toNatClampNeg ((σ.2 5) x1.toNatClampNeg))) _) dX8_commit_84 ?_
      refine j_aload_n h 2 dX8_commit_85 rfl rfl ?_
      refine j_get h iX8 0 (mx_c0 _ _ _ (ar (ar (ar (ar σ 14 (upd (σ.2 14) ((σ.2 1) ((σ.2 5) x1.toNatClampNeg).toNatClampNeg).toNatClampNeg ((σ.2 17) x1.toNatClampNeg))) 15 (upd (σ.2 15) ((σ.2 18) x1.toNatClampNeg).toNatClampNeg ((σ.2 17) x1.toNatClampNeg))) 8 (upd (σ.2 8) ((σ.1 10) - (σ.1 10) / 400 * 400).toNatClampNeg ((σ.2 5) x1.toNatClampNeg))) 9 (upd (σ.2 9) ((σ.1 10) - (σ.1 10) / 400 * 400).toNatClampNeg (σ.1 9)))) rfl 40 (by decide) tb4_4 rfl (v := .ref (a 20)) rfl dX8_commit_86 ?_
      refine j_iload_n h 0 dX8_commit_89 rfl rfl ?_
      refine j_aload_n h 2 dX8_commit_90 rfl rfl ?_
      refine j_get h iX8 0 (mx_c0 _ _ _ (ar (ar (ar (ar σ 14 (upd (σ.2 14) ((σ.2 1) ((σ.2 5) x1.toNatClampNeg).toNatClampNeg).toNatClampNeg ((σ.2 17) x1.toNatClampNeg))) 15 (upd (σ.2 15) ((σ.2 18) x1.toNatClampNeg).toNatClampNeg ((σ.2 17) x1.toNatClampNeg))) 8 (upd (σ.2 8) ((σ.1 10) - (σ.1 10) / 400 * 400).toNatClampNeg ((σ.2 5) x1.toNatClampNeg))) 9 (upd (σ.2 9) ((σ.1 10) - (σ.1 10) / 400 * 400).toNatClampNeg (σ.1 9)))) rfl 19 (by decide) tb3_223 rfl (v := .ref (a 10)) rfl dX8_commit_91 ?_
      refine j_iload_n h 3 dX8_commit_94 rfl rfl ?_
      refine j_iald h 10 0 (mx_g10 (σ := (ar (ar (ar (ar σ 14 (upd (σ.2 14) ((σ.2 1) ((σ.2 5) x1.toNatClampNeg).toNatClampNeg).toNatClampNeg ((σ.2 17) x1.toNatClampNeg))) 15 (upd (σ.2 15) ((σ.2 18) x1.toNatClampNeg).toNatClampNeg ((σ.2 17) x1.toNatClampNeg))) 8 (upd (σ.2 8) ((σ.1 10) - (σ.1 10) / 400 * 400).toNatClampNeg ((σ.2 5) x1.toNatClampNeg))) 9 (upd (σ.2 9) ((σ.1 10) - (σ.1 10) / 400 * 400).toNatClampNeg (σ.1 9)))) (F := (σ.2 17)) rfl) rfl h1 dX8_commit_95 ?_
      refine j_iast h 20 0 (mx_g20 (σ := (ar (ar (ar (ar σ 14 (upd (σ.2 14) ((σ.2 1) ((σ.2 5) x1.toNatClampNeg).toNatClampNeg).toNatClampNeg ((σ.2 17) x1.toNatClampNeg))) 15 (upd (σ.2 15) ((σ.2 18) x1.toNatClampNeg).toNatClampNeg ((σ.2 17) x1.toNatClampNeg))) 8 (upd (σ.2 8) ((σ.1 10) - (σ.1 10) / 400 * 400).toNatClampNeg ((σ.2 5) x1.toNatClampNeg))) 9 (upd (σ.2 9) ((σ.1 10) - (σ.1 10) / 400 * 400).toNatClampNeg (σ.1 9)))) (F := (σ.2 10)) rfl) rfl (m_rem400 hc) (w' := (mx a cI cZ (ar (ar (ar (ar (ar σ 14 (upd (σ.2 14) ((σ.2 1) ((σ.2 5) x1.toNatClampNeg).toNatClampNeg).toNatClampNeg ((σ.2 17) x1.toNatClampNeg))) 15 (upd (σ.2 15) ((σ.2 18) x1.toNatClampNeg).toNatClampNeg ((σ.2 17) x1.toNatClampNeg))) 8 (upd (σ.2 8) ((σ.1 10) - (σ.1 10) / 400 * 400).toNatClampNeg ((σ.2 5) x1.toNatClampNeg))) 9 (upd (σ.2 9) ((σ.1 10) - (σ.1 10) / 400 * 400).toNatClampNeg (σ.1 9))) 10 (upd (σ.2 10) ((σ.1 10) - (σ.1 10) / 400 * 400).toNatClampNeg ((σ.2 17) x1.toNatClampNeg))))) (mx_s20 _ _ _ (ar (ar (ar (ar σ 14 (upd (σ.2 14) ((σ.2 1) ((σ.2 5) x1.toNatClampNeg).toNatClampNeg).toNatClampNeg ((σ.2 17) x1.toNatClampNeg))) 15 (upd (σ.2 15) ((σ.2 18) x1.toNatClampNeg).toNatClampNeg ((σ.2 17) x1.toNatClampNeg))) 8 (upd (σ.2 8) ((σ.1 10) - (σ.1 10) / 400 * 400).toNatClampNeg ((σ.2 5) x1.toNatClampNeg))) 9 (upd (σ.2 9) ((σ.1 10) - (σ.1 10) / 400 * 400).toNatClampNeg (σ.1 9))) _) dX8_commit_96 ?_
      refine j_aload_n h 2 dX8_commit_97 rfl rfl ?_
      refine j_dup h dX8_commit_98 rfl ?_
      refine j_get h iX8 0 (mx_c0 _ _ _ (ar (ar (ar (ar (ar σ 14 (upd (σ.2 14) ((σ.2 1) ((σ.2 5) x1.toNatClampNeg).toNatClampNeg).toNatClampNeg ((σ.2 17) x1.toNatClampNeg))) 15 (upd (σ.2 15) ((σ.2 18) x1.toNatClampNeg).toNatClampNeg ((σ.2 17) x1.toNatClampNeg))) 8 (upd (σ.2 8) ((σ.1 10) - (σ.1 10) / 400 * 400).toNatClampNeg ((σ.2 5) x1.toNatClampNeg))) 9 (upd (σ.2 9) ((σ.1 10) - (σ.1 10) / 400 * 400).toNatClampNeg (σ.1 9))) 10 (upd (σ.2 10) ((σ.1 10) - (σ.1 10) / 400 * 400).toNatClampNeg ((σ.2 17) x1.toNatClampNeg)))) rfl 32 (by decide) tb3_236 rfl (v := .int (σ.1 10)) rfl dX8_commit_99 ?_
      refine j_iconst h (v := 1) dX8_commit_102 (by decide) ?_
      refine j_iadd h dX8_commit_103 ?_
      refine j_put h iX8 tyX8 tyX8_ok nmX8 0 (mx_c0 _ _ _ (ar (ar (ar (ar (ar σ 14 (upd (σ.2 14) ((σ.2 1) ((σ.2 5) x1.toNatClampNeg).toNatClampNeg).toNatClampNeg ((σ.2 17) x1.toNatClampNeg))) 15 (upd (σ.2 15) ((σ.2 18) x1.toNatClampNeg).toNatClampNeg ((σ.2 17) x1.toNatClampNeg))) 8 (upd (σ.2 8) ((σ.1 10) - (σ.1 10) / 400 * 400).toNatClampNeg ((σ.2 5) x1.toNatClampNeg))) 9 (upd (σ.2 9) ((σ.1 10) - (σ.1 10) / 400 * 400).toNatClampNeg (σ.1 9))) 10 (upd (σ.2 10) ((σ.1 10) - (σ.1 10) / 400 * 400).toNatClampNeg ((σ.2 17) x1.toNatClampNeg)))) rfl 32 (by decide) tb3_236 rfl rfl rfl rfl (Nat.le_of_ble_eq_true rfl) (w' := (mx a cI cZ (sg (ar (ar (ar (ar (ar σ 14 (upd (σ.2 14) ((σ.2 1) ((σ.2 5) x1.toNatClampNeg).toNatClampNeg).toNatClampNeg ((σ.2 17) x1.toNatClampNeg))) 15 (upd (σ.2 15) ((σ.2 18) x1.toNatClampNeg).toNatClampNeg ((σ.2 17) x1.toNatClampNeg))) 8 (upd (σ.2 8) ((σ.1 10) - (σ.1 10) / 400 * 400).toNatClampNeg ((σ.2 5) x1.toNatClampNeg))) 9 (upd (σ.2 9) ((σ.1 10) - (σ.1 10) / 400 * 400).toNatClampNeg (σ.1 9))) 10 (upd (σ.2 10) ((σ.1 10) - (σ.1 10) / 400 * 400).toNatClampNeg ((σ.2 17) x1.toNatClampNeg))) 10 ((σ.1 10) + 1)))) (mx_p0_32 _ _ _ (ar (ar (ar (ar (ar σ 14 (upd (σ.2 14) ((σ.2 1) ((σ.2 5) x1.toNatClampNeg).toNatClampNeg).toNatClampNeg ((σ.2 17) x1.toNatClampNeg))) 15 (upd (σ.2 15) ((σ.2 18) x1.toNatClampNeg).toNatClampNeg ((σ.2 17) x1.toNatClampNeg))) 8 (upd (σ.2 8) ((σ.1 10) - (σ.1 10) / 400 * 400).toNatClampNeg ((σ.2 5) x1.toNatClampNeg))) 9 (upd (σ.2 9) ((σ.1 10) - (σ.1 10) / 400 * 400).toNatClampNeg (σ.1 9))) 10 (upd (σ.2 10) ((σ.1 10) - (σ.1 10) / 400 * 400).toNatClampNeg ((σ.2 17) x1.toNatClampNeg))) _) dX8_commit_104 ?_
      subst hq1
      have E : fX8_commit σ x1 = (sg (ar (ar (ar (ar (ar σ 14 (upd (σ.2 14) ((σ.2 1) ((σ.2 5) x1.toNatClampNeg).toNatClampNeg).toNatClampNeg ((σ.2 17) x1.toNatClampNeg))) 15 (upd (σ.2 15) ((σ.2 18) x1.toNatClampNeg).toNatClampNeg ((σ.2 17) x1.toNatClampNeg))) 8 (upd (σ.2 8) ((σ.1 10) - (σ.1 10) / 400 * 400).toNatClampNeg ((σ.2 5) x1.toNatClampNeg))) 9 (upd (σ.2 9) ((σ.1 10) - (σ.1 10) / 400 * 400).toNatClampNeg (σ.1 9))) 10 (upd (σ.2 10) ((σ.1 10) - (σ.1 10) / 400 * 400).toNatClampNeg ((σ.2 17) x1.toNatClampNeg))) 10 ((σ.1 10) + 1)) := j_ig c2 (j_ip c4 rfl)
      exact j_vreturn h hr (fun _ => 0) (congrArg (mx a cI cZ) E).symm dX8_commit_107
