def rrX7_isBelow : Room := { frames := 0, cells := 0, slots := 0, locals := 0 }
set_option maxRecDepth 100000 in
set_option maxHeartbeats 4000000 in
theorem rX7_isBelow (l : Launch) (D : va_G) (cI cZ : ClassId) (x1 x2 : Int32) : CR l yX7_isBelow cX7_isBelow 2 (some .boolean) TB rrX7_isBelow D vwCl [(cI, .int), (cZ, .boolean)] [.int x1, .int x2] [] (fX7_isBelow x1 x2) := by
  refine CR_of (cc := cX7_isBelow) (maxL := 2) (ret := (some .boolean)) (by decide +kernel) TBg (Nat.le_of_ble_eq_true rfl) ?_
  intro p e s m args below meth c A h hP hr
  refine r_iload_n h 0 dX7_isBelow_0 rfl rfl ?_
  refine r_if_lt h dX7_isBelow_1 (tgt := 13) (by decide) (fun c1 => ?_) (fun c1 => ?_)
  ·
    refine r_iconst h (v := 0) dX7_isBelow_13 (by decide) ?_
    have E : fX7_isBelow x1 x2 = 0 := j_ip c1 rfl
    exact r_zreturn h hr (by decide) E.symm dX7_isBelow_14
  ·
    refine r_iload_n h 0 dX7_isBelow_4 rfl rfl ?_
    refine r_iload_n h 1 dX7_isBelow_5 rfl rfl ?_
    refine r_icmp_ge h dX7_isBelow_6 (tgt := 13) (by decide) (fun c2 => ?_) (fun c2 => ?_)
    ·
      refine r_iconst h (v := 0) dX7_isBelow_13 (by decide) ?_
      have E : fX7_isBelow x1 x2 = 0 := j_ig c1 (j_ip c2 rfl)
      exact r_zreturn h hr (by decide) E.symm dX7_isBelow_14
    ·
      refine r_iconst h (v := 1) dX7_isBelow_9 (by decide) ?_
      refine r_goto h dX7_isBelow_10 (tgt := 14) (by decide) ?_
      have E : fX7_isBelow x1 x2 = 1 := j_ig c1 (j_ig c2 rfl)
      exact r_zreturn h hr (by decide) E.symm dX7_isBelow_14
def rrX3_size : Room := { frames := 0, cells := 0, slots := 0, locals := 0 }
set_option maxRecDepth 100000 in
set_option maxHeartbeats 4000000 in
theorem rX3_size (l : Launch) (D : va_G) (a : Nat → Nat) (cI cZ : ClassId) (σ : St) : CR l yX3_size cX3_size 1 (some .int) TB rrX3_size D vwCl [(cI, .int), (cZ, .boolean)] [.ref (a 2)] (fx a cI cZ σ) (fX3_size σ) := by
  refine CR_of (cc := cX3_size) (maxL := 1) (ret := (some .int)) (by decide +kernel) TBg (Nat.le_of_ble_eq_true rfl) ?_
  intro p e s m args below meth c A h hP hr
  refine r_aload_n h 0 dX3_size_0 rfl rfl ?_
  refine r_get hP h iX3 2 (fx_c2 _ _ _ σ) rfl 5 (by decide) tb1_78 rfl (v := .int (σ.1 6)) rfl dX3_size_1 ?_
  have E : fX3_size σ = (σ.1 6) := rfl
  exact r_ireturn h hr E.symm dX3_size_4
def rrX0_size : Room := { frames := 0, cells := 0, slots := 0, locals := 0 }
set_option maxRecDepth 100000 in
set_option maxHeartbeats 4000000 in
theorem rX0_size (l : Launch) (D : va_G) (a : Nat → Nat) (cI cZ : ClassId) (σ : St) : CR l yX0_size cX0_size 1 (some .int) TB rrX0_size D vwCl [(cI, .int), (cZ, .boolean)] [.ref (a 13)] (fx a cI cZ σ) (fX0_size σ) := by
  refine CR_of (cc := cX0_size) (maxL := 1) (ret := (some .int)) (by decide +kernel) TBg (Nat.le_of_ble_eq_true rfl) ?_
  intro p e s m args below meth c A h hP hr
  refine r_aload_n h 0 dX0_size_0 rfl rfl ?_
  refine r_get hP h iX0 13 (fx_c13 _ _ _ σ) rfl 4 (by decide) tb1_129 rfl (v := .int (σ.1 8)) rfl dX0_size_1 ?_
  have E : fX0_size σ = (σ.1 8) := rfl
  exact r_ireturn h hr E.symm dX0_size_4
set_option maxRecDepth 20000 in
theorem za_42 : (Bundle.ownAtoms "StageCycles" 42 "java/lang/IllegalArgumentException" zNames).all (fun w => decide (w ∈ TB) || decide (w ∈ zFive "java/lang/IllegalArgumentException")) = true := by decide +kernel
set_option maxRecDepth 20000 in
theorem za_61 : (Bundle.ownAtoms "StageCycles" 61 "java/lang/IllegalStateException" zNames).all (fun w => decide (w ∈ TB) || decide (w ∈ zFive "java/lang/IllegalStateException")) = true := by decide +kernel
set_option maxRecDepth 20000 in
theorem za_70 : (Bundle.ownAtoms "StageCycles" 70 "java/lang/UnsupportedOperationException" zNames).all (fun w => decide (w ∈ TB) || decide (w ∈ zFive "java/lang/UnsupportedOperationException")) = true := by decide +kernel
set_option maxRecDepth 20000 in
theorem za_107 : (Bundle.ownAtoms "StageCycles" 107 "java/lang/IndexOutOfBoundsException" zNames).all (fun w => decide (w ∈ TB) || decide (w ∈ zFive "java/lang/IndexOutOfBoundsException")) = true := by decide +kernel
def cX7_wordx (σ : St) (x1 x2 x3 x4 x5 : Int32) : Int32 := (let q1 := (fX7_isBelow x1 8); (if q1 = 0 then 1 else (let q3 := (fX7_isBelow x2 8); (if q3 = 0 then 1 else (let q5 := (fX7_isBelow x3 8); (if q5 = 0 then 1 else (let q7 := (fX7_isBelow x4 8); (if q7 = 0 then 1 else (if (σ.1 9) = 0 then (let q10 := (fX3_size σ); (if q10 < 64 then 0 else 3)) else 2)))))))))
def rtX7_word : Room := { frames := 6, cells := 1, slots := 6, locals := 90 }
set_option maxRecDepth 100000 in
set_option maxHeartbeats 4000000 in
theorem tX7_word_1 (l : Launch) (hl : l.stackTraces = false) (D : va_G) (a : Nat → Nat) (cI cZ : ClassId) (σ : St) (x1 x2 x3 x4 x5 : Int32) (hk : cX7_wordx σ x1 x2 x3 x4 x5 = 1) : CT l yX7_word cX7_word 6 (some .int) TB rtX7_word D vwCl [(cI, .int), (cZ, .boolean)] [.ref (a 0), .int x1, .int x2, .int x3, .int x4, .int x5] (fx a cI cZ σ) "java/lang/IllegalArgumentException" := by
  refine CT_of (cc := cX7_word) (maxL := 6) (ret := (some .int)) (by decide +kernel) TBg (Nat.le_of_ble_eq_true rfl) ?_
  intro p e s m args below meth c A h hP hD hZ hne
  refine r_iload_n h 1 dX7_word_0 rfl rfl ?_
  refine r_bipush h (v := 8) dX7_word_1 (by decide) ?_
  refine r_callS h (rX7_isBelow l D cI cZ x1 8) tb2_80 tb2_81 tb1_1 tb2_82 ⟨rfl, rfl⟩ (n := 2) (by decide +kernel) ⟨Nat.le_of_ble_eq_true rfl, Nat.le_of_ble_eq_true rfl⟩ (As := [.int x1, .int 8]) rfl (st := []) rfl (Nat.le_of_ble_eq_true rfl) dX7_word_3 ?_
  generalize hq1 : (fX7_isBelow x1 8) = q1
  refine r_if_ne h dX7_word_6 (tgt := 19) (by decide) (fun c2 => ?_) (fun c2 => ?_)
  ·
    refine r_iload_n h 2 dX7_word_19 rfl rfl ?_
    refine r_bipush h (v := 8) dX7_word_20 (by decide) ?_
    refine r_callS h (rX7_isBelow l D cI cZ x2 8) tb2_80 tb2_81 tb1_1 tb2_82 ⟨rfl, rfl⟩ (n := 2) (by decide +kernel) ⟨Nat.le_of_ble_eq_true rfl, Nat.le_of_ble_eq_true rfl⟩ (As := [.int x2, .int 8]) rfl (st := []) rfl (Nat.le_of_ble_eq_true rfl) dX7_word_22 ?_
    generalize hq3 : (fX7_isBelow x2 8) = q3
    refine r_if_eq h dX7_word_25 (tgt := 47) (by decide) (fun c4 => ?_) (fun c4 => ?_)
    ·
      subst hq1 hq3
      have E : cX7_wordx σ x1 x2 x3 x4 x5 = 1 := j_ig c2 (j_ip c4 rfl)
      obtain ⟨sa, hs1, hs2⟩ := z_text (args := args) (k := 45) (tx := "no such register") (by decide +kernel) hZ
      exact r_throw hP hD h hl (names := zNames) (by decide +kernel) (by decide +kernel) tb2_83 tb1_15 tb2_84 (z_at 42 (by decide +kernel) za_42 h.2.2.2.2.1 hZ) hs1 hs2 dX7_word_47 dX7_word_50 dX7_word_51 dX7_word_53 dX7_word_56 (fun x hx => (hne x hx).elim) (by decide) (Nat.le_of_ble_eq_true rfl) ⟨by decide, by decide⟩
    ·
      refine r_iload_n h 3 dX7_word_28 rfl rfl ?_
      refine r_bipush h (v := 8) dX7_word_29 (by decide) ?_
      refine r_callS h (rX7_isBelow l D cI cZ x3 8) tb2_80 tb2_81 tb1_1 tb2_82 ⟨rfl, rfl⟩ (n := 2) (by decide +kernel) ⟨Nat.le_of_ble_eq_true rfl, Nat.le_of_ble_eq_true rfl⟩ (As := [.int x3, .int 8]) rfl (st := []) rfl (Nat.le_of_ble_eq_true rfl) dX7_word_31 ?_
      generalize hq5 : (fX7_isBelow x3 8) = q5
      refine r_if_eq h dX7_word_34 (tgt := 47) (by decide) (fun c6 => ?_) (fun c6 => ?_)
      ·
        subst hq1 hq3 hq5
        have E : cX7_wordx σ x1 x2 x3 x4 x5 = 1 := j_ig c2 (j_ig c4 (j_ip c6 rfl))
        obtain ⟨sa, hs1, hs2⟩ := z_text (args := args) (k := 45) (tx := "no such register") (by decide +kernel) hZ
        exact r_throw hP hD h hl (names := zNames) (by decide +kernel) (by decide +kernel) tb2_83 tb1_15 tb2_84 (z_at 42 (by decide +kernel) za_42 h.2.2.2.2.1 hZ) hs1 hs2 dX7_word_47 dX7_word_50 dX7_word_51 dX7_word_53 dX7_word_56 (fun x hx => (hne x hx).elim) (by decide) (Nat.le_of_ble_eq_true rfl) ⟨by decide, by decide⟩
      ·
        refine r_iload h 4 dX7_word_37 rfl ?_
        refine r_bipush h (v := 8) dX7_word_39 (by decide) ?_
        refine r_callS h (rX7_isBelow l D cI cZ x4 8) tb2_80 tb2_81 tb1_1 tb2_82 ⟨rfl, rfl⟩ (n := 2) (by decide +kernel) ⟨Nat.le_of_ble_eq_true rfl, Nat.le_of_ble_eq_true rfl⟩ (As := [.int x4, .int 8]) rfl (st := []) rfl (Nat.le_of_ble_eq_true rfl) dX7_word_41 ?_
        generalize hq7 : (fX7_isBelow x4 8) = q7
        refine r_if_ne h dX7_word_44 (tgt := 57) (by decide) (fun c8 => ?_) (fun c8 => ?_)
        ·
          refine r_aload_n h 0 dX7_word_57 rfl rfl ?_
          refine r_get hP h iX7 0 (fx_c0 _ _ _ σ) rfl 2 (by decide) tb2_13 rfl (v := .ref (a 8)) rfl dX7_word_58 ?_
          refine r_get hP h iX1 8 (fx_c8 _ _ _ σ) rfl 4 (by decide) tb1_209 rfl (v := .ref (a 17)) rfl dX7_word_61 ?_
          refine r_get hP h iX6 17 (fx_c17 _ _ _ σ) rfl 1 (by decide) tb1_149 rfl (v := .int (σ.1 9)) rfl dX7_word_64 ?_
          refine r_if_eq h dX7_word_67 (tgt := 80) (by decide) (fun c9 => ?_) (fun c9 => ?_)
          ·
            refine r_aload_n h 0 dX7_word_80 rfl rfl ?_
            refine r_get hP h iX7 0 (fx_c0 _ _ _ σ) rfl 1 (by decide) tb2_12 rfl (v := .ref (a 2)) rfl dX7_word_81 ?_
            refine r_callV hP (hD.weaken (fun _ _ _ _ => trivial)) h (rX3_size l D a cI cZ σ) tb2_63 tb2_64 tb2_65 tb1_4 tb2_66 ⟨rfl, rfl⟩ (n := 0) (by decide +kernel) ⟨Nat.le_of_ble_eq_true rfl, Nat.le_of_ble_eq_true rfl⟩ (As := []) rfl (ci := 3) (q0 := 2) rfl (fx_c2 _ _ _ σ) (st := []) rfl (Nat.le_of_ble_eq_true rfl) dX7_word_84 ?_
            generalize hq10 : (fX3_size σ) = q10
            refine r_bipush h (v := 64) dX7_word_87 (by decide) ?_
            refine r_icmp_lt h dX7_word_89 (tgt := 102) (by decide) (fun c11 => ?_) (fun c11 => ?_)
            ·
              subst hq1 hq3 hq5 hq7 hq10
              have E : cX7_wordx σ x1 x2 x3 x4 x5 = 0 := j_ig c2 (j_ig c4 (j_ig c6 (j_ig c8 (j_ip c9 (j_ip c11 rfl)))))
              exact absurd (E.symm.trans hk) (by decide)
            ·
              subst hq1 hq3 hq5 hq7 hq10
              have E : cX7_wordx σ x1 x2 x3 x4 x5 = 3 := j_ig c2 (j_ig c4 (j_ig c6 (j_ig c8 (j_ip c9 (j_ig c11 rfl)))))
              exact absurd (E.symm.trans hk) (by decide)
          ·
            subst hq1 hq3 hq5 hq7
            have E : cX7_wordx σ x1 x2 x3 x4 x5 = 2 := j_ig c2 (j_ig c4 (j_ig c6 (j_ig c8 (j_ig c9 rfl))))
            exact absurd (E.symm.trans hk) (by decide)
        ·
          subst hq1 hq3 hq5 hq7
          have E : cX7_wordx σ x1 x2 x3 x4 x5 = 1 := j_ig c2 (j_ig c4 (j_ig c6 (j_ip c8 rfl)))
          obtain ⟨sa, hs1, hs2⟩ := z_text (args := args) (k := 45) (tx := "no such register") (by decide +kernel) hZ
          exact r_throw hP hD h hl (names := zNames) (by decide +kernel) (by decide +kernel) tb2_83 tb1_15 tb2_84 (z_at 42 (by decide +kernel) za_42 h.2.2.2.2.1 hZ) hs1 hs2 dX7_word_47 dX7_word_50 dX7_word_51 dX7_word_53 dX7_word_56 (fun x hx => (hne x hx).elim) (by decide) (Nat.le_of_ble_eq_true rfl) ⟨by decide, by decide⟩
  ·
    subst hq1
    have E : cX7_wordx σ x1 x2 x3 x4 x5 = 1 := j_ip c2 rfl
    obtain ⟨sa, hs1, hs2⟩ := z_text (args := args) (k := 40) (tx := "no such kind") (by decide +kernel) hZ
    exact r_throw hP hD h hl (names := zNames) (by decide +kernel) (by decide +kernel) tb2_83 tb1_15 tb2_84 (z_at 42 (by decide +kernel) za_42 h.2.2.2.2.1 hZ) hs1 hs2 dX7_word_9 dX7_word_12 dX7_word_13 dX7_word_15 dX7_word_18 (fun x hx => (hne x hx).elim) (by decide) (Nat.le_of_ble_eq_true rfl) ⟨by decide, by decide⟩
set_option maxRecDepth 100000 in
set_option maxHeartbeats 4000000 in
theorem tX7_word_2 (l : Launch) (hl : l.stackTraces = false) (D : va_G) (a : Nat → Nat) (cI cZ : ClassId) (σ : St) (x1 x2 x3 x4 x5 : Int32) (hk : cX7_wordx σ x1 x2 x3 x4 x5 = 2) : CT l yX7_word cX7_word 6 (some .int) TB rtX7_word D vwCl [(cI, .int), (cZ, .boolean)] [.ref (a 0), .int x1, .int x2, .int x3, .int x4, .int x5] (fx a cI cZ σ) "java/lang/IllegalStateException" := by
  refine CT_of (cc := cX7_word) (maxL := 6) (ret := (some .int)) (by decide +kernel) TBg (Nat.le_of_ble_eq_true rfl) ?_
  intro p e s m args below meth c A h hP hD hZ hne
  refine r_iload_n h 1 dX7_word_0 rfl rfl ?_
  refine r_bipush h (v := 8) dX7_word_1 (by decide) ?_
  refine r_callS h (rX7_isBelow l D cI cZ x1 8) tb2_80 tb2_81 tb1_1 tb2_82 ⟨rfl, rfl⟩ (n := 2) (by decide +kernel) ⟨Nat.le_of_ble_eq_true rfl, Nat.le_of_ble_eq_true rfl⟩ (As := [.int x1, .int 8]) rfl (st := []) rfl (Nat.le_of_ble_eq_true rfl) dX7_word_3 ?_
  generalize hq1 : (fX7_isBelow x1 8) = q1
  refine r_if_ne h dX7_word_6 (tgt := 19) (by decide) (fun c2 => ?_) (fun c2 => ?_)
  ·
    refine r_iload_n h 2 dX7_word_19 rfl rfl ?_
    refine r_bipush h (v := 8) dX7_word_20 (by decide) ?_
    refine r_callS h (rX7_isBelow l D cI cZ x2 8) tb2_80 tb2_81 tb1_1 tb2_82 ⟨rfl, rfl⟩ (n := 2) (by decide +kernel) ⟨Nat.le_of_ble_eq_true rfl, Nat.le_of_ble_eq_true rfl⟩ (As := [.int x2, .int 8]) rfl (st := []) rfl (Nat.le_of_ble_eq_true rfl) dX7_word_22 ?_
    generalize hq3 : (fX7_isBelow x2 8) = q3
    refine r_if_eq h dX7_word_25 (tgt := 47) (by decide) (fun c4 => ?_) (fun c4 => ?_)
    ·
      subst hq1 hq3
      have E : cX7_wordx σ x1 x2 x3 x4 x5 = 1 := j_ig c2 (j_ip c4 rfl)
      exact absurd (E.symm.trans hk) (by decide)
    ·
      refine r_iload_n h 3 dX7_word_28 rfl rfl ?_
      refine r_bipush h (v := 8) dX7_word_29 (by decide) ?_
      refine r_callS h (rX7_isBelow l D cI cZ x3 8) tb2_80 tb2_81 tb1_1 tb2_82 ⟨rfl, rfl⟩ (n := 2) (by decide +kernel) ⟨Nat.le_of_ble_eq_true rfl, Nat.le_of_ble_eq_true rfl⟩ (As := [.int x3, .int 8]) rfl (st := []) rfl (Nat.le_of_ble_eq_true rfl) dX7_word_31 ?_
      generalize hq5 : (fX7_isBelow x3 8) = q5
      refine r_if_eq h dX7_word_34 (tgt := 47) (by decide) (fun c6 => ?_) (fun c6 => ?_)
      ·
        subst hq1 hq3 hq5
        have E : cX7_wordx σ x1 x2 x3 x4 x5 = 1 := j_ig c2 (j_ig c4 (j_ip c6 rfl))
        exact absurd (E.symm.trans hk) (by decide)
      ·
        refine r_iload h 4 dX7_word_37 rfl ?_
        refine r_bipush h (v := 8) dX7_word_39 (by decide) ?_
        refine r_callS h (rX7_isBelow l D cI cZ x4 8) tb2_80 tb2_81 tb1_1 tb2_82 ⟨rfl, rfl⟩ (n := 2) (by decide +kernel) ⟨Nat.le_of_ble_eq_true rfl, Nat.le_of_ble_eq_true rfl⟩ (As := [.int x4, .int 8]) rfl (st := []) rfl (Nat.le_of_ble_eq_true rfl) dX7_word_41 ?_
        generalize hq7 : (fX7_isBelow x4 8) = q7
        refine r_if_ne h dX7_word_44 (tgt := 57) (by decide) (fun c8 => ?_) (fun c8 => ?_)
        ·
          refine r_aload_n h 0 dX7_word_57 rfl rfl ?_
          refine r_get hP h iX7 0 (fx_c0 _ _ _ σ) rfl 2 (by decide) tb2_13 rfl (v := .ref (a 8)) rfl dX7_word_58 ?_
          refine r_get hP h iX1 8 (fx_c8 _ _ _ σ) rfl 4 (by decide) tb1_209 rfl (v := .ref (a 17)) rfl dX7_word_61 ?_
          refine r_get hP h iX6 17 (fx_c17 _ _ _ σ) rfl 1 (by decide) tb1_149 rfl (v := .int (σ.1 9)) rfl dX7_word_64 ?_
          refine r_if_eq h dX7_word_67 (tgt := 80) (by decide) (fun c9 => ?_) (fun c9 => ?_)
          ·
            refine r_aload_n h 0 dX7_word_80 rfl rfl ?_
            refine r_get hP h iX7 0 (fx_c0 _ _ _ σ) rfl 1 (by decide) tb2_12 rfl (v := .ref (a 2)) rfl dX7_word_81 ?_
            refine r_callV hP (hD.weaken (fun _ _ _ _ => trivial)) h (rX3_size l D a cI cZ σ) tb2_63 tb2_64 tb2_65 tb1_4 tb2_66 ⟨rfl, rfl⟩ (n := 0) (by decide +kernel) ⟨Nat.le_of_ble_eq_true rfl, Nat.le_of_ble_eq_true rfl⟩ (As := []) rfl (ci := 3) (q0 := 2) rfl (fx_c2 _ _ _ σ) (st := []) rfl (Nat.le_of_ble_eq_true rfl) dX7_word_84 ?_
            generalize hq10 : (fX3_size σ) = q10
            refine r_bipush h (v := 64) dX7_word_87 (by decide) ?_
            refine r_icmp_lt h dX7_word_89 (tgt := 102) (by decide) (fun c11 => ?_) (fun c11 => ?_)
            ·
              subst hq1 hq3 hq5 hq7 hq10
              have E : cX7_wordx σ x1 x2 x3 x4 x5 = 0 := j_ig c2 (j_ig c4 (j_ig c6 (j_ig c8 (j_ip c9 (j_ip c11 rfl)))))
              exact absurd (E.symm.trans hk) (by decide)
            ·
              subst hq1 hq3 hq5 hq7 hq10
              have E : cX7_wordx σ x1 x2 x3 x4 x5 = 3 := j_ig c2 (j_ig c4 (j_ig c6 (j_ig c8 (j_ip c9 (j_ig c11 rfl)))))
              exact absurd (E.symm.trans hk) (by decide)
          ·
            subst hq1 hq3 hq5 hq7
            have E : cX7_wordx σ x1 x2 x3 x4 x5 = 2 := j_ig c2 (j_ig c4 (j_ig c6 (j_ig c8 (j_ig c9 rfl))))
            obtain ⟨sa, hs1, hs2⟩ := z_text (args := args) (k := 59) (tx := "cycles were done") (by decide +kernel) hZ
            exact r_throw hP hD h hl (names := zNames) (by decide +kernel) (by decide +kernel) tb2_153 tb1_16 tb2_154 (z_at 61 (by decide +kernel) za_61 h.2.2.2.2.1 hZ) hs1 hs2 dX7_word_70 dX7_word_73 dX7_word_74 dX7_word_76 dX7_word_79 (fun x hx => (hne x hx).elim) (by decide) (Nat.le_of_ble_eq_true rfl) ⟨by decide, by decide⟩
        ·
          subst hq1 hq3 hq5 hq7
          have E : cX7_wordx σ x1 x2 x3 x4 x5 = 1 := j_ig c2 (j_ig c4 (j_ig c6 (j_ip c8 rfl)))
          exact absurd (E.symm.trans hk) (by decide)
  ·
    subst hq1
    have E : cX7_wordx σ x1 x2 x3 x4 x5 = 1 := j_ip c2 rfl
    exact absurd (E.symm.trans hk) (by decide)
set_option maxRecDepth 100000 in
set_option maxHeartbeats 4000000 in
theorem tX7_word_3 (l : Launch) (hl : l.stackTraces = false) (D : va_G) (a : Nat → Nat) (cI cZ : ClassId) (σ : St) (x1 x2 x3 x4 x5 : Int32) (hk : cX7_wordx σ x1 x2 x3 x4 x5 = 3) : CT l yX7_word cX7_word 6 (some .int) TB rtX7_word D vwCl [(cI, .int), (cZ, .boolean)] [.ref (a 0), .int x1, .int x2, .int x3, .int x4, .int x5] (fx a cI cZ σ) "java/lang/UnsupportedOperationException" := by
  refine CT_of (cc := cX7_word) (maxL := 6) (ret := (some .int)) (by decide +kernel) TBg (Nat.le_of_ble_eq_true rfl) ?_
  intro p e s m args below meth c A h hP hD hZ hne
  refine r_iload_n h 1 dX7_word_0 rfl rfl ?_
  refine r_bipush h (v := 8) dX7_word_1 (by decide) ?_
  refine r_callS h (rX7_isBelow l D cI cZ x1 8) tb2_80 tb2_81 tb1_1 tb2_82 ⟨rfl, rfl⟩ (n := 2) (by decide +kernel) ⟨Nat.le_of_ble_eq_true rfl, Nat.le_of_ble_eq_true rfl⟩ (As := [.int x1, .int 8]) rfl (st := []) rfl (Nat.le_of_ble_eq_true rfl) dX7_word_3 ?_
  generalize hq1 : (fX7_isBelow x1 8) = q1
  refine r_if_ne h dX7_word_6 (tgt := 19) (by decide) (fun c2 => ?_) (fun c2 => ?_)
  ·
    refine r_iload_n h 2 dX7_word_19 rfl rfl ?_
    refine r_bipush h (v := 8) dX7_word_20 (by decide) ?_
    refine r_callS h (rX7_isBelow l D cI cZ x2 8) tb2_80 tb2_81 tb1_1 tb2_82 ⟨rfl, rfl⟩ (n := 2) (by decide +kernel) ⟨Nat.le_of_ble_eq_true rfl, Nat.le_of_ble_eq_true rfl⟩ (As := [.int x2, .int 8]) rfl (st := []) rfl (Nat.le_of_ble_eq_true rfl) dX7_word_22 ?_
    generalize hq3 : (fX7_isBelow x2 8) = q3
    refine r_if_eq h dX7_word_25 (tgt := 47) (by decide) (fun c4 => ?_) (fun c4 => ?_)
    ·
      subst hq1 hq3
      have E : cX7_wordx σ x1 x2 x3 x4 x5 = 1 := j_ig c2 (j_ip c4 rfl)
      exact absurd (E.symm.trans hk) (by decide)
    ·
      refine r_iload_n h 3 dX7_word_28 rfl rfl ?_
      refine r_bipush h (v := 8) dX7_word_29 (by decide) ?_
      refine r_callS h (rX7_isBelow l D cI cZ x3 8) tb2_80 tb2_81 tb1_1 tb2_82 ⟨rfl, rfl⟩ (n := 2) (by decide +kernel) ⟨Nat.le_of_ble_eq_true rfl, Nat.le_of_ble_eq_true rfl⟩ (As := [.int x3, .int 8]) rfl (st := []) rfl (Nat.le_of_ble_eq_true rfl) dX7_word_31 ?_
      generalize hq5 : (fX7_isBelow x3 8) = q5
      refine r_if_eq h dX7_word_34 (tgt := 47) (by decide) (fun c6 => ?_) (fun c6 => ?_)
      ·
        subst hq1 hq3 hq5
        have E : cX7_wordx σ x1 x2 x3 x4 x5 = 1 := j_ig c2 (j_ig c4 (j_ip c6 rfl))
        exact absurd (E.symm.trans hk) (by decide)
      ·
        refine r_iload h 4 dX7_word_37 rfl ?_
        refine r_bipush h (v := 8) dX7_word_39 (by decide) ?_
        refine r_callS h (rX7_isBelow l D cI cZ x4 8) tb2_80 tb2_81 tb1_1 tb2_82 ⟨rfl, rfl⟩ (n := 2) (by decide +kernel) ⟨Nat.le_of_ble_eq_true rfl, Nat.le_of_ble_eq_true rfl⟩ (As := [.int x4, .int 8]) rfl (st := []) rfl (Nat.le_of_ble_eq_true rfl) dX7_word_41 ?_
        generalize hq7 : (fX7_isBelow x4 8) = q7
        refine r_if_ne h dX7_word_44 (tgt := 57) (by decide) (fun c8 => ?_) (fun c8 => ?_)
        ·
          refine r_aload_n h 0 dX7_word_57 rfl rfl ?_
          refine r_get hP h iX7 0 (fx_c0 _ _ _ σ) rfl 2 (by decide) tb2_13 rfl (v := .ref (a 8)) rfl dX7_word_58 ?_
          refine r_get hP h iX1 8 (fx_c8 _ _ _ σ) rfl 4 (by decide) tb1_209 rfl (v := .ref (a 17)) rfl dX7_word_61 ?_
          refine r_get hP h iX6 17 (fx_c17 _ _ _ σ) rfl 1 (by decide) tb1_149 rfl (v := .int (σ.1 9)) rfl dX7_word_64 ?_
          refine r_if_eq h dX7_word_67 (tgt := 80) (by decide) (fun c9 => ?_) (fun c9 => ?_)
          ·
            refine r_aload_n h 0 dX7_word_80 rfl rfl ?_
            refine r_get hP h iX7 0 (fx_c0 _ _ _ σ) rfl 1 (by decide) tb2_12 rfl (v := .ref (a 2)) rfl dX7_word_81 ?_
            refine r_callV hP (hD.weaken (fun _ _ _ _ => trivial)) h (rX3_size l D a cI cZ σ) tb2_63 tb2_64 tb2_65 tb1_4 tb2_66 ⟨rfl, rfl⟩ (n := 0) (by decide +kernel) ⟨Nat.le_of_ble_eq_true rfl, Nat.le_of_ble_eq_true rfl⟩ (As := []) rfl (ci := 3) (q0 := 2) rfl (fx_c2 _ _ _ σ) (st := []) rfl (Nat.le_of_ble_eq_true rfl) dX7_word_84 ?_
            generalize hq10 : (fX3_size σ) = q10
            refine r_bipush h (v := 64) dX7_word_87 (by decide) ?_
            refine r_icmp_lt h dX7_word_89 (tgt := 102) (by decide) (fun c11 => ?_) (fun c11 => ?_)
            ·
              subst hq1 hq3 hq5 hq7 hq10
              have E : cX7_wordx σ x1 x2 x3 x4 x5 = 0 := j_ig c2 (j_ig c4 (j_ig c6 (j_ig c8 (j_ip c9 (j_ip c11 rfl)))))
              exact absurd (E.symm.trans hk) (by decide)
            ·
              subst hq1 hq3 hq5 hq7 hq10
              have E : cX7_wordx σ x1 x2 x3 x4 x5 = 3 := j_ig c2 (j_ig c4 (j_ig c6 (j_ig c8 (j_ip c9 (j_ig c11 rfl)))))
              obtain ⟨sa, hs1, hs2⟩ := z_text (args := args) (k := 68) (tx := "there are 64 words") (by decide +kernel) hZ
              exact r_throw hP hD h hl (names := zNames) (by decide +kernel) (by decide +kernel) tb2_169 tb1_17 tb2_170 (z_at 70 (by decide +kernel) za_70 h.2.2.2.2.1 hZ) hs1 hs2 dX7_word_92 dX7_word_95 dX7_word_96 dX7_word_98 dX7_word_101 (fun x hx => (hne x hx).elim) (by decide) (Nat.le_of_ble_eq_true rfl) ⟨by decide, by decide⟩
          ·
            subst hq1 hq3 hq5 hq7
            have E : cX7_wordx σ x1 x2 x3 x4 x5 = 2 := j_ig c2 (j_ig c4 (j_ig c6 (j_ig c8 (j_ig c9 rfl))))
            exact absurd (E.symm.trans hk) (by decide)
        ·
          subst hq1 hq3 hq5 hq7
          have E : cX7_wordx σ x1 x2 x3 x4 x5 = 1 := j_ig c2 (j_ig c4 (j_ig c6 (j_ip c8 rfl)))
          exact absurd (E.symm.trans hk) (by decide)
  ·
    subst hq1
    have E : cX7_wordx σ x1 x2 x3 x4 x5 = 1 := j_ip c2 rfl
    exact absurd (E.symm.trans hk) (by decide)
def cX7_setx (σ : St) (x1 x2 : Int32) : Int32 := (let q1 := (fX7_isBelow x2 64); (if q1 = 0 then 1 else (if (σ.1 9) = 0 then 0 else 2)))
def rtX7_set : Room := { frames := 6, cells := 1, slots := 6, locals := 90 }
set_option maxRecDepth 100000 in
set_option maxHeartbeats 4000000 in
theorem tX7_set_1 (l : Launch) (hl : l.stackTraces = false) (D : va_G) (a : Nat → Nat) (cI cZ : ClassId) (σ : St) (x1 x2 : Int32) (hk : cX7_setx σ x1 x2 = 1) : CT l yX7_set cX7_set 4 (some .boolean) TB rtX7_set D vwCl [(cI, .int), (cZ, .boolean)] [.ref (a 0), .int x1, .int x2] (fx a cI cZ σ) "java/lang/IllegalArgumentException" := by
  refine CT_of (cc := cX7_set) (maxL := 4) (ret := (some .boolean)) (by decide +kernel) TBg (Nat.le_of_ble_eq_true rfl) ?_
  intro p e s m args below meth c A h hP hD hZ hne
  refine r_iload_n h 2 dX7_set_0 rfl rfl ?_
  refine r_bipush h (v := 64) dX7_set_1 (by decide) ?_
  refine r_callS h (rX7_isBelow l D cI cZ x2 64) tb2_80 tb2_81 tb1_1 tb2_82 ⟨rfl, rfl⟩ (n := 2) (by decide +kernel) ⟨Nat.le_of_ble_eq_true rfl, Nat.le_of_ble_eq_true rfl⟩ (As := [.int x2, .int 64]) rfl (st := []) rfl (Nat.le_of_ble_eq_true rfl) dX7_set_3 ?_
  generalize hq1 : (fX7_isBelow x2 64) = q1
  refine r_if_ne h dX7_set_6 (tgt := 19) (by decide) (fun c2 => ?_) (fun c2 => ?_)
  ·
    refine r_aload_n h 0 dX7_set_19 rfl rfl ?_
    refine r_get hP h iX7 0 (fx_c0 _ _ _ σ) rfl 2 (by decide) tb2_13 rfl (v := .ref (a 8)) rfl dX7_set_20 ?_
    refine r_get hP h iX1 8 (fx_c8 _ _ _ σ) rfl 4 (by decide) tb1_209 rfl (v := .ref (a 17)) rfl dX7_set_23 ?_
    refine r_get hP h iX6 17 (fx_c17 _ _ _ σ) rfl 1 (by decide) tb1_149 rfl (v := .int (σ.1 9)) rfl dX7_set_26 ?_
    refine r_if_eq h dX7_set_29 (tgt := 42) (by decide) (fun c3 => ?_) (fun c3 => ?_)
    ·
      subst hq1
      have E : cX7_setx σ x1 x2 = 0 := j_ig c2 (j_ip c3 rfl)
      exact absurd (E.symm.trans hk) (by decide)
    ·
      subst hq1
      have E : cX7_setx σ x1 x2 = 2 := j_ig c2 (j_ig c3 rfl)
      exact absurd (E.symm.trans hk) (by decide)
  ·
    subst hq1
    have E : cX7_setx σ x1 x2 = 1 := j_ip c2 rfl
    obtain ⟨sa, hs1, hs2⟩ := z_text (args := args) (k := 75) (tx := "h is not 0 .. 63") (by decide +kernel) hZ
    exact r_throw hP hD h hl (names := zNames) (by decide +kernel) (by decide +kernel) tb2_83 tb1_15 tb2_84 (z_at 42 (by decide +kernel) za_42 h.2.2.2.2.1 hZ) hs1 hs2 dX7_set_9 dX7_set_12 dX7_set_13 dX7_set_15 dX7_set_18 (fun x hx => (hne x hx).elim) (by decide) (Nat.le_of_ble_eq_true rfl) ⟨by decide, by decide⟩
set_option maxRecDepth 100000 in
set_option maxHeartbeats 4000000 in
theorem tX7_set_2 (l : Launch) (hl : l.stackTraces = false) (D : va_G) (a : Nat → Nat) (cI cZ : ClassId) (σ : St) (x1 x2 : Int32) (hk : cX7_setx σ x1 x2 = 2) : CT l yX7_set cX7_set 4 (some .boolean) TB rtX7_set D vwCl [(cI, .int), (cZ, .boolean)] [.ref (a 0), .int x1, .int x2] (fx a cI cZ σ) "java/lang/IllegalStateException" := by
  refine CT_of (cc := cX7_set) (maxL := 4) (ret := (some .boolean)) (by decide +kernel) TBg (Nat.le_of_ble_eq_true rfl) ?_
  intro p e s m args below meth c A h hP hD hZ hne
  refine r_iload_n h 2 dX7_set_0 rfl rfl ?_
  refine r_bipush h (v := 64) dX7_set_1 (by decide) ?_
  refine r_callS h (rX7_isBelow l D cI cZ x2 64) tb2_80 tb2_81 tb1_1 tb2_82 ⟨rfl, rfl⟩ (n := 2) (by decide +kernel) ⟨Nat.le_of_ble_eq_true rfl, Nat.le_of_ble_eq_true rfl⟩ (As := [.int x2, .int 64]) rfl (st := []) rfl (Nat.le_of_ble_eq_true rfl) dX7_set_3 ?_
  generalize hq1 : (fX7_isBelow x2 64) = q1
  refine r_if_ne h dX7_set_6 (tgt := 19) (by decide) (fun c2 => ?_) (fun c2 => ?_)
  ·
    refine r_aload_n h 0 dX7_set_19 rfl rfl ?_
    refine r_get hP h iX7 0 (fx_c0 _ _ _ σ) rfl 2 (by decide) tb2_13 rfl (v := .ref (a 8)) rfl dX7_set_20 ?_
    refine r_get hP h iX1 8 (fx_c8 _ _ _ σ) rfl 4 (by decide) tb1_209 rfl (v := .ref (a 17)) rfl dX7_set_23 ?_
    refine r_get hP h iX6 17 (fx_c17 _ _ _ σ) rfl 1 (by decide) tb1_149 rfl (v := .int (σ.1 9)) rfl dX7_set_26 ?_
    refine r_if_eq h dX7_set_29 (tgt := 42) (by decide) (fun c3 => ?_) (fun c3 => ?_)
    ·
      subst hq1
      have E : cX7_setx σ x1 x2 = 0 := j_ig c2 (j_ip c3 rfl)
      exact absurd (E.symm.trans hk) (by decide)
    ·
      subst hq1
      have E : cX7_setx σ x1 x2 = 2 := j_ig c2 (j_ig c3 rfl)
      obtain ⟨sa, hs1, hs2⟩ := z_text (args := args) (k := 59) (tx := "cycles were done") (by decide +kernel) hZ
      exact r_throw hP hD h hl (names := zNames) (by decide +kernel) (by decide +kernel) tb2_153 tb1_16 tb2_154 (z_at 61 (by decide +kernel) za_61 h.2.2.2.2.1 hZ) hs1 hs2 dX7_set_32 dX7_set_35 dX7_set_36 dX7_set_38 dX7_set_41 (fun x hx => (hne x hx).elim) (by decide) (Nat.le_of_ble_eq_true rfl) ⟨by decide, by decide⟩
  ·
    subst hq1
    have E : cX7_setx σ x1 x2 = 1 := j_ip c2 rfl
    exact absurd (E.symm.trans hk) (by decide)
def cX7_runx (σ : St) (x1 : Int32) : Int32 := (if x1 < 1 then 1 else (if x1 ≤ 2000 then (let q3 := (fX3_size σ); (if q3 = 0 then 2 else 0)) else 1))
def rtX7_run : Room := { frames := 6, cells := 1, slots := 6, locals := 90 }
set_option maxRecDepth 100000 in
set_option maxHeartbeats 4000000 in
theorem tX7_run_1 (l : Launch) (hl : l.stackTraces = false) (D : va_G) (a : Nat → Nat) (cI cZ : ClassId) (σ : St) (x1 : Int32) (hk : cX7_runx σ x1 = 1) : CT l yX7_run cX7_run 3 (some .int) TB rtX7_run D vwCl [(cI, .int), (cZ, .boolean)] [.ref (a 0), .int x1] (fx a cI cZ σ) "java/lang/IllegalArgumentException" := by
  refine CT_of (cc := cX7_run) (maxL := 3) (ret := (some .int)) (by decide +kernel) TBg (Nat.le_of_ble_eq_true rfl) ?_
  intro p e s m args below meth c A h hP hD hZ hne
  refine r_iload_n h 1 dX7_run_0 rfl rfl ?_
  refine r_iconst h (v := 1) dX7_run_1 (by decide) ?_
  refine r_icmp_lt h dX7_run_2 (tgt := 12) (by decide) (fun c1 => ?_) (fun c1 => ?_)
  ·
    have E : cX7_runx σ x1 = 1 := j_ip c1 rfl
    obtain ⟨sa, hs1, hs2⟩ := z_text (args := args) (k := 90) (tx := "n is not 1 .. 2000") (by decide +kernel) hZ
    exact r_throw hP hD h hl (names := zNames) (by decide +kernel) (by decide +kernel) tb2_83 tb1_15 tb2_84 (z_at 42 (by decide +kernel) za_42 h.2.2.2.2.1 hZ) hs1 hs2 dX7_run_12 dX7_run_15 dX7_run_16 dX7_run_18 dX7_run_21 (fun x hx => (hne x hx).elim) (by decide) (Nat.le_of_ble_eq_true rfl) ⟨by decide, by decide⟩
  ·
    refine r_iload_n h 1 dX7_run_5 rfl rfl ?_
    refine r_sipush h (v := 2000) dX7_run_6 (by decide) ?_
    refine r_icmp_le h dX7_run_9 (tgt := 22) (by decide) (fun c2 => ?_) (fun c2 => ?_)
    ·
      refine r_aload_n h 0 dX7_run_22 rfl rfl ?_
      refine r_get hP h iX7 0 (fx_c0 _ _ _ σ) rfl 1 (by decide) tb2_12 rfl (v := .ref (a 2)) rfl dX7_run_23 ?_
      refine r_callV hP (hD.weaken (fun _ _ _ _ => trivial)) h (rX3_size l D a cI cZ σ) tb2_63 tb2_64 tb2_65 tb1_4 tb2_66 ⟨rfl, rfl⟩ (n := 0) (by decide +kernel) ⟨Nat.le_of_ble_eq_true rfl, Nat.le_of_ble_eq_true rfl⟩ (As := []) rfl (ci := 3) (q0 := 2) rfl (fx_c2 _ _ _ σ) (st := []) rfl (Nat.le_of_ble_eq_true rfl) dX7_run_26 ?_
      generalize hq3 : (fX3_size σ) = q3
      refine r_if_ne h dX7_run_29 (tgt := 42) (by decide) (fun c4 => ?_) (fun c4 => ?_)
      ·
        subst hq3
        have E : cX7_runx σ x1 = 0 := j_ig c1 (j_ip c2 (j_ig c4 rfl))
        exact absurd (E.symm.trans hk) (by decide)
      ·
        subst hq3
        have E : cX7_runx σ x1 = 2 := j_ig c1 (j_ip c2 (j_ip c4 rfl))
        exact absurd (E.symm.trans hk) (by decide)
    ·
      have E : cX7_runx σ x1 = 1 := j_ig c1 (j_ig c2 rfl)
      obtain ⟨sa, hs1, hs2⟩ := z_text (args := args) (k := 90) (tx := "n is not 1 .. 2000") (by decide +kernel) hZ
      exact r_throw hP hD h hl (names := zNames) (by decide +kernel) (by decide +kernel) tb2_83 tb1_15 tb2_84 (z_at 42 (by decide +kernel) za_42 h.2.2.2.2.1 hZ) hs1 hs2 dX7_run_12 dX7_run_15 dX7_run_16 dX7_run_18 dX7_run_21 (fun x hx => (hne x hx).elim) (by decide) (Nat.le_of_ble_eq_true rfl) ⟨by decide, by decide⟩
set_option maxRecDepth 100000 in
set_option maxHeartbeats 4000000 in
theorem tX7_run_2 (l : Launch) (hl : l.stackTraces = false) (D : va_G) (a : Nat → Nat) (cI cZ : ClassId) (σ : St) (x1 : Int32) (hk : cX7_runx σ x1 = 2) : CT l yX7_run cX7_run 3 (some .int) TB rtX7_run D vwCl [(cI, .int), (cZ, .boolean)] [.ref (a 0), .int x1] (fx a cI cZ σ) "java/lang/IllegalStateException" := by
  refine CT_of (cc := cX7_run) (maxL := 3) (ret := (some .int)) (by decide +kernel) TBg (Nat.le_of_ble_eq_true rfl) ?_
  intro p e s m args below meth c A h hP hD hZ hne
  refine r_iload_n h 1 dX7_run_0 rfl rfl ?_
  refine r_iconst h (v := 1) dX7_run_1 (by decide) ?_
  refine r_icmp_lt h dX7_run_2 (tgt := 12) (by decide) (fun c1 => ?_) (fun c1 => ?_)
  ·
    have E : cX7_runx σ x1 = 1 := j_ip c1 rfl
    exact absurd (E.symm.trans hk) (by decide)
  ·
    refine r_iload_n h 1 dX7_run_5 rfl rfl ?_
    refine r_sipush h (v := 2000) dX7_run_6 (by decide) ?_
    refine r_icmp_le h dX7_run_9 (tgt := 22) (by decide) (fun c2 => ?_) (fun c2 => ?_)
    ·
      refine r_aload_n h 0 dX7_run_22 rfl rfl ?_
      refine r_get hP h iX7 0 (fx_c0 _ _ _ σ) rfl 1 (by decide) tb2_12 rfl (v := .ref (a 2)) rfl dX7_run_23 ?_
      refine r_callV hP (hD.weaken (fun _ _ _ _ => trivial)) h (rX3_size l D a cI cZ σ) tb2_63 tb2_64 tb2_65 tb1_4 tb2_66 ⟨rfl, rfl⟩ (n := 0) (by decide +kernel) ⟨Nat.le_of_ble_eq_true rfl, Nat.le_of_ble_eq_true rfl⟩ (As := []) rfl (ci := 3) (q0 := 2) rfl (fx_c2 _ _ _ σ) (st := []) rfl (Nat.le_of_ble_eq_true rfl) dX7_run_26 ?_
      generalize hq3 : (fX3_size σ) = q3
      refine r_if_ne h dX7_run_29 (tgt := 42) (by decide) (fun c4 => ?_) (fun c4 => ?_)
      ·
        subst hq3
        have E : cX7_runx σ x1 = 0 := j_ig c1 (j_ip c2 (j_ig c4 rfl))
        exact absurd (E.symm.trans hk) (by decide)
      ·
        subst hq3
        have E : cX7_runx σ x1 = 2 := j_ig c1 (j_ip c2 (j_ip c4 rfl))
        obtain ⟨sa, hs1, hs2⟩ := z_text (args := args) (k := 92) (tx := "there are no words") (by decide +kernel) hZ
        exact r_throw hP hD h hl (names := zNames) (by decide +kernel) (by decide +kernel) tb2_153 tb1_16 tb2_154 (z_at 61 (by decide +kernel) za_61 h.2.2.2.2.1 hZ) hs1 hs2 dX7_run_32 dX7_run_35 dX7_run_36 dX7_run_38 dX7_run_41 (fun x hx => (hne x hx).elim) (by decide) (Nat.le_of_ble_eq_true rfl) ⟨by decide, by decide⟩
    ·
      have E : cX7_runx σ x1 = 1 := j_ig c1 (j_ig c2 rfl)
      exact absurd (E.symm.trans hk) (by decide)
def cX7_stagex (σ : St) (x1 x2 : Int32) : Int32 := (let q1 := (fX7_isBelow x1 (σ.1 0)); (if q1 = 0 then 1 else (let q3 := (fX7_isBelow x2 2); (if q3 = 0 then 1 else 0))))
def rtX7_stage : Room := { frames := 6, cells := 1, slots := 6, locals := 90 }
set_option maxRecDepth 100000 in
set_option maxHeartbeats 4000000 in
theorem tX7_stage_1 (l : Launch) (hl : l.stackTraces = false) (D : va_G) (a : Nat → Nat) (cI cZ : ClassId) (σ : St) (x1 x2 : Int32) (hk : cX7_stagex σ x1 x2 = 1) : CT l yX7_stage cX7_stage 3 (some .int) TB rtX7_stage D vwCl [(cI, .int), (cZ, .boolean)] [.ref (a 0), .int x1, .int x2] (fx a cI cZ σ) "java/lang/IndexOutOfBoundsException" := by
  refine CT_of (cc := cX7_stage) (maxL := 3) (ret := (some .int)) (by decide +kernel) TBg (Nat.le_of_ble_eq_true rfl) ?_
  intro p e s m args below meth c A h hP hD hZ hne
  refine r_iload_n h 1 dX7_stage_0 rfl rfl ?_
  refine r_aload_n h 0 dX7_stage_1 rfl rfl ?_
  refine r_get hP h iX7 0 (fx_c0 _ _ _ σ) rfl 0 (by decide) tb2_11 rfl (v := .ref (a 1)) rfl dX7_stage_2 ?_
  refine r_get hP h iX4 1 (fx_c1 _ _ _ σ) rfl 0 (by decide) tb1_40 rfl (v := .int (σ.1 0)) rfl dX7_stage_5 ?_
  refine r_callS h (rX7_isBelow l D cI cZ x1 (σ.1 0)) tb2_80 tb2_81 tb1_1 tb2_82 ⟨rfl, rfl⟩ (n := 2) (by decide +kernel) ⟨Nat.le_of_ble_eq_true rfl, Nat.le_of_ble_eq_true rfl⟩ (As := [.int x1, .int (σ.1 0)]) rfl (st := []) rfl (Nat.le_of_ble_eq_true rfl) dX7_stage_8 ?_
  generalize hq1 : (fX7_isBelow x1 (σ.1 0)) = q1
  refine r_if_eq h dX7_stage_11 (tgt := 22) (by decide) (fun c2 => ?_) (fun c2 => ?_)
  ·
    subst hq1
    have E : cX7_stagex σ x1 x2 = 1 := j_ip c2 rfl
    obtain ⟨sa, hs1, hs2⟩ := z_text (args := args) (k := 105) (tx := "no such stage or what") (by decide +kernel) hZ
    exact r_throw hP hD h hl (names := zNames) (by decide +kernel) (by decide +kernel) tb3_128 tb1_18 tb3_129 (z_at 107 (by decide +kernel) za_107 h.2.2.2.2.1 hZ) hs1 hs2 dX7_stage_22 dX7_stage_25 dX7_stage_26 dX7_stage_28 dX7_stage_31 (fun x hx => (hne x hx).elim) (by decide) (Nat.le_of_ble_eq_true rfl) ⟨by decide, by decide⟩
  ·
    refine r_iload_n h 2 dX7_stage_14 rfl rfl ?_
    refine r_iconst h (v := 2) dX7_stage_15 (by decide) ?_
    refine r_callS h (rX7_isBelow l D cI cZ x2 2) tb2_80 tb2_81 tb1_1 tb2_82 ⟨rfl, rfl⟩ (n := 2) (by decide +kernel) ⟨Nat.le_of_ble_eq_true rfl, Nat.le_of_ble_eq_true rfl⟩ (As := [.int x2, .int 2]) rfl (st := []) rfl (Nat.le_of_ble_eq_true rfl) dX7_stage_16 ?_
    generalize hq3 : (fX7_isBelow x2 2) = q3
    refine r_if_ne h dX7_stage_19 (tgt := 32) (by decide) (fun c4 => ?_) (fun c4 => ?_)
    ·
      subst hq1 hq3
      have E : cX7_stagex σ x1 x2 = 0 := j_ig c2 (j_ig c4 rfl)
      exact absurd (E.symm.trans hk) (by decide)
    ·
      subst hq1 hq3
      have E : cX7_stagex σ x1 x2 = 1 := j_ig c2 (j_ip c4 rfl)
      obtain ⟨sa, hs1, hs2⟩ := z_text (args := args) (k := 105) (tx := "no such stage or what") (by decide +kernel) hZ
      exact r_throw hP hD h hl (names := zNames) (by decide +kernel) (by decide +kernel) tb3_128 tb1_18 tb3_129 (z_at 107 (by decide +kernel) za_107 h.2.2.2.2.1 hZ) hs1 hs2 dX7_stage_22 dX7_stage_25 dX7_stage_26 dX7_stage_28 dX7_stage_31 (fun x hx => (hne x hx).elim) (by decide) (Nat.le_of_ble_eq_true rfl) ⟨by decide, by decide⟩
def cX7_committedx (σ : St) (x1 x2 : Int32) : Int32 := (let q1 := (fX0_size σ); (let q2 := (fX7_isBelow x1 q1); (if q2 = 0 then 1 else (let q4 := (fX7_isBelow x2 3); (if q4 = 0 then 1 else 0)))))
def rtX7_committed : Room := { frames := 6, cells := 1, slots := 6, locals := 90 }
set_option maxRecDepth 100000 in
set_option maxHeartbeats 4000000 in
theorem tX7_committed_1 (l : Launch) (hl : l.stackTraces = false) (D : va_G) (a : Nat → Nat) (cI cZ : ClassId) (σ : St) (x1 x2 : Int32) (hk : cX7_committedx σ x1 x2 = 1) : CT l yX7_committed cX7_committed 3 (some .int) TB rtX7_committed D vwCl [(cI, .int), (cZ, .boolean)] [.ref (a 0), .int x1, .int x2] (fx a cI cZ σ) "java/lang/IndexOutOfBoundsException" := by
  refine CT_of (cc := cX7_committed) (maxL := 3) (ret := (some .int)) (by decide +kernel) TBg (Nat.le_of_ble_eq_true rfl) ?_
  intro p e s m args below meth c A h hP hD hZ hne
  refine r_iload_n h 1 dX7_committed_0 rfl rfl ?_
  refine r_aload_n h 0 dX7_committed_1 rfl rfl ?_
  refine r_get hP h iX7 0 (fx_c0 _ _ _ σ) rfl 2 (by decide) tb2_13 rfl (v := .ref (a 8)) rfl dX7_committed_2 ?_
  refine r_get hP h iX1 8 (fx_c8 _ _ _ σ) rfl 3 (by decide) tb1_207 rfl (v := .ref (a 13)) rfl dX7_committed_5 ?_
  refine r_callV hP (hD.weaken (fun _ _ _ _ => trivial)) h (rX0_size l D a cI cZ σ) tb3_153 tb3_154 tb3_155 tb1_8 tb3_156 ⟨rfl, rfl⟩ (n := 0) (by decide +kernel) ⟨Nat.le_of_ble_eq_true rfl, Nat.le_of_ble_eq_true rfl⟩ (As := []) rfl (ci := 0) (q0 := 13) rfl (fx_c13 _ _ _ σ) (st := [.int x1]) rfl (Nat.le_of_ble_eq_true rfl) dX7_committed_8 ?_
  generalize hq1 : (fX0_size σ) = q1
  refine r_callS h (rX7_isBelow l D cI cZ x1 q1) tb2_80 tb2_81 tb1_1 tb2_82 ⟨rfl, rfl⟩ (n := 2) (by decide +kernel) ⟨Nat.le_of_ble_eq_true rfl, Nat.le_of_ble_eq_true rfl⟩ (As := [.int x1, .int q1]) rfl (st := []) rfl (Nat.le_of_ble_eq_true rfl) dX7_committed_11 ?_
  generalize hq2 : (fX7_isBelow x1 q1) = q2
  refine r_if_eq h dX7_committed_14 (tgt := 25) (by decide) (fun c3 => ?_) (fun c3 => ?_)
  ·
    subst hq1 hq2
    have E : cX7_committedx σ x1 x2 = 1 := j_ip c3 rfl
    obtain ⟨sa, hs1, hs2⟩ := z_text (args := args) (k := 129) (tx := "no such committed one or what") (by decide +kernel) hZ
    exact r_throw hP hD h hl (names := zNames) (by decide +kernel) (by decide +kernel) tb3_128 tb1_18 tb3_129 (z_at 107 (by decide +kernel) za_107 h.2.2.2.2.1 hZ) hs1 hs2 dX7_committed_25 dX7_committed_28 dX7_committed_29 dX7_committed_31 dX7_committed_34 (fun x hx => (hne x hx).elim) (by decide) (Nat.le_of_ble_eq_true rfl) ⟨by decide, by decide⟩
  ·
    refine r_iload_n h 2 dX7_committed_17 rfl rfl ?_
    refine r_iconst h (v := 3) dX7_committed_18 (by decide) ?_
    refine r_callS h (rX7_isBelow l D cI cZ x2 3) tb2_80 tb2_81 tb1_1 tb2_82 ⟨rfl, rfl⟩ (n := 2) (by decide +kernel) ⟨Nat.le_of_ble_eq_true rfl, Nat.le_of_ble_eq_true rfl⟩ (As := [.int x2, .int 3]) rfl (st := []) rfl (Nat.le_of_ble_eq_true rfl) dX7_committed_19 ?_
    generalize hq4 : (fX7_isBelow x2 3) = q4
    refine r_if_ne h dX7_committed_22 (tgt := 35) (by decide) (fun c5 => ?_) (fun c5 => ?_)
    ·
      subst hq1 hq2 hq4
      have E : cX7_committedx σ x1 x2 = 0 := j_ig c3 (j_ig c5 rfl)
      exact absurd (E.symm.trans hk) (by decide)
    ·
      subst hq1 hq2 hq4
      have E : cX7_committedx σ x1 x2 = 1 := j_ig c3 (j_ip c5 rfl)
      obtain ⟨sa, hs1, hs2⟩ := z_text (args := args) (k := 129) (tx := "no such committed one or what") (by decide +kernel) hZ
      exact r_throw hP hD h hl (names := zNames) (by decide +kernel) (by decide +kernel) tb3_128 tb1_18 tb3_129 (z_at 107 (by decide +kernel) za_107 h.2.2.2.2.1 hZ) hs1 hs2 dX7_committed_25 dX7_committed_28 dX7_committed_29 dX7_committed_31 dX7_committed_34 (fun x hx => (hne x hx).elim) (by decide) (Nat.le_of_ble_eq_true rfl) ⟨by decide, by decide⟩
def cX7_registerx (σ : St) (x1 : Int32) : Int32 := (let q1 := (fX7_isBelow x1 8); (if q1 = 0 then 1 else 0))
def rtX7_register : Room := { frames := 6, cells := 1, slots := 6, locals := 90 }
set_option maxRecDepth 100000 in
set_option maxHeartbeats 4000000 in
theorem tX7_register_1 (l : Launch) (hl : l.stackTraces = false) (D : va_G) (a : Nat → Nat) (cI cZ : ClassId) (σ : St) (x1 : Int32) (hk : cX7_registerx σ x1 = 1) : CT l yX7_register cX7_register 2 (some .int) TB rtX7_register D vwCl [(cI, .int), (cZ, .boolean)] [.ref (a 0), .int x1] (fx a cI cZ σ) "java/lang/IndexOutOfBoundsException" := by
  refine CT_of (cc := cX7_register) (maxL := 2) (ret := (some .int)) (by decide +kernel) TBg (Nat.le_of_ble_eq_true rfl) ?_
  intro p e s m args below meth c A h hP hD hZ hne
  refine r_iload_n h 1 dX7_register_0 rfl rfl ?_
  refine r_bipush h (v := 8) dX7_register_1 (by decide) ?_
  refine r_callS h (rX7_isBelow l D cI cZ x1 8) tb2_80 tb2_81 tb1_1 tb2_82 ⟨rfl, rfl⟩ (n := 2) (by decide +kernel) ⟨Nat.le_of_ble_eq_true rfl, Nat.le_of_ble_eq_true rfl⟩ (As := [.int x1, .int 8]) rfl (st := []) rfl (Nat.le_of_ble_eq_true rfl) dX7_register_3 ?_
  generalize hq1 : (fX7_isBelow x1 8) = q1
  refine r_if_ne h dX7_register_6 (tgt := 19) (by decide) (fun c2 => ?_) (fun c2 => ?_)
  ·
    subst hq1
    have E : cX7_registerx σ x1 = 0 := j_ig c2 rfl
    exact absurd (E.symm.trans hk) (by decide)
  ·
    subst hq1
    have E : cX7_registerx σ x1 = 1 := j_ip c2 rfl
    obtain ⟨sa, hs1, hs2⟩ := z_text (args := args) (k := 45) (tx := "no such register") (by decide +kernel) hZ
    exact r_throw hP hD h hl (names := zNames) (by decide +kernel) (by decide +kernel) tb3_128 tb1_18 tb3_129 (z_at 107 (by decide +kernel) za_107 h.2.2.2.2.1 hZ) hs1 hs2 dX7_register_9 dX7_register_12 dX7_register_13 dX7_register_15 dX7_register_18 (fun x hx => (hne x hx).elim) (by decide) (Nat.le_of_ble_eq_true rfl) ⟨by decide, by decide⟩
def cX7_memoryx (σ : St) (x1 : Int32) : Int32 := (let q1 := (fX7_isBelow x1 64); (if q1 = 0 then 1 else 0))
def rtX7_memory : Room := { frames := 6, cells := 1, slots := 6, locals := 90 }
set_option maxRecDepth 100000 in
set_option maxHeartbeats 4000000 in
theorem tX7_memory_1 (l : Launch) (hl : l.stackTraces = false) (D : va_G) (a : Nat → Nat) (cI cZ : ClassId) (σ : St) (x1 : Int32) (hk : cX7_memoryx σ x1 = 1) : CT l yX7_memory cX7_memory 2 (some .int) TB rtX7_memory D vwCl [(cI, .int), (cZ, .boolean)] [.ref (a 0), .int x1] (fx a cI cZ σ) "java/lang/IndexOutOfBoundsException" := by
  refine CT_of (cc := cX7_memory) (maxL := 2) (ret := (some .int)) (by decide +kernel) TBg (Nat.le_of_ble_eq_true rfl) ?_
  intro p e s m args below meth c A h hP hD hZ hne
  refine r_iload_n h 1 dX7_memory_0 rfl rfl ?_
  refine r_bipush h (v := 64) dX7_memory_1 (by decide) ?_
  refine r_callS h (rX7_isBelow l D cI cZ x1 64) tb2_80 tb2_81 tb1_1 tb2_82 ⟨rfl, rfl⟩ (n := 2) (by decide +kernel) ⟨Nat.le_of_ble_eq_true rfl, Nat.le_of_ble_eq_true rfl⟩ (As := [.int x1, .int 64]) rfl (st := []) rfl (Nat.le_of_ble_eq_true rfl) dX7_memory_3 ?_
  generalize hq1 : (fX7_isBelow x1 64) = q1
  refine r_if_ne h dX7_memory_6 (tgt := 19) (by decide) (fun c2 => ?_) (fun c2 => ?_)
  ·
    subst hq1
    have E : cX7_memoryx σ x1 = 0 := j_ig c2 rfl
    exact absurd (E.symm.trans hk) (by decide)
  ·
    subst hq1
    have E : cX7_memoryx σ x1 = 1 := j_ip c2 rfl
    obtain ⟨sa, hs1, hs2⟩ := z_text (args := args) (k := 144) (tx := "no such place") (by decide +kernel) hZ
    exact r_throw hP hD h hl (names := zNames) (by decide +kernel) (by decide +kernel) tb3_128 tb1_18 tb3_129 (z_at 107 (by decide +kernel) za_107 h.2.2.2.2.1 hZ) hs1 hs2 dX7_memory_9 dX7_memory_12 dX7_memory_13 dX7_memory_15 dX7_memory_18 (fun x hx => (hne x hx).elim) (by decide) (Nat.le_of_ble_eq_true rfl) ⟨by decide, by decide⟩
def cX7_causex (σ : St) (x1 : Int32) : Int32 := (let q1 := (fX7_isBelow x1 5); (if q1 = 0 then 1 else 0))
def rtX7_cause : Room := { frames := 6, cells := 1, slots := 6, locals := 90 }
set_option maxRecDepth 100000 in
set_option maxHeartbeats 4000000 in
theorem tX7_cause_1 (l : Launch) (hl : l.stackTraces = false) (D : va_G) (a : Nat → Nat) (cI cZ : ClassId) (σ : St) (x1 : Int32) (hk : cX7_causex σ x1 = 1) : CT l yX7_cause cX7_cause 2 (some .int) TB rtX7_cause D vwCl [(cI, .int), (cZ, .boolean)] [.ref (a 0), .int x1] (fx a cI cZ σ) "java/lang/IndexOutOfBoundsException" := by
  refine CT_of (cc := cX7_cause) (maxL := 2) (ret := (some .int)) (by decide +kernel) TBg (Nat.le_of_ble_eq_true rfl) ?_
  intro p e s m args below meth c A h hP hD hZ hne
  refine r_iload_n h 1 dX7_cause_0 rfl rfl ?_
  refine r_iconst h (v := 5) dX7_cause_1 (by decide) ?_
  refine r_callS h (rX7_isBelow l D cI cZ x1 5) tb2_80 tb2_81 tb1_1 tb2_82 ⟨rfl, rfl⟩ (n := 2) (by decide +kernel) ⟨Nat.le_of_ble_eq_true rfl, Nat.le_of_ble_eq_true rfl⟩ (As := [.int x1, .int 5]) rfl (st := []) rfl (Nat.le_of_ble_eq_true rfl) dX7_cause_2 ?_
  generalize hq1 : (fX7_isBelow x1 5) = q1
  refine r_if_ne h dX7_cause_5 (tgt := 18) (by decide) (fun c2 => ?_) (fun c2 => ?_)
  ·
    subst hq1
    have E : cX7_causex σ x1 = 0 := j_ig c2 rfl
    exact absurd (E.symm.trans hk) (by decide)
  ·
    subst hq1
    have E : cX7_causex σ x1 = 1 := j_ip c2 rfl
    obtain ⟨sa, hs1, hs2⟩ := z_text (args := args) (k := 149) (tx := "no such cause") (by decide +kernel) hZ
    exact r_throw hP hD h hl (names := zNames) (by decide +kernel) (by decide +kernel) tb3_128 tb1_18 tb3_129 (z_at 107 (by decide +kernel) za_107 h.2.2.2.2.1 hZ) hs1 hs2 dX7_cause_8 dX7_cause_11 dX7_cause_12 dX7_cause_14 dX7_cause_17 (fun x hx => (hne x hx).elim) (by decide) (Nat.le_of_ble_eq_true rfl) ⟨by decide, by decide⟩
/-! and without a throw -/
def fX7_word (σ : St) (x1 x2 x3 x4 x5 : Int32) : Int32 × St := (let q1 := (fX7_isBelow x1 8); (if q1 = 0 then (0, σ) else (let q3 := (fX7_isBelow x2 8); (if q3 = 0 then (0, σ) else (let q5 := (fX7_isBelow x3 8); (if q5 = 0 then (0, σ) else (let q7 := (fX7_isBelow x4 8); (if q7 = 0 then (0, σ) else (if (σ.1 9) = 0 then (let q10 := (fX3_size σ); (if q10 < 64 then (let q12 := (fX3_append σ x1 x2 x3 x4 x5); (q12.1, q12.2)) else (0, σ))) else (0, σ))))))))))
def rmX7_word : Room := { frames := 3, cells := 0, slots := 0, locals := 65 }
set_option maxRecDepth 100000 in
set_option maxHeartbeats 4000000 in
theorem kX7_word (l : Launch) (D : va_G) (a : Nat → Nat) (cI cZ : ClassId) (σ : St) (x1 x2 x3 x4 x5 : Int32) (hk : cX7_wordx σ x1 x2 x3 x4 x5 = 0) : Ci l yX7_word cX7_word 6 (some .int) TB rmX7_word D vwCl [(cI, .int), (cZ, .boolean)] [.ref (a 0), .int x1, .int x2, .int x3, .int x4, .int x5] (fx a cI cZ σ) (fx a cI cZ (fX7_word σ x1 x2 x3 x4 x5).2) (fX7_word σ x1 x2 x3 x4 x5).1 := by
  refine Ci_of (cc := cX7_word) (maxL := 6) (ret := (some .int)) (by decide +kernel) TBg (Nat.le_of_ble_eq_true rfl) ?_
  intro p e s m args below meth c A h hr
  refine j_iload_n h 1 dX7_word_0 rfl rfl ?_
  refine j_bipush h (v := 8) dX7_word_1 (by decide) ?_
  refine j_callSi0 h (kX7_isBelow l D cI cZ x1 8) tb2_80 tb2_81 tb1_1 tb2_82 ⟨rfl, rfl⟩ (n := 2) (by decide +kernel) ⟨Nat.le_of_ble_eq_true rfl, Nat.le_of_ble_eq_true rfl⟩ (As := [.int x1, .int 8]) rfl (st := []) rfl (Nat.le_of_ble_eq_true rfl) dX7_word_3 ⟨Nat.zero_le _, Nat.zero_le _⟩ ?_
  generalize hq1 : (fX7_isBelow x1 8) = q1
  refine j_if_ne h dX7_word_6 (tgt := 19) (by decide) (fun c2 => ?_) (fun c2 => ?_)
  ·
    refine j_iload_n h 2 dX7_word_19 rfl rfl ?_
    refine j_bipush h (v := 8) dX7_word_20 (by decide) ?_
    refine j_callSi0 h (kX7_isBelow l D cI cZ x2 8) tb2_80 tb2_81 tb1_1 tb2_82 ⟨rfl, rfl⟩ (n := 2) (by decide +kernel) ⟨Nat.le_of_ble_eq_true rfl, Nat.le_of_ble_eq_true rfl⟩ (As := [.int x2, .int 8]) rfl (st := []) rfl (Nat.le_of_ble_eq_true rfl) dX7_word_22 ⟨Nat.zero_le _, Nat.zero_le _⟩ ?_
    generalize hq3 : (fX7_isBelow x2 8) = q3
    refine j_if_eq h dX7_word_25 (tgt := 47) (by decide) (fun c4 => ?_) (fun c4 => ?_)
    ·
      subst hq1 hq3
      have E : cX7_wordx σ x1 x2 x3 x4 x5 = 1 := j_ig c2 (j_ip c4 rfl)
      exact absurd (E.symm.trans hk) (by decide)
    ·
      refine j_iload_n h 3 dX7_word_28 rfl rfl ?_
      refine j_bipush h (v := 8) dX7_word_29 (by decide) ?_
      refine j_callSi0 h (kX7_isBelow l D cI cZ x3 8) tb2_80 tb2_81 tb1_1 tb2_82 ⟨rfl, rfl⟩ (n := 2) (by decide +kernel) ⟨Nat.le_of_ble_eq_true rfl, Nat.le_of_ble_eq_true rfl⟩ (As := [.int x3, .int 8]) rfl (st := []) rfl (Nat.le_of_ble_eq_true rfl) dX7_word_31 ⟨Nat.zero_le _, Nat.zero_le _⟩ ?_
      generalize hq5 : (fX7_isBelow x3 8) = q5
      refine j_if_eq h dX7_word_34 (tgt := 47) (by decide) (fun c6 => ?_) (fun c6 => ?_)
      ·
        subst hq1 hq3 hq5
        have E : cX7_wordx σ x1 x2 x3 x4 x5 = 1 := j_ig c2 (j_ig c4 (j_ip c6 rfl))
        exact absurd (E.symm.trans hk) (by decide)
      ·
        refine j_iload h 4 dX7_word_37 rfl ?_
        refine j_bipush h (v := 8) dX7_word_39 (by decide) ?_
        refine j_callSi0 h (kX7_isBelow l D cI cZ x4 8) tb2_80 tb2_81 tb1_1 tb2_82 ⟨rfl, rfl⟩ (n := 2) (by decide +kernel) ⟨Nat.le_of_ble_eq_true rfl, Nat.le_of_ble_eq_true rfl⟩ (As := [.int x4, .int 8]) rfl (st := []) rfl (Nat.le_of_ble_eq_true rfl) dX7_word_41 ⟨Nat.zero_le _, Nat.zero_le _⟩ ?_
        generalize hq7 : (fX7_isBelow x4 8) = q7
        refine j_if_ne h dX7_word_44 (tgt := 57) (by decide) (fun c8 => ?_) (fun c8 => ?_)
        ·
          refine j_aload_n h 0 dX7_word_57 rfl rfl ?_
          refine j_get h iX7 0 (fx_c0 _ _ _ σ) rfl 2 (by decide) tb2_13 rfl (v := .ref (a 8)) rfl dX7_word_58 ?_
          refine j_get h iX1 8 (fx_c8 _ _ _ σ) rfl 4 (by decide) tb1_209 rfl (v := .ref (a 17)) rfl dX7_word_61 ?_
          refine j_get h iX6 17 (fx_c17 _ _ _ σ) rfl 1 (by decide) tb1_149 rfl (v := .int (σ.1 9)) rfl dX7_word_64 ?_
          refine j_if_eq h dX7_word_67 (tgt := 80) (by decide) (fun c9 => ?_) (fun c9 => ?_)
          ·
            refine j_aload_n h 0 dX7_word_80 rfl rfl ?_
            refine j_get h iX7 0 (fx_c0 _ _ _ σ) rfl 1 (by decide) tb2_12 rfl (v := .ref (a 2)) rfl dX7_word_81 ?_
            refine j_callVi h (kX3_size l D a cI cZ σ) tb2_63 tb2_64 tb2_65 tb1_4 tb2_66 ⟨rfl, rfl⟩ (n := 0) (by decide +kernel) ⟨Nat.le_of_ble_eq_true rfl, Nat.le_of_ble_eq_true rfl⟩ (As := []) rfl (ci := 3) (q0 := 2) rfl (fx_c2 _ _ _ σ) (st := []) rfl (Nat.le_of_ble_eq_true rfl) dX7_word_84 ⟨Nat.zero_le _, Nat.zero_le _⟩ ?_
            generalize hq10 : (fX3_size σ) = q10
            refine j_bipush h (v := 64) dX7_word_87 (by decide) ?_
            refine j_icmp_lt h dX7_word_89 (tgt := 102) (by decide) (fun c11 => ?_) (fun c11 => ?_)
            ·
              refine j_aload_n h 0 dX7_word_102 rfl rfl ?_
              refine j_get h iX7 0 (fx_c0 _ _ _ σ) rfl 1 (by decide) tb2_12 rfl (v := .ref (a 2)) rfl dX7_word_103 ?_
              refine j_iload_n h 1 dX7_word_106 rfl rfl ?_
              refine j_iload_n h 2 dX7_word_107 rfl rfl ?_
              refine j_iload_n h 3 dX7_word_108 rfl rfl ?_
              refine j_iload h 4 dX7_word_109 rfl ?_
              refine j_iload h 5 dX7_word_111 rfl ?_
              refine j_callVi h (kX3_append l D a cI cZ σ x1 x2 x3 x4 x5) tb2_185 tb2_186 tb2_187 tb1_4 tb2_188 ⟨rfl, rfl⟩ (n := 5) (by decide +kernel) ⟨Nat.le_of_ble_eq_true rfl, Nat.le_of_ble_eq_true rfl⟩ (As := [.int x1, .int x2, .int x3, .int x4, .int x5]) rfl (ci := 3) (q0 := 2) rfl (fx_c2 _ _ _ σ) (st := []) rfl (Nat.le_of_ble_eq_true rfl) dX7_word_113 ⟨Nat.zero_le _, Nat.zero_le _⟩ ?_
              generalize hq12 : (fX3_append σ x1 x2 x3 x4 x5) = q12
              subst hq1 hq3 hq5 hq7 hq10 hq12
              have E : fX7_word σ x1 x2 x3 x4 x5 = ((fX3_append σ x1 x2 x3 x4 x5).1, (fX3_append σ x1 x2 x3 x4 x5).2) := j_ig c2 (j_ig c4 (j_ig c6 (j_ig c8 (j_ip c9 (j_ip c11 rfl)))))
              exact j_ireturn h hr (congrArg Prod.fst E).symm (congrArg (fun z => fx a cI cZ z.2) E).symm dX7_word_116
            ·
              subst hq1 hq3 hq5 hq7 hq10
              have E : cX7_wordx σ x1 x2 x3 x4 x5 = 3 := j_ig c2 (j_ig c4 (j_ig c6 (j_ig c8 (j_ip c9 (j_ig c11 rfl)))))
              exact absurd (E.symm.trans hk) (by decide)
          ·
            subst hq1 hq3 hq5 hq7
            have E : cX7_wordx σ x1 x2 x3 x4 x5 = 2 := j_ig c2 (j_ig c4 (j_ig c6 (j_ig c8 (j_ig c9 rfl))))
            exact absurd (E.symm.trans hk) (by decide)
        ·
          subst hq1 hq3 hq5 hq7
          have E : cX7_wordx σ x1 x2 x3 x4 x5 = 1 := j_ig c2 (j_ig c4 (j_ig c6 (j_ip c8 rfl)))
          exact absurd (E.symm.trans hk) (by decide)
  ·
    subst hq1
    have E : cX7_wordx σ x1 x2 x3 x4 x5 = 1 := j_ip c2 rfl
    exact absurd (E.symm.trans hk) (by decide)
def fX7_set (σ : St) (x1 x2 : Int32) : Int32 × St := (let q1 := (fX7_isBelow x2 64); (if q1 = 0 then (0, σ) else (if (σ.1 9) = 0 then ((σ.1 16), (sg (sg σ 16 x1) 17 x2)) else (0, σ))))
def rmX7_set : Room := { frames := 1, cells := 0, slots := 0, locals := 21 }
set_option maxRecDepth 100000 in
set_option maxHeartbeats 4000000 in
theorem kX7_set (l : Launch) (D : va_G) (a : Nat → Nat) (cI cZ : ClassId) (σ : St) (x1 x2 : Int32) (hx : x1 = 0 ∨ x1 = 1) (hf : (σ.1 16) = 0 ∨ (σ.1 16) = 1) (hk : cX7_setx σ x1 x2 = 0) : Ci l yX7_set cX7_set 4 (some .boolean) TB rmX7_set D vwCl [(cI, .int), (cZ, .boolean)] [.ref (a 0), .int x1, .int x2] (fx a cI cZ σ) (fx a cI cZ (fX7_set σ x1 x2).2) (fX7_set σ x1 x2).1 := by
  refine Ci_of (cc := cX7_set) (maxL := 4) (ret := (some .boolean)) (by decide +kernel) TBg (Nat.le_of_ble_eq_true rfl) ?_
  intro p e s m args below meth c A h hr
  refine j_iload_n h 2 dX7_set_0 rfl rfl ?_
  refine j_bipush h (v := 64) dX7_set_1 (by decide) ?_
  refine j_callSi0 h (kX7_isBelow l D cI cZ x2 64) tb2_80 tb2_81 tb1_1 tb2_82 ⟨rfl, rfl⟩ (n := 2) (by decide +kernel) ⟨Nat.le_of_ble_eq_true rfl, Nat.le_of_ble_eq_true rfl⟩ (As := [.int x2, .int 64]) rfl (st := []) rfl (Nat.le_of_ble_eq_true rfl) dX7_set_3 ⟨Nat.zero_le _, Nat.zero_le _⟩ ?_
  generalize hq1 : (fX7_isBelow x2 64) = q1
  refine j_if_ne h dX7_set_6 (tgt := 19) (by decide) (fun c2 => ?_) (fun c2 => ?_)
  ·
    refine j_aload_n h 0 dX7_set_19 rfl rfl ?_
    refine j_get h iX7 0 (fx_c0 _ _ _ σ) rfl 2 (by decide) tb2_13 rfl (v := .ref (a 8)) rfl dX7_set_20 ?_
    refine j_get h iX1 8 (fx_c8 _ _ _ σ) rfl 4 (by decide) tb1_209 rfl (v := .ref (a 17)) rfl dX7_set_23 ?_
    refine j_get h iX6 17 (fx_c17 _ _ _ σ) rfl 1 (by decide) tb1_149 rfl (v := .int (σ.1 9)) rfl dX7_set_26 ?_
    refine j_if_eq h dX7_set_29 (tgt := 42) (by decide) (fun c3 => ?_) (fun c3 => ?_)
    ·
      refine j_aload_n h 0 dX7_set_42 rfl rfl ?_
      refine j_get h iX7 0 (fx_c0 _ _ _ σ) rfl 2 (by decide) tb2_13 rfl (v := .ref (a 8)) rfl dX7_set_43 ?_
      refine j_get h iX1 8 (fx_c8 _ _ _ σ) rfl 7 (by decide) tb1_214 rfl (v := .int (σ.1 16)) rfl dX7_set_46 ?_
      refine j_istore_n h (lv' := [(3, .int (σ.1 16)), (0, .ref (a 0)), (1, .int x1), (2, .int x2)]) dX7_set_49 rfl (by decide) rfl ?_
      refine j_aload_n h 1 dX7_set_50 rfl rfl ?_
      refine j_get h iX7 0 (fx_c0 _ _ _ σ) rfl 2 (by decide) tb2_13 rfl (v := .ref (a 8)) rfl dX7_set_51 ?_
      refine j_iload_n h 2 dX7_set_54 rfl rfl ?_
      refine j_put h iX1 tyX1 tyX1_ok nmX1 8 (fx_c8 _ _ _ σ) rfl 7 (by decide) tb1_214 rfl rfl (bz_n hx) (bz_f hx) (Nat.le_of_ble_eq_true rfl) (w' := (fx a cI cZ (sg σ 16 x1))) (fx_p8_7 _ _ _ σ _) dX7_set_55 ?_
      refine j_aload_n h 1 dX7_set_58 rfl rfl ?_
      refine j_get h iX7 0 (fx_c0 _ _ _ (sg σ 16 x1)) rfl 2 (by decide) tb2_13 rfl (v := .ref (a 8)) rfl dX7_set_59 ?_
      refine j_iload_n h 3 dX7_set_62 rfl rfl ?_
      refine j_put h iX1 tyX1 tyX1_ok nmX1 8 (fx_c8 _ _ _ (sg σ 16 x1)) rfl 8 (by decide) tb1_215 rfl rfl rfl rfl (Nat.le_of_ble_eq_true rfl) (w' := (fx a cI cZ (sg (sg σ 16 x1) 17 x2))) (fx_p8_8 _ _ _ (sg σ 16 x1) _) dX7_set_63 ?_
      refine j_iload_n h 0 dX7_set_66 rfl rfl ?_
      subst hq1
      have E : fX7_set σ x1 x2 = ((σ.1 16), (sg (sg σ 16 x1) 17 x2)) := j_ig c2 (j_ip c3 rfl)
      exact j_zreturn h hr (bz_n hf) (congrArg Prod.fst E).symm (congrArg (fun z => fx a cI cZ z.2) E).symm dX7_set_67
    ·
      subst hq1
      have E : cX7_setx σ x1 x2 = 2 := j_ig c2 (j_ig c3 rfl)
      exact absurd (E.symm.trans hk) (by decide)
  ·
    subst hq1
    have E : cX7_setx σ x1 x2 = 1 := j_ip c2 rfl
    exact absurd (E.symm.trans hk) (by decide)
theorem x_run {x : Int32} (h1 : ¬ x < 1) (h2 : x ≤ 2000) : (0 : Int32).toInt ≤ x.toInt ∧ x.toInt < (0 : Int32).toInt + ((2001 : Nat) : Int) := by
  rw [Int32.lt_iff_toInt_lt, show (1 : Int32).toInt = 1 by decide] at h1
  rw [Int32.le_iff_toInt_le, show (2000 : Int32).toInt = 2000 by decide] at h2
  rw [show (0 : Int32).toInt = 0 by decide]
  omega
def gfX7_run : Nat → St → Int32 → Int32 → (Int32 × St)
  | 0, σ, x1, x2 => (0, σ)
  | n + 1, σ, x1, x2 => (if x1 ≤ x2 then (x2, σ) else (if (σ.1 15) = 0 then (let q1003 := (fX1_doCycle σ); gfX7_run n q1003 x1 (x2 + 1)) else (x2, σ)))
def fX7_run (σ : St) (x1 : Int32) : Int32 × St := (if x1 < 1 then (0, σ) else (if x1 ≤ 2000 then (let q3 := (fX3_size σ); (if q3 = 0 then (0, σ) else gfX7_run 2001 σ x1 0)) else (0, σ)))
def rmX7_run : Room := { frames := 6, cells := 0, slots := 0, locals := 137 }
set_option maxRecDepth 100000 in
set_option maxHeartbeats 4000000 in
theorem kX7_run (l : Launch) (D : va_G) (a : Nat → Nat) (cI cZ : ClassId) (σ : St) (x1 : Int32) (hs : shp σ) (hk : cX7_runx σ x1 = 0) : Ci l yX7_run cX7_run 3 (some .int) TB rmX7_run D vwCl [(cI, .int), (cZ, .boolean)] [.ref (a 0), .int x1] (fx a cI cZ σ) (fx a cI cZ (fX7_run σ x1).2) (fX7_run σ x1).1 := by
  refine Ci_of (cc := cX7_run) (maxL := 3) (ret := (some .int)) (by decide +kernel) TBg (Nat.le_of_ble_eq_true rfl) ?_
  intro p e s m args below meth c A h hr
  have loop : ∀ (n : Nat) (σ : St) (x2 : Int32), shp σ → 0 ≤ x2.toInt → x2.toInt ≤ x1.toInt → x1.toInt < x2.toInt + n → J p l e rmX7_run s m args below meth c D vwCl A 3 0 0 (MQ below (jEi D vwCl [(cI, .int), (cZ, .boolean)] A (fx a cI cZ (gfX7_run n σ x1 x2).2) (gfX7_run n σ x1 x2).1) args s 0 0 A) (fx a cI cZ σ) 44 [(2, .int x2), (0, .ref (a 0)), (1, .int x1)] [] := by
    intro n
    induction n with
    | zero => intro σ x2 hs h3 h4 h5; exact absurd h5 (by omega)
    | succ n ih =>
      intro σ x2 hs h3 h4 h5
      refine j_iload_n h 0 dX7_run_44 rfl rfl ?_
      refine j_iload_n h 2 dX7_run_45 rfl rfl ?_
      refine j_icmp_ge h dX7_run_46 (tgt := 75) (by decide) (fun c1001 => ?_) (fun c1001 => ?_)
      ·
        refine j_iload_n h 0 dX7_run_75 rfl rfl ?_
        have E : gfX7_run (n + 1) σ x1 x2 = (x2, σ) := j_ip c1001 rfl
        exact j_ireturn h hr (congrArg Prod.fst E).symm (congrArg (fun z => fx a cI cZ z.2) E).symm dX7_run_76
      ·
        refine j_aload_n h 1 dX7_run_49 rfl rfl ?_
        refine j_get h iX7 0 (fx_c0 _ _ _ σ) rfl 2 (by decide) tb2_13 rfl (v := .ref (a 8)) rfl dX7_run_50 ?_
        refine j_get h iX1 8 (fx_c8 _ _ _ σ) rfl 4 (by decide) tb1_209 rfl (v := .ref (a 17)) rfl dX7_run_53 ?_
        refine j_get h iX6 17 (fx_c17 _ _ _ σ) rfl 7 (by decide) tb1_168 rfl (v := .int (σ.1 15)) rfl dX7_run_56 ?_
        refine j_if_ne h dX7_run_59 (tgt := 75) (by decide) (fun c1002 => ?_) (fun c1002 => ?_)
        ·
          refine j_iload_n h 0 dX7_run_75 rfl rfl ?_
          have E : gfX7_run (n + 1) σ x1 x2 = (x2, σ) := j_ig c1001 (j_ig c1002 rfl)
          exact j_ireturn h hr (congrArg Prod.fst E).symm (congrArg (fun z => fx a cI cZ z.2) E).symm dX7_run_76
        ·
          refine j_aload_n h 1 dX7_run_62 rfl rfl ?_
          refine j_get h iX7 0 (fx_c0 _ _ _ σ) rfl 2 (by decide) tb2_13 rfl (v := .ref (a 8)) rfl dX7_run_63 ?_
          refine j_callVv h (kX1_doCycle l D a cI cZ σ hs) tb2_215 tb2_216 tb2_217 tb1_5 tb2_218 ⟨rfl, rfl⟩ (n := 0) (by decide +kernel) ⟨Nat.le_of_ble_eq_true rfl, Nat.le_of_ble_eq_true rfl⟩ (As := []) rfl (ci := 1) (q0 := 8) rfl (fx_c8 _ _ _ σ) (st := []) rfl (Nat.le_of_ble_eq_true rfl) dX7_run_66 ⟨Nat.zero_le _, Nat.zero_le _⟩ ?_
          generalize hq1003 : (fX1_doCycle σ) = q1003
          refine j_iinc h 0 (v := (x2 + 1)) (lv' := [(2, .int (x2 + 1)), (0, .ref (a 0)), (1, .int x1)]) dX7_run_69 rfl (rfl) (by decide) rfl ?_
          refine j_goto h dX7_run_72 (tgt := 44) (by decide) ?_
          have hi := j_inc (j_hi1 c1001)
          have hl := j_toLt c1001
          subst hq1003
          have E : gfX7_run (n + 1) σ x1 x2 = gfX7_run n (fX1_doCycle σ) x1 (x2 + 1) := j_ig c1001 (j_ip c1002 rfl)
          rw [E]
          refine j_lv [0, 1, 2] rfl ?_
          exact ih (fX1_doCycle σ) (x2 + 1) (shp.fr hs (fr_fX1_doCycle _)) (by omega) (by omega) (by omega)
  refine j_iload_n h 1 dX7_run_0 rfl rfl ?_
  refine j_iconst h (v := 1) dX7_run_1 (by decide) ?_
  refine j_icmp_lt h dX7_run_2 (tgt := 12) (by decide) (fun c1 => ?_) (fun c1 => ?_)
  ·
    have E : cX7_runx σ x1 = 1 := j_ip c1 rfl
    exact absurd (E.symm.trans hk) (by decide)
  ·
    refine j_iload_n h 1 dX7_run_5 rfl rfl ?_
    refine j_sipush h (v := 2000) dX7_run_6 (by decide) ?_
    refine j_icmp_le h dX7_run_9 (tgt := 22) (by decide) (fun c2 => ?_) (fun c2 => ?_)
    ·
      refine j_aload_n h 0 dX7_run_22 rfl rfl ?_
      refine j_get h iX7 0 (fx_c0 _ _ _ σ) rfl 1 (by decide) tb2_12 rfl (v := .ref (a 2)) rfl dX7_run_23 ?_
      refine j_callVi h (kX3_size l D a cI cZ σ) tb2_63 tb2_64 tb2_65 tb1_4 tb2_66 ⟨rfl, rfl⟩ (n := 0) (by decide +kernel) ⟨Nat.le_of_ble_eq_true rfl, Nat.le_of_ble_eq_true rfl⟩ (As := []) rfl (ci := 3) (q0 := 2) rfl (fx_c2 _ _ _ σ) (st := []) rfl (Nat.le_of_ble_eq_true rfl) dX7_run_26 ⟨Nat.zero_le _, Nat.zero_le _⟩ ?_
      generalize hq3 : (fX3_size σ) = q3
      refine j_if_ne h dX7_run_29 (tgt := 42) (by decide) (fun c4 => ?_) (fun c4 => ?_)
      ·
        refine j_iconst h (v := 0) dX7_run_42 (by decide) ?_
        refine j_istore_n h (lv' := [(2, .int 0), (0, .ref (a 0)), (1, .int x1)]) dX7_run_43 rfl (by decide) rfl ?_
        subst hq3
        have E : fX7_run σ x1 = gfX7_run 2001 σ x1 0 := j_ig c1 (j_ip c2 (j_ig c4 rfl))
        rw [E]
        refine j_lv [0, 1, 2] rfl ?_
        exact loop 2001 σ 0 hs (by decide) (x_run c1 c2).1 (x_run c1 c2).2
      ·
        subst hq3
        have E : cX7_runx σ x1 = 2 := j_ig c1 (j_ip c2 (j_ip c4 rfl))
        exact absurd (E.symm.trans hk) (by decide)
    ·
      have E : cX7_runx σ x1 = 1 := j_ig c1 (j_ig c2 rfl)
      exact absurd (E.symm.trans hk) (by decide)
def fX7_stage (σ : St) (x1 x2 : Int32) : Int32 := (let q1 := (fX7_isBelow x1 (σ.1 0)); (if q1 = 0 then 0 else (let q3 := (fX7_isBelow x2 2); (if q3 = 0 then 0 else (if x2 = 0 then (let q8 := (fX5_wordIn σ x1); q8) else (let q6 := (fX5_isOnTheWay σ x1); (if q6 = 0 then 0 else 1)))))))
def rmX7_stage : Room := { frames := 1, cells := 0, slots := 0, locals := 21 }
set_option maxRecDepth 100000 in
set_option maxHeartbeats 4000000 in
theorem kX7_stage (l : Launch) (D : va_G) (a : Nat → Nat) (cI cZ : ClassId) (σ : St) (x1 x2 : Int32) (hk : cX7_stagex σ x1 x2 = 0) : Ci l yX7_stage cX7_stage 3 (some .int) TB rmX7_stage D vwCl [(cI, .int), (cZ, .boolean)] [.ref (a 0), .int x1, .int x2] (fx a cI cZ σ) (fx a cI cZ σ) (fX7_stage σ x1 x2) := by
  refine Ci_of (cc := cX7_stage) (maxL := 3) (ret := (some .int)) (by decide +kernel) TBg (Nat.le_of_ble_eq_true rfl) ?_
  intro p e s m args below meth c A h hr
  refine j_iload_n h 1 dX7_stage_0 rfl rfl ?_
  refine j_aload_n h 0 dX7_stage_1 rfl rfl ?_
  refine j_get h iX7 0 (fx_c0 _ _ _ σ) rfl 0 (by decide) tb2_11 rfl (v := .ref (a 1)) rfl dX7_stage_2 ?_
  refine j_get h iX4 1 (fx_c1 _ _ _ σ) rfl 0 (by decide) tb1_40 rfl (v := .int (σ.1 0)) rfl dX7_stage_5 ?_
  refine j_callSi0 h (kX7_isBelow l D cI cZ x1 (σ.1 0)) tb2_80 tb2_81 tb1_1 tb2_82 ⟨rfl, rfl⟩ (n := 2) (by decide +kernel) ⟨Nat.le_of_ble_eq_true rfl, Nat.le_of_ble_eq_true rfl⟩ (As := [.int x1, .int (σ.1 0)]) rfl (st := []) rfl (Nat.le_of_ble_eq_true rfl) dX7_stage_8 ⟨Nat.zero_le _, Nat.zero_le _⟩ ?_
  generalize hq1 : (fX7_isBelow x1 (σ.1 0)) = q1
  refine j_if_eq h dX7_stage_11 (tgt := 22) (by decide) (fun c2 => ?_) (fun c2 => ?_)
  ·
    subst hq1
    have E : cX7_stagex σ x1 x2 = 1 := j_ip c2 rfl
    exact absurd (E.symm.trans hk) (by decide)
  ·
    refine j_iload_n h 2 dX7_stage_14 rfl rfl ?_
    refine j_iconst h (v := 2) dX7_stage_15 (by decide) ?_
    refine j_callSi0 h (kX7_isBelow l D cI cZ x2 2) tb2_80 tb2_81 tb1_1 tb2_82 ⟨rfl, rfl⟩ (n := 2) (by decide +kernel) ⟨Nat.le_of_ble_eq_true rfl, Nat.le_of_ble_eq_true rfl⟩ (As := [.int x2, .int 2]) rfl (st := []) rfl (Nat.le_of_ble_eq_true rfl) dX7_stage_16 ⟨Nat.zero_le _, Nat.zero_le _⟩ ?_
    generalize hq3 : (fX7_isBelow x2 2) = q3
    refine j_if_ne h dX7_stage_19 (tgt := 32) (by decide) (fun c4 => ?_) (fun c4 => ?_)
    ·
      refine j_iload_n h 2 dX7_stage_32 rfl rfl ?_
      refine j_if_ne h dX7_stage_33 (tgt := 48) (by decide) (fun c5 => ?_) (fun c5 => ?_)
      ·
        refine j_aload_n h 0 dX7_stage_48 rfl rfl ?_
        refine j_get h iX7 0 (fx_c0 _ _ _ σ) rfl 2 (by decide) tb2_13 rfl (v := .ref (a 8)) rfl dX7_stage_49 ?_
        refine j_get h iX1 8 (fx_c8 _ _ _ σ) rfl 2 (by decide) tb1_205 rfl (v := .ref (a 9)) rfl dX7_stage_52 ?_
        refine j_iload_n h 1 dX7_stage_55 rfl rfl ?_
        refine j_callVi h (kX5_isOnTheWay l D a cI cZ σ x1) tb3_145 tb3_98 tb3_99 tb1_6 tb3_100 ⟨rfl, rfl⟩ (n := 1) (by decide +kernel) ⟨Nat.le_of_ble_eq_true rfl, Nat.le_of_ble_eq_true rfl⟩ (As := [.int x1]) rfl (ci := 5) (q0 := 9) rfl (fx_c9 _ _ _ σ) (st := []) rfl (Nat.le_of_ble_eq_true rfl) dX7_stage_56 ⟨Nat.zero_le _, Nat.zero_le _⟩ ?_
        generalize hq6 : (fX5_isOnTheWay σ x1) = q6
        refine j_if_eq h dX7_stage_59 (tgt := 66) (by decide) (fun c7 => ?_) (fun c7 => ?_)
        ·
          refine j_iconst h (v := 0) dX7_stage_66 (by decide) ?_
          subst hq1 hq3 hq6
          have E : fX7_stage σ x1 x2 = 0 := j_ig c2 (j_ig c4 (j_ig c5 (j_ip c7 rfl)))
          exact j_ireturn h hr E.symm rfl dX7_stage_67
        ·
          refine j_iconst h (v := 1) dX7_stage_62 (by decide) ?_
          refine j_goto h dX7_stage_63 (tgt := 67) (by decide) ?_
          subst hq1 hq3 hq6
          have E : fX7_stage σ x1 x2 = 1 := j_ig c2 (j_ig c4 (j_ig c5 (j_ig c7 rfl)))
          exact j_ireturn h hr E.symm rfl dX7_stage_67
      ·
        refine j_aload_n h 0 dX7_stage_36 rfl rfl ?_
        refine j_get h iX7 0 (fx_c0 _ _ _ σ) rfl 2 (by decide) tb2_13 rfl (v := .ref (a 8)) rfl dX7_stage_37 ?_
        refine j_get h iX1 8 (fx_c8 _ _ _ σ) rfl 2 (by decide) tb1_205 rfl (v := .ref (a 9)) rfl dX7_stage_40 ?_
        refine j_iload_n h 1 dX7_stage_43 rfl rfl ?_
        refine j_callVi h (kX5_wordIn l D a cI cZ σ x1) tb3_144 tb2_228 tb2_229 tb1_6 tb2_230 ⟨rfl, rfl⟩ (n := 1) (by decide +kernel) ⟨Nat.le_of_ble_eq_true rfl, Nat.le_of_ble_eq_true rfl⟩ (As := [.int x1]) rfl (ci := 5) (q0 := 9) rfl (fx_c9 _ _ _ σ) (st := []) rfl (Nat.le_of_ble_eq_true rfl) dX7_stage_44 ⟨Nat.zero_le _, Nat.zero_le _⟩ ?_
        generalize hq8 : (fX5_wordIn σ x1) = q8
        subst hq1 hq3 hq8
        have E : fX7_stage σ x1 x2 = (fX5_wordIn σ x1) := j_ig c2 (j_ig c4 (j_ip c5 rfl))
        exact j_ireturn h hr E.symm rfl dX7_stage_47
    ·
      subst hq1 hq3
      have E : cX7_stagex σ x1 x2 = 1 := j_ig c2 (j_ip c4 rfl)
      exact absurd (E.symm.trans hk) (by decide)
def fX7_committed (σ : St) (x1 x2 : Int32) : Int32 := (let q1 := (fX0_size σ); (let q2 := (fX7_isBelow x1 q1); (if q2 = 0 then 0 else (let q4 := (fX7_isBelow x2 3); (if q4 = 0 then 0 else (let q6 := (fX0_entry σ x1 x2); q6))))))
def rmX7_committed : Room := { frames := 2, cells := 0, slots := 0, locals := 45 }
set_option maxRecDepth 100000 in
set_option maxHeartbeats 4000000 in
theorem kX7_committed (l : Launch) (D : va_G) (a : Nat → Nat) (cI cZ : ClassId) (σ : St) (x1 x2 : Int32) (hk : cX7_committedx σ x1 x2 = 0) : Ci l yX7_committed cX7_committed 3 (some .int) TB rmX7_committed D vwCl [(cI, .int), (cZ, .boolean)] [.ref (a 0), .int x1, .int x2] (fx a cI cZ σ) (fx a cI cZ σ) (fX7_committed σ x1 x2) := by
  refine Ci_of (cc := cX7_committed) (maxL := 3) (ret := (some .int)) (by decide +kernel) TBg (Nat.le_of_ble_eq_true rfl) ?_
  intro p e s m args below meth c A h hr
  refine j_iload_n h 1 dX7_committed_0 rfl rfl ?_
  refine j_aload_n h 0 dX7_committed_1 rfl rfl ?_
  refine j_get h iX7 0 (fx_c0 _ _ _ σ) rfl 2 (by decide) tb2_13 rfl (v := .ref (a 8)) rfl dX7_committed_2 ?_
  refine j_get h iX1 8 (fx_c8 _ _ _ σ) rfl 3 (by decide) tb1_207 rfl (v := .ref (a 13)) rfl dX7_committed_5 ?_
  refine j_callVi h (kX0_size l D a cI cZ σ) tb3_153 tb3_154 tb3_155 tb1_8 tb3_156 ⟨rfl, rfl⟩ (n := 0) (by decide +kernel) ⟨Nat.le_of_ble_eq_true rfl, Nat.le_of_ble_eq_true rfl⟩ (As := []) rfl (ci := 0) (q0 := 13) rfl (fx_c13 _ _ _ σ) (st := [.int x1]) rfl (Nat.le_of_ble_eq_true rfl) dX7_committed_8 ⟨Nat.zero_le _, Nat.zero_le _⟩ ?_
  generalize hq1 : (fX0_size σ) = q1
  refine j_callSi0 h (kX7_isBelow l D cI cZ x1 q1) tb2_80 tb2_81 tb1_1 tb2_82 ⟨rfl, rfl⟩ (n := 2) (by decide +kernel) ⟨Nat.le_of_ble_eq_true rfl, Nat.le_of_ble_eq_true rfl⟩ (As := [.int x1, .int q1]) rfl (st := []) rfl (Nat.le_of_ble_eq_true rfl) dX7_committed_11 ⟨Nat.zero_le _, Nat.zero_le _⟩ ?_
  generalize hq2 : (fX7_isBelow x1 q1) = q2
  refine j_if_eq h dX7_committed_14 (tgt := 25) (by decide) (fun c3 => ?_) (fun c3 => ?_)
  ·
    subst hq1 hq2
    have E : cX7_committedx σ x1 x2 = 1 := j_ip c3 rfl
    exact absurd (E.symm.trans hk) (by decide)
  ·
    refine j_iload_n h 2 dX7_committed_17 rfl rfl ?_
    refine j_iconst h (v := 3) dX7_committed_18 (by decide) ?_
    refine j_callSi0 h (kX7_isBelow l D cI cZ x2 3) tb2_80 tb2_81 tb1_1 tb2_82 ⟨rfl, rfl⟩ (n := 2) (by decide +kernel) ⟨Nat.le_of_ble_eq_true rfl, Nat.le_of_ble_eq_true rfl⟩ (As := [.int x2, .int 3]) rfl (st := []) rfl (Nat.le_of_ble_eq_true rfl) dX7_committed_19 ⟨Nat.zero_le _, Nat.zero_le _⟩ ?_
    generalize hq4 : (fX7_isBelow x2 3) = q4
    refine j_if_ne h dX7_committed_22 (tgt := 35) (by decide) (fun c5 => ?_) (fun c5 => ?_)
    ·
      refine j_aload_n h 0 dX7_committed_35 rfl rfl ?_
      refine j_get h iX7 0 (fx_c0 _ _ _ σ) rfl 2 (by decide) tb2_13 rfl (v := .ref (a 8)) rfl dX7_committed_36 ?_
      refine j_get h iX1 8 (fx_c8 _ _ _ σ) rfl 3 (by decide) tb1_207 rfl (v := .ref (a 13)) rfl dX7_committed_39 ?_
      refine j_iload_n h 1 dX7_committed_42 rfl rfl ?_
      refine j_iload_n h 2 dX7_committed_43 rfl rfl ?_
      refine j_callVi h (kX0_entry l D a cI cZ σ x1 x2) tb3_158 tb3_159 tb3_160 tb1_8 tb3_161 ⟨rfl, rfl⟩ (n := 2) (by decide +kernel) ⟨Nat.le_of_ble_eq_true rfl, Nat.le_of_ble_eq_true rfl⟩ (As := [.int x1, .int x2]) rfl (ci := 0) (q0 := 13) rfl (fx_c13 _ _ _ σ) (st := []) rfl (Nat.le_of_ble_eq_true rfl) dX7_committed_44 ⟨Nat.zero_le _, Nat.zero_le _⟩ ?_
      generalize hq6 : (fX0_entry σ x1 x2) = q6
      subst hq1 hq2 hq4 hq6
      have E : fX7_committed σ x1 x2 = (fX0_entry σ x1 x2) := j_ig c3 (j_ig c5 rfl)
      exact j_ireturn h hr E.symm rfl dX7_committed_47
    ·
      subst hq1 hq2 hq4
      have E : cX7_committedx σ x1 x2 = 1 := j_ig c3 (j_ip c5 rfl)
      exact absurd (E.symm.trans hk) (by decide)
def fX7_register (σ : St) (x1 : Int32) : Int32 := (let q1 := (fX7_isBelow x1 8); (if q1 = 0 then 0 else (let q3 := (fX2_valueOfL σ x1); q3)))
def rmX7_register : Room := { frames := 1, cells := 0, slots := 0, locals := 21 }
set_option maxRecDepth 100000 in
set_option maxHeartbeats 4000000 in
theorem kX7_register (l : Launch) (D : va_G) (a : Nat → Nat) (cI cZ : ClassId) (σ : St) (x1 : Int32) (hk : cX7_registerx σ x1 = 0) : Ci l yX7_register cX7_register 2 (some .int) TB rmX7_register D vwCl [(cI, .int), (cZ, .boolean)] [.ref (a 0), .int x1] (fx a cI cZ σ) (fx a cI cZ σ) (fX7_register σ x1) := by
  refine Ci_of (cc := cX7_register) (maxL := 2) (ret := (some .int)) (by decide +kernel) TBg (Nat.le_of_ble_eq_true rfl) ?_
  intro p e s m args below meth c A h hr
  refine j_iload_n h 1 dX7_register_0 rfl rfl ?_
  refine j_bipush h (v := 8) dX7_register_1 (by decide) ?_
  refine j_callSi0 h (kX7_isBelow l D cI cZ x1 8) tb2_80 tb2_81 tb1_1 tb2_82 ⟨rfl, rfl⟩ (n := 2) (by decide +kernel) ⟨Nat.le_of_ble_eq_true rfl, Nat.le_of_ble_eq_true rfl⟩ (As := [.int x1, .int 8]) rfl (st := []) rfl (Nat.le_of_ble_eq_true rfl) dX7_register_3 ⟨Nat.zero_le _, Nat.zero_le _⟩ ?_
  generalize hq1 : (fX7_isBelow x1 8) = q1
  refine j_if_ne h dX7_register_6 (tgt := 19) (by decide) (fun c2 => ?_) (fun c2 => ?_)
  ·
    refine j_aload_n h 0 dX7_register_19 rfl rfl ?_
    refine j_get h iX7 0 (fx_c0 _ _ _ σ) rfl 2 (by decide) tb2_13 rfl (v := .ref (a 8)) rfl dX7_register_20 ?_
    refine j_get h iX1 8 (fx_c8 _ _ _ σ) rfl 6 (by decide) tb1_212 rfl (v := .ref (a 22)) rfl dX7_register_23 ?_
    refine j_iload_n h 1 dX7_register_26 rfl rfl ?_
    refine j_callVi h (kX2_valueOfL l D a cI cZ σ x1) tb3_169 tb3_26 tb3_27 tb1_10 tb3_28 ⟨rfl, rfl⟩ (n := 1) (by decide +kernel) ⟨Nat.le_of_ble_eq_true rfl, Nat.le_of_ble_eq_true rfl⟩ (As := [.int x1]) rfl (ci := 2) (q0 := 22) rfl (fx_c22 _ _ _ σ) (st := []) rfl (Nat.le_of_ble_eq_true rfl) dX7_register_27 ⟨Nat.zero_le _, Nat.zero_le _⟩ ?_
    generalize hq3 : (fX2_valueOfL σ x1) = q3
    subst hq1 hq3
    have E : fX7_register σ x1 = (fX2_valueOfL σ x1) := j_ig c2 rfl
    exact j_ireturn h hr E.symm rfl dX7_register_30
  ·
    subst hq1
    have E : cX7_registerx σ x1 = 1 := j_ip c2 rfl
    exact absurd (E.symm.trans hk) (by decide)
def fX7_memory (σ : St) (x1 : Int32) : Int32 := (let q1 := (fX7_isBelow x1 64); (if q1 = 0 then 0 else (let q3 := (fX2_valueAtL σ x1); q3)))
def rmX7_memory : Room := { frames := 2, cells := 0, slots := 0, locals := 43 }
set_option maxRecDepth 100000 in
set_option maxHeartbeats 4000000 in
theorem kX7_memory (l : Launch) (D : va_G) (a : Nat → Nat) (cI cZ : ClassId) (σ : St) (x1 : Int32) (hk : cX7_memoryx σ x1 = 0) : Ci l yX7_memory cX7_memory 2 (some .int) TB rmX7_memory D vwCl [(cI, .int), (cZ, .boolean)] [.ref (a 0), .int x1] (fx a cI cZ σ) (fx a cI cZ σ) (fX7_memory σ x1) := by
  refine Ci_of (cc := cX7_memory) (maxL := 2) (ret := (some .int)) (by decide +kernel) TBg (Nat.le_of_ble_eq_true rfl) ?_
  intro p e s m args below meth c A h hr
  refine j_iload_n h 1 dX7_memory_0 rfl rfl ?_
  refine j_bipush h (v := 64) dX7_memory_1 (by decide) ?_
  refine j_callSi0 h (kX7_isBelow l D cI cZ x1 64) tb2_80 tb2_81 tb1_1 tb2_82 ⟨rfl, rfl⟩ (n := 2) (by decide +kernel) ⟨Nat.le_of_ble_eq_true rfl, Nat.le_of_ble_eq_true rfl⟩ (As := [.int x1, .int 64]) rfl (st := []) rfl (Nat.le_of_ble_eq_true rfl) dX7_memory_3 ⟨Nat.zero_le _, Nat.zero_le _⟩ ?_
  generalize hq1 : (fX7_isBelow x1 64) = q1
  refine j_if_ne h dX7_memory_6 (tgt := 19) (by decide) (fun c2 => ?_) (fun c2 => ?_)
  ·
    refine j_aload_n h 0 dX7_memory_19 rfl rfl ?_
    refine j_get h iX7 0 (fx_c0 _ _ _ σ) rfl 2 (by decide) tb2_13 rfl (v := .ref (a 8)) rfl dX7_memory_20 ?_
    refine j_get h iX1 8 (fx_c8 _ _ _ σ) rfl 6 (by decide) tb1_212 rfl (v := .ref (a 22)) rfl dX7_memory_23 ?_
    refine j_iload_n h 1 dX7_memory_26 rfl rfl ?_
    refine j_callVi h (kX2_valueAtL l D a cI cZ σ x1) tb3_178 tb3_47 tb3_48 tb1_10 tb3_49 ⟨rfl, rfl⟩ (n := 1) (by decide +kernel) ⟨Nat.le_of_ble_eq_true rfl, Nat.le_of_ble_eq_true rfl⟩ (As := [.int x1]) rfl (ci := 2) (q0 := 22) rfl (fx_c22 _ _ _ σ) (st := []) rfl (Nat.le_of_ble_eq_true rfl) dX7_memory_27 ⟨Nat.zero_le _, Nat.zero_le _⟩ ?_
    generalize hq3 : (fX2_valueAtL σ x1) = q3
    subst hq1 hq3
    have E : fX7_memory σ x1 = (fX2_valueAtL σ x1) := j_ig c2 rfl
    exact j_ireturn h hr E.symm rfl dX7_memory_30
  ·
    subst hq1
    have E : cX7_memoryx σ x1 = 1 := j_ip c2 rfl
    exact absurd (E.symm.trans hk) (by decide)
def fX7_cause (σ : St) (x1 : Int32) : Int32 := (let q1 := (fX7_isBelow x1 5); (if q1 = 0 then 0 else (let q3 := (fX6_cyclesWith σ x1); q3)))
def rmX7_cause : Room := { frames := 1, cells := 0, slots := 0, locals := 21 }
set_option maxRecDepth 100000 in
set_option maxHeartbeats 4000000 in
theorem kX7_cause (l : Launch) (D : va_G) (a : Nat → Nat) (cI cZ : ClassId) (σ : St) (x1 : Int32) (hk : cX7_causex σ x1 = 0) : Ci l yX7_cause cX7_cause 2 (some .int) TB rmX7_cause D vwCl [(cI, .int), (cZ, .boolean)] [.ref (a 0), .int x1] (fx a cI cZ σ) (fx a cI cZ σ) (fX7_cause σ x1) := by
  refine Ci_of (cc := cX7_cause) (maxL := 2) (ret := (some .int)) (by decide +kernel) TBg (Nat.le_of_ble_eq_true rfl) ?_
  intro p e s m args below meth c A h hr
  refine j_iload_n h 1 dX7_cause_0 rfl rfl ?_
  refine j_iconst h (v := 5) dX7_cause_1 (by decide) ?_
  refine j_callSi0 h (kX7_isBelow l D cI cZ x1 5) tb2_80 tb2_81 tb1_1 tb2_82 ⟨rfl, rfl⟩ (n := 2) (by decide +kernel) ⟨Nat.le_of_ble_eq_true rfl, Nat.le_of_ble_eq_true rfl⟩ (As := [.int x1, .int 5]) rfl (st := []) rfl (Nat.le_of_ble_eq_true rfl) dX7_cause_2 ⟨Nat.zero_le _, Nat.zero_le _⟩ ?_
  generalize hq1 : (fX7_isBelow x1 5) = q1
  refine j_if_ne h dX7_cause_5 (tgt := 18) (by decide) (fun c2 => ?_) (fun c2 => ?_)
  ·
    refine j_aload_n h 0 dX7_cause_18 rfl rfl ?_
    refine j_get h iX7 0 (fx_c0 _ _ _ σ) rfl 2 (by decide) tb2_13 rfl (v := .ref (a 8)) rfl dX7_cause_19 ?_
    refine j_get h iX1 8 (fx_c8 _ _ _ σ) rfl 4 (by decide) tb1_209 rfl (v := .ref (a 17)) rfl dX7_cause_22 ?_
    refine j_iload_n h 1 dX7_cause_25 rfl rfl ?_
    refine j_callVi h (kX6_cyclesWith l D a cI cZ σ x1) tb3_187 tb3_188 tb3_189 tb1_9 tb3_190 ⟨rfl, rfl⟩ (n := 1) (by decide +kernel) ⟨Nat.le_of_ble_eq_true rfl, Nat.le_of_ble_eq_true rfl⟩ (As := [.int x1]) rfl (ci := 6) (q0 := 17) rfl (fx_c17 _ _ _ σ) (st := []) rfl (Nat.le_of_ble_eq_true rfl) dX7_cause_26 ⟨Nat.zero_le _, Nat.zero_le _⟩ ?_
    generalize hq3 : (fX6_cyclesWith σ x1) = q3
    subst hq1 hq3
    have E : fX7_cause σ x1 = (fX6_cyclesWith σ x1) := j_ig c2 rfl
    exact j_ireturn h hr E.symm rfl dX7_cause_29
  ·
    subst hq1
    have E : cX7_causex σ x1 = 1 := j_ip c2 rfl
    exact absurd (E.symm.trans hk) (by decide)
