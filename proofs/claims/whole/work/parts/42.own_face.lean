def fX7_clear (σ : St) : Int32 × St := (let q1 := (fX3_forget σ); (let q2 := (fX1_beginAnew q1); ((σ.1 9), q2)))
def rmX7_clear : Room := { frames := 4, cells := 0, slots := 0, locals := 87 }
set_option maxRecDepth 100000 in
set_option maxHeartbeats 4000000 in
theorem kX7_clear (l : Launch) (D : va_G) (a : Nat → Nat) (cI cZ : ClassId) (σ : St) : Ci l yX7_clear cX7_clear 2 (some .int) TB rmX7_clear D vwCl [(cI, .int), (cZ, .boolean)] [.ref (a 0)] (fx a cI cZ σ) (fx a cI cZ (fX7_clear σ).2) (fX7_clear σ).1 := by
  refine Ci_of (cc := cX7_clear) (maxL := 2) (ret := (some .int)) (by decide +kernel) TBg (Nat.le_of_ble_eq_true rfl) ?_
  intro p e s m args below meth c A h hr
  refine j_aload_n h 0 dX7_clear_0 rfl rfl ?_
  refine j_get h iX7 0 (fx_c0 _ _ _ σ) rfl 2 (by decide) tb2_13 rfl (v := .ref (a 8)) rfl dX7_clear_1 ?_
  refine j_get h iX1 8 (fx_c8 _ _ _ σ) rfl 4 (by decide) tb1_209 rfl (v := .ref (a 17)) rfl dX7_clear_4 ?_
  refine j_get h iX6 17 (fx_c17 _ _ _ σ) rfl 1 (by decide) tb1_149 rfl (v := .int (σ.1 9)) rfl dX7_clear_7 ?_
  refine j_istore_n h (lv' := [(1, .int (σ.1 9)), (0, .ref (a 0))]) dX7_clear_10 rfl (by decide) rfl ?_
  refine j_aload_n h 1 dX7_clear_11 rfl rfl ?_
  refine j_get h iX7 0 (fx_c0 _ _ _ σ) rfl 1 (by decide) tb2_12 rfl (v := .ref (a 2)) rfl dX7_clear_12 ?_
  refine j_callVv h (kX3_forget l D a cI cZ σ) tb2_25 tb2_26 tb2_27 tb1_4 tb2_28 ⟨rfl, rfl⟩ (n := 0) (by decide +kernel) ⟨Nat.le_of_ble_eq_true rfl, Nat.le_of_ble_eq_true rfl⟩ (As := []) rfl (ci := 3) (q0 := 2) rfl (fx_c2 _ _ _ σ) (st := []) rfl (Nat.le_of_ble_eq_true rfl) dX7_clear_15 ⟨Nat.zero_le _, Nat.zero_le _⟩ ?_
  generalize hq1 : (fX3_forget σ) = q1
  refine j_aload_n h 1 dX7_clear_18 rfl rfl ?_
  refine j_get h iX7 0 (fx_c0 _ _ _ q1) rfl 2 (by decide) tb2_13 rfl (v := .ref (a 8)) rfl dX7_clear_19 ?_
  refine j_callVv h (kX1_beginAnew l D a cI cZ q1) tb2_29 tb2_30 tb2_31 tb1_5 tb2_32 ⟨rfl, rfl⟩ (n := 0) (by decide +kernel) ⟨Nat.le_of_ble_eq_true rfl, Nat.le_of_ble_eq_true rfl⟩ (As := []) rfl (ci := 1) (q0 := 8) rfl (fx_c8 _ _ _ q1) (st := []) rfl (Nat.le_of_ble_eq_true rfl) dX7_clear_22 ⟨Nat.zero_le _, Nat.zero_le _⟩ ?_
  generalize hq2 : (fX1_beginAnew q1) = q2
  refine j_iload_n h 0 dX7_clear_25 rfl rfl ?_
  subst hq1 hq2
  have E : fX7_clear σ = ((σ.1 9), (fX1_beginAnew (fX3_forget σ))) := rfl
  exact j_ireturn h hr (congrArg Prod.fst E).symm (congrArg (fun z => fx a cI cZ z.2) E).symm dX7_clear_26
theorem fr_fX7_clear (σ : St) : Fr (fX7_clear σ).2 σ := by
  have E : fX7_clear σ = ((σ.1 9), (fX1_beginAnew (fX3_forget σ))) := rfl
  rw [E]
  exact (Fr.tr (fr_fX1_beginAnew _) (Fr.tr (fr_fX3_forget _) (Fr.rf _)))
def fX7_count (σ : St) (x1 : Int32) : Int32 := (if x1 = 0 then (σ.1 9) else (if x1 = 1 then (σ.1 10) else (if x1 = 2 then (σ.1 11) else (if x1 = 3 then (σ.1 12) else (if x1 = 4 then (σ.1 13) else (if x1 = 5 then (if (σ.1 15) = 0 then 0 else 1) else (if x1 = 6 then (σ.1 0) else (if x1 = 7 then (σ.1 1) else (if x1 = 8 then (σ.1 2) else (if x1 = 9 then (σ.1 3) else (if x1 = 10 then (σ.1 4) else (if x1 = 11 then (σ.1 5) else (if x1 = 12 then (let q15 := (fX3_size σ); q15) else (if x1 = 13 then (σ.1 14) else (-1)))))))))))))))
def rmX7_count : Room := { frames := 1, cells := 0, slots := 0, locals := 20 }
set_option maxRecDepth 100000 in
set_option maxHeartbeats 4000000 in
theorem kX7_count (l : Launch) (D : va_G) (a : Nat → Nat) (cI cZ : ClassId) (σ : St) (x1 : Int32) : Ci l yX7_count cX7_count 2 (some .int) TB rmX7_count D vwCl [(cI, .int), (cZ, .boolean)] [.ref (a 0), .int x1] (fx a cI cZ σ) (fx a cI cZ σ) (fX7_count σ x1) := by
  refine Ci_of (cc := cX7_count) (maxL := 2) (ret := (some .int)) (by decide +kernel) TBg (Nat.le_of_ble_eq_true rfl) ?_
  intro p e s m args below meth c A h hr
  refine j_iload_n h 1 dX7_count_0 rfl rfl ?_
  by_cases c1 : x1 = 0
  ·
    refine j_tableIn h dX7_count_1 (off := 71) (tgt := 72) (by rw [c1]; decide) (by rw [c1]; decide) (by rw [c1]; decide) (by decide) ?_
    refine j_aload_n h 0 dX7_count_72 rfl rfl ?_
    refine j_get h iX7 0 (fx_c0 _ _ _ σ) rfl 2 (by decide) tb2_13 rfl (v := .ref (a 8)) rfl dX7_count_73 ?_
    refine j_get h iX1 8 (fx_c8 _ _ _ σ) rfl 4 (by decide) tb1_209 rfl (v := .ref (a 17)) rfl dX7_count_76 ?_
    refine j_get h iX6 17 (fx_c17 _ _ _ σ) rfl 1 (by decide) tb1_149 rfl (v := .int (σ.1 9)) rfl dX7_count_79 ?_
    have E : fX7_count σ x1 = (σ.1 9) := j_ip c1 rfl
    exact j_ireturn h hr E.symm rfl dX7_count_82
  ·
    by_cases c2 : x1 = 1
    ·
      refine j_tableIn h dX7_count_1 (off := 82) (tgt := 83) (by rw [c2]; decide) (by rw [c2]; decide) (by rw [c2]; decide) (by decide) ?_
      refine j_aload_n h 0 dX7_count_83 rfl rfl ?_
      refine j_get h iX7 0 (fx_c0 _ _ _ σ) rfl 2 (by decide) tb2_13 rfl (v := .ref (a 8)) rfl dX7_count_84 ?_
      refine j_get h iX1 8 (fx_c8 _ _ _ σ) rfl 4 (by decide) tb1_209 rfl (v := .ref (a 17)) rfl dX7_count_87 ?_
      refine j_get h iX6 17 (fx_c17 _ _ _ σ) rfl 2 (by decide) tb1_153 rfl (v := .int (σ.1 10)) rfl dX7_count_90 ?_
      have E : fX7_count σ x1 = (σ.1 10) := j_ig c1 (j_ip c2 rfl)
      exact j_ireturn h hr E.symm rfl dX7_count_93
    ·
      by_cases c3 : x1 = 2
      ·
        refine j_tableIn h dX7_count_1 (off := 93) (tgt := 94) (by rw [c3]; decide) (by rw [c3]; decide) (by rw [c3]; decide) (by decide) ?_
        refine j_aload_n h 0 dX7_count_94 rfl rfl ?_
        refine j_get h iX7 0 (fx_c0 _ _ _ σ) rfl 2 (by decide) tb2_13 rfl (v := .ref (a 8)) rfl dX7_count_95 ?_
        refine j_get h iX1 8 (fx_c8 _ _ _ σ) rfl 4 (by decide) tb1_209 rfl (v := .ref (a 17)) rfl dX7_count_98 ?_
        refine j_get h iX6 17 (fx_c17 _ _ _ σ) rfl 3 (by decide) tb1_155 rfl (v := .int (σ.1 11)) rfl dX7_count_101 ?_
        have E : fX7_count σ x1 = (σ.1 11) := j_ig c1 (j_ig c2 (j_ip c3 rfl))
        exact j_ireturn h hr E.symm rfl dX7_count_104
      ·
        by_cases c4 : x1 = 3
        ·
          refine j_tableIn h dX7_count_1 (off := 104) (tgt := 105) (by rw [c4]; decide) (by rw [c4]; decide) (by rw [c4]; decide) (by decide) ?_
          refine j_aload_n h 0 dX7_count_105 rfl rfl ?_
          refine j_get h iX7 0 (fx_c0 _ _ _ σ) rfl 2 (by decide) tb2_13 rfl (v := .ref (a 8)) rfl dX7_count_106 ?_
          refine j_get h iX1 8 (fx_c8 _ _ _ σ) rfl 4 (by decide) tb1_209 rfl (v := .ref (a 17)) rfl dX7_count_109 ?_
          refine j_get h iX6 17 (fx_c17 _ _ _ σ) rfl 4 (by decide) tb1_159 rfl (v := .int (σ.1 12)) rfl dX7_count_112 ?_
          have E : fX7_count σ x1 = (σ.1 12) := j_ig c1 (j_ig c2 (j_ig c3 (j_ip c4 rfl)))
          exact j_ireturn h hr E.symm rfl dX7_count_115
        ·
          by_cases c5 : x1 = 4
          ·
            refine j_tableIn h dX7_count_1 (off := 115) (tgt := 116) (by rw [c5]; decide) (by rw [c5]; decide) (by rw [c5]; decide) (by decide) ?_
            refine j_aload_n h 0 dX7_count_116 rfl rfl ?_
            refine j_get h iX7 0 (fx_c0 _ _ _ σ) rfl 2 (by decide) tb2_13 rfl (v := .ref (a 8)) rfl dX7_count_117 ?_
            refine j_get h iX1 8 (fx_c8 _ _ _ σ) rfl 4 (by decide) tb1_209 rfl (v := .ref (a 17)) rfl dX7_count_120 ?_
            refine j_get h iX6 17 (fx_c17 _ _ _ σ) rfl 5 (by decide) tb1_162 rfl (v := .int (σ.1 13)) rfl dX7_count_123 ?_
            have E : fX7_count σ x1 = (σ.1 13) := j_ig c1 (j_ig c2 (j_ig c3 (j_ig c4 (j_ip c5 rfl))))
            exact j_ireturn h hr E.symm rfl dX7_count_126
          ·
            by_cases c6 : x1 = 5
            ·
              refine j_tableIn h dX7_count_1 (off := 126) (tgt := 127) (by rw [c6]; decide) (by rw [c6]; decide) (by rw [c6]; decide) (by decide) ?_
              refine j_aload_n h 0 dX7_count_127 rfl rfl ?_
              refine j_get h iX7 0 (fx_c0 _ _ _ σ) rfl 2 (by decide) tb2_13 rfl (v := .ref (a 8)) rfl dX7_count_128 ?_
              refine j_get h iX1 8 (fx_c8 _ _ _ σ) rfl 4 (by decide) tb1_209 rfl (v := .ref (a 17)) rfl dX7_count_131 ?_
              refine j_get h iX6 17 (fx_c17 _ _ _ σ) rfl 7 (by decide) tb1_168 rfl (v := .int (σ.1 15)) rfl dX7_count_134 ?_
              refine j_if_eq h dX7_count_137 (tgt := 144) (by decide) (fun c7 => ?_) (fun c7 => ?_)
              ·
                refine j_iconst h (v := 0) dX7_count_144 (by decide) ?_
                have E : fX7_count σ x1 = 0 := j_ig c1 (j_ig c2 (j_ig c3 (j_ig c4 (j_ig c5 (j_ip c6 (j_ip c7 rfl))))))
                exact j_ireturn h hr E.symm rfl dX7_count_145
              ·
                refine j_iconst h (v := 1) dX7_count_140 (by decide) ?_
                refine j_goto h dX7_count_141 (tgt := 145) (by decide) ?_
                have E : fX7_count σ x1 = 1 := j_ig c1 (j_ig c2 (j_ig c3 (j_ig c4 (j_ig c5 (j_ip c6 (j_ig c7 rfl))))))
                exact j_ireturn h hr E.symm rfl dX7_count_145
            ·
              by_cases c8 : x1 = 6
              ·
                refine j_tableIn h dX7_count_1 (off := 145) (tgt := 146) (by rw [c8]; decide) (by rw [c8]; decide) (by rw [c8]; decide) (by decide) ?_
                refine j_aload_n h 0 dX7_count_146 rfl rfl ?_
                refine j_get h iX7 0 (fx_c0 _ _ _ σ) rfl 0 (by decide) tb2_11 rfl (v := .ref (a 1)) rfl dX7_count_147 ?_
                refine j_get h iX4 1 (fx_c1 _ _ _ σ) rfl 0 (by decide) tb1_40 rfl (v := .int (σ.1 0)) rfl dX7_count_150 ?_
                have E : fX7_count σ x1 = (σ.1 0) := j_ig c1 (j_ig c2 (j_ig c3 (j_ig c4 (j_ig c5 (j_ig c6 (j_ip c8 rfl))))))
                exact j_ireturn h hr E.symm rfl dX7_count_153
              ·
                by_cases c9 : x1 = 7
                ·
                  refine j_tableIn h dX7_count_1 (off := 153) (tgt := 154) (by rw [c9]; decide) (by rw [c9]; decide) (by rw [c9]; decide) (by decide) ?_
                  refine j_aload_n h 0 dX7_count_154 rfl rfl ?_
                  refine j_get h iX7 0 (fx_c0 _ _ _ σ) rfl 0 (by decide) tb2_11 rfl (v := .ref (a 1)) rfl dX7_count_155 ?_
                  refine j_get h iX4 1 (fx_c1 _ _ _ σ) rfl 1 (by decide) tb1_44 rfl (v := .int (σ.1 1)) rfl dX7_count_158 ?_
                  have E : fX7_count σ x1 = (σ.1 1) := j_ig c1 (j_ig c2 (j_ig c3 (j_ig c4 (j_ig c5 (j_ig c6 (j_ig c8 (j_ip c9 rfl)))))))
                  exact j_ireturn h hr E.symm rfl dX7_count_161
                ·
                  by_cases c10 : x1 = 8
                  ·
                    refine j_tableIn h dX7_count_1 (off := 161) (tgt := 162) (by rw [c10]; decide) (by rw [c10]; decide) (by rw [c10]; decide) (by decide) ?_
                    refine j_aload_n h 0 dX7_count_162 rfl rfl ?_
                    refine j_get h iX7 0 (fx_c0 _ _ _ σ) rfl 0 (by decide) tb2_11 rfl (v := .ref (a 1)) rfl dX7_count_163 ?_
                    refine j_get h iX4 1 (fx_c1 _ _ _ σ) rfl 2 (by decide) tb1_46 rfl (v := .int (σ.1 2)) rfl dX7_count_166 ?_
                    have E : fX7_count σ x1 = (σ.1 2) := j_ig c1 (j_ig c2 (j_ig c3 (j_ig c4 (j_ig c5 (j_ig c6 (j_ig c8 (j_ig c9 (j_ip c10 rfl))))))))
                    exact j_ireturn h hr E.symm rfl dX7_count_169
                  ·
                    by_cases c11 : x1 = 9
                    ·
                      refine j_tableIn h dX7_count_1 (off := 169) (tgt := 170) (by rw [c11]; decide) (by rw [c11]; decide) (by rw [c11]; decide) (by decide) ?_
                      refine j_aload_n h 0 dX7_count_170 rfl rfl ?_
                      refine j_get h iX7 0 (fx_c0 _ _ _ σ) rfl 0 (by decide) tb2_11 rfl (v := .ref (a 1)) rfl dX7_count_171 ?_
                      refine j_get h iX4 1 (fx_c1 _ _ _ σ) rfl 3 (by decide) tb1_48 rfl (v := .int (σ.1 3)) rfl dX7_count_174 ?_
                      have E : fX7_count σ x1 = (σ.1 3) := j_ig c1 (j_ig c2 (j_ig c3 (j_ig c4 (j_ig c5 (j_ig c6 (j_ig c8 (j_ig c9 (j_ig c10 (j_ip c11 rfl)))))))))
                      exact j_ireturn h hr E.symm rfl dX7_count_177
                    ·
                      by_cases c12 : x1 = 10
                      ·
                        refine j_tableIn h dX7_count_1 (off := 177) (tgt := 178) (by rw [c12]; decide) (by rw [c12]; decide) (by rw [c12]; decide) (by decide) ?_
                        refine j_aload_n h 0 dX7_count_178 rfl rfl ?_
                        refine j_get h iX7 0 (fx_c0 _ _ _ σ) rfl 0 (by decide) tb2_11 rfl (v := .ref (a 1)) rfl dX7_count_179 ?_
                        refine j_get h iX4 1 (fx_c1 _ _ _ σ) rfl 4 (by decide) tb1_51 rfl (v := .int (σ.1 4)) rfl dX7_count_182 ?_
                        have E : fX7_count σ x1 = (σ.1 4) := j_ig c1 (j_ig c2 (j_ig c3 (j_ig c4 (j_ig c5 (j_ig c6 (j_ig c8 (j_ig c9 (j_ig c10 (j_ig c11 (j_ip c12 rfl))))))))))
                        exact j_ireturn h hr E.symm rfl dX7_count_185
                      ·
                        by_cases c13 : x1 = 11
                        ·
                          refine j_tableIn h dX7_count_1 (off := 185) (tgt := 186) (by rw [c13]; decide) (by rw [c13]; decide) (by rw [c13]; decide) (by decide) ?_
                          refine j_aload_n h 0 dX7_count_186 rfl rfl ?_
                          refine j_get h iX7 0 (fx_c0 _ _ _ σ) rfl 0 (by decide) tb2_11 rfl (v := .ref (a 1)) rfl dX7_count_187 ?_
                          refine j_get h iX4 1 (fx_c1 _ _ _ σ) rfl 5 (by decide) tb1_53 rfl (v := .int (σ.1 5)) rfl dX7_count_190 ?_
                          have E : fX7_count σ x1 = (σ.1 5) := j_ig c1 (j_ig c2 (j_ig c3 (j_ig c4 (j_ig c5 (j_ig c6 (j_ig c8 (j_ig c9 (j_ig c10 (j_ig c11 (j_ig c12 (j_ip c13 rfl)))))))))))
                          exact j_ireturn h hr E.symm rfl dX7_count_193
                        ·
                          by_cases c14 : x1 = 12
                          ·
                            refine j_tableIn h dX7_count_1 (off := 193) (tgt := 194) (by rw [c14]; decide) (by rw [c14]; decide) (by rw [c14]; decide) (by decide) ?_
                            refine j_aload_n h 0 dX7_count_194 rfl rfl ?_
                            refine j_get h iX7 0 (fx_c0 _ _ _ σ) rfl 1 (by decide) tb2_12 rfl (v := .ref (a 2)) rfl dX7_count_195 ?_
                            refine j_callVi h (kX3_size l D a cI cZ σ) tb2_63 tb2_64 tb2_65 tb1_4 tb2_66 ⟨rfl, rfl⟩ (n := 0) (by decide +kernel) ⟨Nat.le_of_ble_eq_true rfl, Nat.le_of_ble_eq_true rfl⟩ (As := []) rfl (ci := 3) (q0 := 2) rfl (fx_c2 _ _ _ σ) (st := []) rfl (Nat.le_of_ble_eq_true rfl) dX7_count_198 ⟨Nat.zero_le _, Nat.zero_le _⟩ ?_
                            generalize hq15 : (fX3_size σ) = q15
                            subst hq15
                            have E : fX7_count σ x1 = (fX3_size σ) := j_ig c1 (j_ig c2 (j_ig c3 (j_ig c4 (j_ig c5 (j_ig c6 (j_ig c8 (j_ig c9 (j_ig c10 (j_ig c11 (j_ig c12 (j_ig c13 (j_ip c14 rfl))))))))))))
                            exact j_ireturn h hr E.symm rfl dX7_count_201
                          ·
                            by_cases c16 : x1 = 13
                            ·
                              refine j_tableIn h dX7_count_1 (off := 201) (tgt := 202) (by rw [c16]; decide) (by rw [c16]; decide) (by rw [c16]; decide) (by decide) ?_
                              refine j_aload_n h 0 dX7_count_202 rfl rfl ?_
                              refine j_get h iX7 0 (fx_c0 _ _ _ σ) rfl 2 (by decide) tb2_13 rfl (v := .ref (a 8)) rfl dX7_count_203 ?_
                              refine j_get h iX1 8 (fx_c8 _ _ _ σ) rfl 4 (by decide) tb1_209 rfl (v := .ref (a 17)) rfl dX7_count_206 ?_
                              refine j_get h iX6 17 (fx_c17 _ _ _ σ) rfl 6 (by decide) tb1_165 rfl (v := .int (σ.1 14)) rfl dX7_count_209 ?_
                              have E : fX7_count σ x1 = (σ.1 14) := j_ig c1 (j_ig c2 (j_ig c3 (j_ig c4 (j_ig c5 (j_ig c6 (j_ig c8 (j_ig c9 (j_ig c10 (j_ig c11 (j_ig c12 (j_ig c13 (j_ig c14 (j_ip c16 rfl)))))))))))))
                              exact j_ireturn h hr E.symm rfl dX7_count_212
                            ·
                              refine j_tableOut h dX7_count_1 (tgt := 213) (by have n0 := lv_neT (a := 0) c1 (by decide); have n1 := lv_neT (a := 1) c2 (by decide); have n2 := lv_neT (a := 2) c3 (by decide); have n3 := lv_neT (a := 3) c4 (by decide); have n4 := lv_neT (a := 4) c5 (by decide); have n5 := lv_neT (a := 5) c6 (by decide); have n6 := lv_neT (a := 6) c8 (by decide); have n7 := lv_neT (a := 7) c9 (by decide); have n8 := lv_neT (a := 8) c10 (by decide); have n9 := lv_neT (a := 9) c11 (by decide); have n10 := lv_neT (a := 10) c12 (by decide); have n11 := lv_neT (a := 11) c13 (by decide); have n12 := lv_neT (a := 12) c14 (by decide); have n13 := lv_neT (a := 13) c16 (by decide); omega) (by decide) ?_
                              refine j_iconst h (v := (-1)) dX7_count_213 (by decide) ?_
                              have E : fX7_count σ x1 = (-1) := j_ig c1 (j_ig c2 (j_ig c3 (j_ig c4 (j_ig c5 (j_ig c6 (j_ig c8 (j_ig c9 (j_ig c10 (j_ig c11 (j_ig c12 (j_ig c13 (j_ig c14 (j_ig c16 rfl)))))))))))))
                              exact j_ireturn h hr E.symm rfl dX7_count_214
