def rmX8_cause : Room := { frames := 1, cells := 0, slots := 0, locals := 22 }
set_option maxRecDepth 100000 in
set_option maxHeartbeats 4000000 in
theorem kX8_cause (l : Launch) (D : va_G) (a : Nat → Nat) (cI cZ : ClassId) (σ : St) (x1 : Int32) : Ci l yX8_cause cX8_cause 2 (some .int) TB rmX8_cause D vwCl [(cI, .int), (cZ, .boolean)] [.ref (a 0), .int x1] (mx a cI cZ σ) (mx a cI cZ (fX8_cause σ x1).2) (fX8_cause σ x1).1 := by
  refine Ci_of (cc := cX8_cause) (maxL := 2) (ret := (some .int)) (by decide +kernel) TBg (Nat.le_of_ble_eq_true rfl) ?_
  intro p e s m args below meth c A h hr
  refine j_aload_n h 0 dX8_cause_0 rfl rfl ?_
  refine j_iconst h (v := 0) dX8_cause_1 (by decide) ?_
  refine j_put h iX8 tyX8 tyX8_ok nmX8 0 (mx_c0 _ _ _ σ) rfl 0 (by decide) tb3_204 rfl rfl rfl rfl (Nat.le_of_ble_eq_true rfl) (w' := (mx a cI cZ (sg σ 22 0))) (mx_p0_0 _ _ _ σ _) dX8_cause_2 ?_
  refine j_iload_n h 1 dX8_cause_5 rfl rfl ?_
  refine j_iconst h (v := 0) dX8_cause_6 (by decide) ?_
  refine j_iconst h (v := 4) dX8_cause_7 (by decide) ?_
  refine j_callSi0 h (kX8_within l D cI cZ x1 0 4) tb4_96 tb4_97 tb1_11 tb4_98 ⟨rfl, rfl⟩ (n := 3) (by decide +kernel) ⟨Nat.le_of_ble_eq_true rfl, Nat.le_of_ble_eq_true rfl⟩ (As := [.int x1, .int 0, .int 4]) rfl (st := []) rfl (Nat.le_of_ble_eq_true rfl) dX8_cause_8 ⟨Nat.zero_le _, Nat.zero_le _⟩ ?_
  generalize hq1 : (fX8_within x1 0 4) = q1
  refine j_if_eq h dX8_cause_11 (tgt := 23) (by decide) (fun c2 => ?_) (fun c2 => ?_)
  ·
    refine j_aload_n h 0 dX8_cause_23 rfl rfl ?_
    refine j_iconst h (v := 1) dX8_cause_24 (by decide) ?_
    refine j_callVi h (kX8_fail l D a cI cZ (sg σ 22 0) 1) tb4_102 tb4_104 tp_13 tb1_11 tb4_105 ⟨rfl, rfl⟩ (n := 1) (by decide +kernel) ⟨Nat.le_of_ble_eq_true rfl, Nat.le_of_ble_eq_true rfl⟩ (As := [.int 1]) rfl (ci := 8) (q0 := 0) rfl (mx_c0 _ _ _ (sg σ 22 0)) (st := []) rfl (Nat.le_of_ble_eq_true rfl) dX8_cause_25 ⟨Nat.zero_le _, Nat.zero_le _⟩ ?_
    generalize hq3 : (fX8_fail (sg σ 22 0) 1) = q3
    subst hq1 hq3
    have E : fX8_cause σ x1 = ((fX8_fail (sg σ 22 0) 1).1, (fX8_fail (sg σ 22 0) 1).2) := j_ip c2 rfl
    exact j_ireturn h hr (congrArg Prod.fst E).symm (congrArg (fun z => mx a cI cZ z.2) E).symm dX8_cause_28
  ·
    refine j_aload_n h 0 dX8_cause_14 rfl rfl ?_
    refine j_get h iX8 0 (mx_c0 _ _ _ (sg σ 22 0)) rfl 37 (by decide) tb4_1 rfl (v := .ref (a 17)) rfl dX8_cause_15 ?_
    refine j_iload_n h 1 dX8_cause_18 rfl rfl ?_
    refine j_iald h 17 0 (mx_g17 (σ := (sg σ 22 0)) (F := (σ.2 11)) rfl) rfl (m_wi 5 (y := 4) (by first | exact (by rw [hq1]; exact c2) | exact c2) (by decide)) dX8_cause_19 ?_
    refine j_goto h dX8_cause_20 (tgt := 28) (by decide) ?_
    subst hq1
    have E : fX8_cause σ x1 = (((σ.2 11) x1.toNatClampNeg), (sg σ 22 0)) := j_ig c2 rfl
    exact j_ireturn h hr (congrArg Prod.fst E).symm (congrArg (fun z => mx a cI cZ z.2) E).symm dX8_cause_28
def rmX8_count : Room := { frames := 0, cells := 0, slots := 0, locals := 0 }
set_option maxRecDepth 100000 in
set_option maxHeartbeats 4000000 in
theorem kX8_count (l : Launch) (D : va_G) (a : Nat → Nat) (cI cZ : ClassId) (σ : St) (x1 : Int32) : Ci l yX8_count cX8_count 2 (some .int) TB rmX8_count D vwCl [(cI, .int), (cZ, .boolean)] [.ref (a 0), .int x1] (mx a cI cZ σ) (mx a cI cZ (fX8_count σ x1).2) (fX8_count σ x1).1 := by
  refine Ci_of (cc := cX8_count) (maxL := 2) (ret := (some .int)) (by decide +kernel) TBg (Nat.le_of_ble_eq_true rfl) ?_
  intro p e s m args below meth c A h hr
  refine j_aload_n h 0 dX8_count_0 rfl rfl ?_
  refine j_iconst h (v := 0) dX8_count_1 (by decide) ?_
  refine j_put h iX8 tyX8 tyX8_ok nmX8 0 (mx_c0 _ _ _ σ) rfl 0 (by decide) tb3_204 rfl rfl rfl rfl (Nat.le_of_ble_eq_true rfl) (w' := (mx a cI cZ (sg σ 22 0))) (mx_p0_0 _ _ _ σ _) dX8_count_2 ?_
  refine j_iload_n h 1 dX8_count_5 rfl rfl ?_
  by_cases c1 : x1 = 0
  ·
    refine j_tableIn h dX8_count_6 (off := 70) (tgt := 76) (by rw [c1]; decide) (by rw [c1]; decide) (by rw [c1]; decide) (by decide) ?_
    refine j_aload_n h 0 dX8_count_76 rfl rfl ?_
    refine j_get h iX8 0 (mx_c0 _ _ _ (sg σ 22 0)) rfl 31 (by decide) tb3_235 rfl (v := .int (σ.1 9)) rfl dX8_count_77 ?_
    have E : fX8_count σ x1 = ((σ.1 9), (sg σ 22 0)) := j_ip c1 rfl
    exact j_ireturn h hr (congrArg Prod.fst E).symm (congrArg (fun z => mx a cI cZ z.2) E).symm dX8_count_80
  ·
    by_cases c2 : x1 = 1
    ·
      refine j_tableIn h dX8_count_6 (off := 75) (tgt := 81) (by rw [c2]; decide) (by rw [c2]; decide) (by rw [c2]; decide) (by decide) ?_
      refine j_aload_n h 0 dX8_count_81 rfl rfl ?_
      refine j_get h iX8 0 (mx_c0 _ _ _ (sg σ 22 0)) rfl 32 (by decide) tb3_236 rfl (v := .int (σ.1 10)) rfl dX8_count_82 ?_
      have E : fX8_count σ x1 = ((σ.1 10), (sg σ 22 0)) := j_ig c1 (j_ip c2 rfl)
      exact j_ireturn h hr (congrArg Prod.fst E).symm (congrArg (fun z => mx a cI cZ z.2) E).symm dX8_count_85
    ·
      by_cases c3 : x1 = 2
      ·
        refine j_tableIn h dX8_count_6 (off := 80) (tgt := 86) (by rw [c3]; decide) (by rw [c3]; decide) (by rw [c3]; decide) (by decide) ?_
        refine j_aload_n h 0 dX8_count_86 rfl rfl ?_
        refine j_get h iX8 0 (mx_c0 _ _ _ (sg σ 22 0)) rfl 33 (by decide) tb3_237 rfl (v := .int (σ.1 11)) rfl dX8_count_87 ?_
        have E : fX8_count σ x1 = ((σ.1 11), (sg σ 22 0)) := j_ig c1 (j_ig c2 (j_ip c3 rfl))
        exact j_ireturn h hr (congrArg Prod.fst E).symm (congrArg (fun z => mx a cI cZ z.2) E).symm dX8_count_90
      ·
        by_cases c4 : x1 = 3
        ·
          refine j_tableIn h dX8_count_6 (off := 85) (tgt := 91) (by rw [c4]; decide) (by rw [c4]; decide) (by rw [c4]; decide) (by decide) ?_
          refine j_aload_n h 0 dX8_count_91 rfl rfl ?_
          refine j_get h iX8 0 (mx_c0 _ _ _ (sg σ 22 0)) rfl 34 (by decide) tb3_238 rfl (v := .int (σ.1 12)) rfl dX8_count_92 ?_
          have E : fX8_count σ x1 = ((σ.1 12), (sg σ 22 0)) := j_ig c1 (j_ig c2 (j_ig c3 (j_ip c4 rfl)))
          exact j_ireturn h hr (congrArg Prod.fst E).symm (congrArg (fun z => mx a cI cZ z.2) E).symm dX8_count_95
        ·
          by_cases c5 : x1 = 4
          ·
            refine j_tableIn h dX8_count_6 (off := 90) (tgt := 96) (by rw [c5]; decide) (by rw [c5]; decide) (by rw [c5]; decide) (by decide) ?_
            refine j_aload_n h 0 dX8_count_96 rfl rfl ?_
            refine j_get h iX8 0 (mx_c0 _ _ _ (sg σ 22 0)) rfl 35 (by decide) tb3_239 rfl (v := .int (σ.1 13)) rfl dX8_count_97 ?_
            have E : fX8_count σ x1 = ((σ.1 13), (sg σ 22 0)) := j_ig c1 (j_ig c2 (j_ig c3 (j_ig c4 (j_ip c5 rfl))))
            exact j_ireturn h hr (congrArg Prod.fst E).symm (congrArg (fun z => mx a cI cZ z.2) E).symm dX8_count_100
          ·
            by_cases c6 : x1 = 5
            ·
              refine j_tableIn h dX8_count_6 (off := 95) (tgt := 101) (by rw [c6]; decide) (by rw [c6]; decide) (by rw [c6]; decide) (by decide) ?_
              refine j_aload_n h 0 dX8_count_101 rfl rfl ?_
              refine j_get h iX8 0 (mx_c0 _ _ _ (sg σ 22 0)) rfl 29 (by decide) tb3_233 rfl (v := .int (σ.1 15)) rfl dX8_count_102 ?_
              refine j_if_eq h dX8_count_105 (tgt := 112) (by decide) (fun c7 => ?_) (fun c7 => ?_)
              ·
                refine j_iconst h (v := 0) dX8_count_112 (by decide) ?_
                have E : fX8_count σ x1 = (0, (sg σ 22 0)) := j_ig c1 (j_ig c2 (j_ig c3 (j_ig c4 (j_ig c5 (j_ip c6 (j_ip c7 rfl))))))
                exact j_ireturn h hr (congrArg Prod.fst E).symm (congrArg (fun z => mx a cI cZ z.2) E).symm dX8_count_113
              ·
                refine j_iconst h (v := 1) dX8_count_108 (by decide) ?_
                refine j_goto h dX8_count_109 (tgt := 113) (by decide) ?_
                have E : fX8_count σ x1 = (1, (sg σ 22 0)) := j_ig c1 (j_ig c2 (j_ig c3 (j_ig c4 (j_ig c5 (j_ip c6 (j_ig c7 rfl))))))
                exact j_ireturn h hr (congrArg Prod.fst E).symm (congrArg (fun z => mx a cI cZ z.2) E).symm dX8_count_113
            ·
              by_cases c8 : x1 = 6
              ·
                refine j_tableIn h dX8_count_6 (off := 108) (tgt := 114) (by rw [c8]; decide) (by rw [c8]; decide) (by rw [c8]; decide) (by decide) ?_
                refine j_aload_n h 0 dX8_count_114 rfl rfl ?_
                refine j_get h iX8 0 (mx_c0 _ _ _ (sg σ 22 0)) rfl 1 (by decide) tb3_205 rfl (v := .int (σ.1 0)) rfl dX8_count_115 ?_
                have E : fX8_count σ x1 = ((σ.1 0), (sg σ 22 0)) := j_ig c1 (j_ig c2 (j_ig c3 (j_ig c4 (j_ig c5 (j_ig c6 (j_ip c8 rfl))))))
                exact j_ireturn h hr (congrArg Prod.fst E).symm (congrArg (fun z => mx a cI cZ z.2) E).symm dX8_count_118
              ·
                by_cases c9 : x1 = 7
                ·
                  refine j_tableIn h dX8_count_6 (off := 113) (tgt := 119) (by rw [c9]; decide) (by rw [c9]; decide) (by rw [c9]; decide) (by decide) ?_
                  refine j_aload_n h 0 dX8_count_119 rfl rfl ?_
                  refine j_get h iX8 0 (mx_c0 _ _ _ (sg σ 22 0)) rfl 2 (by decide) tb3_206 rfl (v := .int (σ.1 1)) rfl dX8_count_120 ?_
                  have E : fX8_count σ x1 = ((σ.1 1), (sg σ 22 0)) := j_ig c1 (j_ig c2 (j_ig c3 (j_ig c4 (j_ig c5 (j_ig c6 (j_ig c8 (j_ip c9 rfl)))))))
                  exact j_ireturn h hr (congrArg Prod.fst E).symm (congrArg (fun z => mx a cI cZ z.2) E).symm dX8_count_123
                ·
                  by_cases c10 : x1 = 8
                  ·
                    refine j_tableIn h dX8_count_6 (off := 118) (tgt := 124) (by rw [c10]; decide) (by rw [c10]; decide) (by rw [c10]; decide) (by decide) ?_
                    refine j_aload_n h 0 dX8_count_124 rfl rfl ?_
                    refine j_get h iX8 0 (mx_c0 _ _ _ (sg σ 22 0)) rfl 3 (by decide) tb3_207 rfl (v := .int (σ.1 2)) rfl dX8_count_125 ?_
                    have E : fX8_count σ x1 = ((σ.1 2), (sg σ 22 0)) := j_ig c1 (j_ig c2 (j_ig c3 (j_ig c4 (j_ig c5 (j_ig c6 (j_ig c8 (j_ig c9 (j_ip c10 rfl))))))))
                    exact j_ireturn h hr (congrArg Prod.fst E).symm (congrArg (fun z => mx a cI cZ z.2) E).symm dX8_count_128
                  ·
                    by_cases c11 : x1 = 9
                    ·
                      refine j_tableIn h dX8_count_6 (off := 123) (tgt := 129) (by rw [c11]; decide) (by rw [c11]; decide) (by rw [c11]; decide) (by decide) ?_
                      refine j_aload_n h 0 dX8_count_129 rfl rfl ?_
                      refine j_get h iX8 0 (mx_c0 _ _ _ (sg σ 22 0)) rfl 4 (by decide) tb3_208 rfl (v := .int (σ.1 3)) rfl dX8_count_130 ?_
                      have E : fX8_count σ x1 = ((σ.1 3), (sg σ 22 0)) := j_ig c1 (j_ig c2 (j_ig c3 (j_ig c4 (j_ig c5 (j_ig c6 (j_ig c8 (j_ig c9 (j_ig c10 (j_ip c11 rfl)))))))))
                      exact j_ireturn h hr (congrArg Prod.fst E).symm (congrArg (fun z => mx a cI cZ z.2) E).symm dX8_count_133
                    ·
                      by_cases c12 : x1 = 10
                      ·
                        refine j_tableIn h dX8_count_6 (off := 128) (tgt := 134) (by rw [c12]; decide) (by rw [c12]; decide) (by rw [c12]; decide) (by decide) ?_
                        refine j_aload_n h 0 dX8_count_134 rfl rfl ?_
                        refine j_get h iX8 0 (mx_c0 _ _ _ (sg σ 22 0)) rfl 5 (by decide) tb3_209 rfl (v := .int (σ.1 4)) rfl dX8_count_135 ?_
                        have E : fX8_count σ x1 = ((σ.1 4), (sg σ 22 0)) := j_ig c1 (j_ig c2 (j_ig c3 (j_ig c4 (j_ig c5 (j_ig c6 (j_ig c8 (j_ig c9 (j_ig c10 (j_ig c11 (j_ip c12 rfl))))))))))
                        exact j_ireturn h hr (congrArg Prod.fst E).symm (congrArg (fun z => mx a cI cZ z.2) E).symm dX8_count_138
                      ·
                        by_cases c13 : x1 = 11
                        ·
                          refine j_tableIn h dX8_count_6 (off := 133) (tgt := 139) (by rw [c13]; decide) (by rw [c13]; decide) (by rw [c13]; decide) (by decide) ?_
                          refine j_aload_n h 0 dX8_count_139 rfl rfl ?_
                          refine j_get h iX8 0 (mx_c0 _ _ _ (sg σ 22 0)) rfl 6 (by decide) tb3_210 rfl (v := .int (σ.1 5)) rfl dX8_count_140 ?_
                          have E : fX8_count σ x1 = ((σ.1 5), (sg σ 22 0)) := j_ig c1 (j_ig c2 (j_ig c3 (j_ig c4 (j_ig c5 (j_ig c6 (j_ig c8 (j_ig c9 (j_ig c10 (j_ig c11 (j_ig c12 (j_ip c13 rfl)))))))))))
                          exact j_ireturn h hr (congrArg Prod.fst E).symm (congrArg (fun z => mx a cI cZ z.2) E).symm dX8_count_143
                        ·
                          by_cases c14 : x1 = 12
                          ·
                            refine j_tableIn h dX8_count_6 (off := 138) (tgt := 144) (by rw [c14]; decide) (by rw [c14]; decide) (by rw [c14]; decide) (by decide) ?_
                            refine j_aload_n h 0 dX8_count_144 rfl rfl ?_
                            refine j_get h iX8 0 (mx_c0 _ _ _ (sg σ 22 0)) rfl 9 (by decide) tb3_213 rfl (v := .int (σ.1 6)) rfl dX8_count_145 ?_
                            have E : fX8_count σ x1 = ((σ.1 6), (sg σ 22 0)) := j_ig c1 (j_ig c2 (j_ig c3 (j_ig c4 (j_ig c5 (j_ig c6 (j_ig c8 (j_ig c9 (j_ig c10 (j_ig c11 (j_ig c12 (j_ig c13 (j_ip c14 rfl))))))))))))
                            exact j_ireturn h hr (congrArg Prod.fst E).symm (congrArg (fun z => mx a cI cZ z.2) E).symm dX8_count_148
                          ·
                            by_cases c15 : x1 = 13
                            ·
                              refine j_tableIn h dX8_count_6 (off := 143) (tgt := 149) (by rw [c15]; decide) (by rw [c15]; decide) (by rw [c15]; decide) (by decide) ?_
                              refine j_aload_n h 0 dX8_count_149 rfl rfl ?_
                              refine j_get h iX8 0 (mx_c0 _ _ _ (sg σ 22 0)) rfl 36 (by decide) tb4_0 rfl (v := .int (σ.1 14)) rfl dX8_count_150 ?_
                              have E : fX8_count σ x1 = ((σ.1 14), (sg σ 22 0)) := j_ig c1 (j_ig c2 (j_ig c3 (j_ig c4 (j_ig c5 (j_ig c6 (j_ig c8 (j_ig c9 (j_ig c10 (j_ig c11 (j_ig c12 (j_ig c13 (j_ig c14 (j_ip c15 rfl)))))))))))))
                              exact j_ireturn h hr (congrArg Prod.fst E).symm (congrArg (fun z => mx a cI cZ z.2) E).symm dX8_count_153
                            ·
                              refine j_tableOut h dX8_count_6 (tgt := 154) (by have n0 := lv_neT (a := 0) c1 (by decide); have n1 := lv_neT (a := 1) c2 (by decide); have n2 := lv_neT (a := 2) c3 (by decide); have n3 := lv_neT (a := 3) c4 (by decide); have n4 := lv_neT (a := 4) c5 (by decide); have n5 := lv_neT (a := 5) c6 (by decide); have n6 := lv_neT (a := 6) c8 (by decide); have n7 := lv_neT (a := 7) c9 (by decide); have n8 := lv_neT (a := 8) c10 (by decide); have n9 := lv_neT (a := 9) c11 (by decide); have n10 := lv_neT (a := 10) c12 (by decide); have n11 := lv_neT (a := 11) c13 (by decide); have n12 := lv_neT (a := 12) c14 (by decide); have n13 := lv_neT (a := 13) c15 (by decide); omega) (by decide) ?_
                              refine j_iconst h (v := (-1)) dX8_count_154 (by decide) ?_
                              have E : fX8_count σ x1 = ((-1), (sg σ 22 0)) := j_ig c1 (j_ig c2 (j_ig c3 (j_ig c4 (j_ig c5 (j_ig c6 (j_ig c8 (j_ig c9 (j_ig c10 (j_ig c11 (j_ig c12 (j_ig c13 (j_ig c14 (j_ig c15 rfl)))))))))))))
                              exact j_ireturn h hr (congrArg Prod.fst E).symm (congrArg (fun z => mx a cI cZ z.2) E).symm dX8_count_155
