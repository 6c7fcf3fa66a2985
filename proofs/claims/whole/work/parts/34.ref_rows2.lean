def rmX8_leave : Room := { frames := 2, cells := 0, slots := 0, locals := 45 }
set_option maxRecDepth 100000 in
set_option maxHeartbeats 4000000 in
theorem kX8_leave (l : Launch) (D : va_G) (a : Nat → Nat) (cI cZ : ClassId) (σ : St) {K : Nat} (hb : mB σ) (hv : mV K σ) : Ci l yX8_leave cX8_leave 3 (some .int) TB rmX8_leave D vwCl [(cI, .int), (cZ, .boolean)] [.ref (a 0)] (mx a cI cZ σ) (mx a cI cZ (fX8_leave σ).2) (fX8_leave σ).1 := by
  refine Ci_of (cc := cX8_leave) (maxL := 3) (ret := (some .int)) (by decide +kernel) TBg (Nat.le_of_ble_eq_true rfl) ?_
  intro p e s m args below meth c A h hr
  refine j_aload_n h 0 dX8_leave_0 rfl rfl ?_
  refine j_get h iX8 0 (mx_c0 _ _ _ σ) rfl 1 (by decide) tb3_205 rfl (v := .int (σ.1 0)) rfl dX8_leave_1 ?_
  refine j_iconst h (v := 1) dX8_leave_4 (by decide) ?_
  refine j_isub h dX8_leave_5 ?_
  refine j_istore_n h (lv' := [(1, .int ((σ.1 0) - 1)), (0, .ref (a 0))]) dX8_leave_6 rfl (by decide) rfl ?_
  refine j_aload_n h 1 dX8_leave_7 rfl rfl ?_
  refine j_get h iX8 0 (mx_c0 _ _ _ σ) rfl 15 (by decide) tb3_219 rfl (v := .ref (a 6)) rfl dX8_leave_8 ?_
  refine j_iload_n h 0 dX8_leave_11 rfl rfl ?_
  refine j_iald h 6 0 (mx_g6 (σ := σ) (F := (σ.2 5)) rfl) rfl hb.1.last8 dX8_leave_12 ?_
  refine j_istore_n h (lv' := [(2, .int ((σ.2 5) ((σ.1 0) - 1).toNatClampNeg)), (1, .int ((σ.1 0) - 1)), (0, .ref (a 0))]) dX8_leave_13 rfl (by decide) rfl ?_
  refine j_iload_n h 0 dX8_leave_14 rfl rfl ?_
  refine j_if_ge h dX8_leave_15 (tgt := 20) (by decide) (fun c1 => ?_) (fun c1 => ?_)
  ·
    refine j_aload_n h 2 dX8_leave_20 rfl rfl ?_
    refine j_get h iX8 0 (mx_c0 _ _ _ σ) rfl 10 (by decide) tb3_214 rfl (v := .ref (a 1)) rfl dX8_leave_21 ?_
    refine j_iload_n h 0 dX8_leave_24 rfl rfl ?_
    refine j_iald h 1 0 (mx_g1 (σ := σ) (F := (σ.2 0)) rfl) rfl (m_w hv.1 hb.1.last8 (m_ge c1)) dX8_leave_25 ?_
    refine j_iconst h (v := 5) dX8_leave_26 (by decide) ?_
    refine j_icmp_ne h dX8_leave_27 (tgt := 61) (by decide) (fun c2 => ?_) (fun c2 => ?_)
    ·
      refine j_aload_n h 2 dX8_leave_61 rfl rfl ?_
      refine j_iload_n h 1 dX8_leave_62 rfl rfl ?_
      refine j_callVv h (kX8_commit l D a cI cZ σ ((σ.1 0) - 1) hb.1.last8 (m_w hv.1 hb.1.last8 (m_ge c1)) hb.2.1 hv.2.1 hv.2.2.2.1) tb4_130 tb4_132 tp_17 tb1_11 tb4_133 ⟨rfl, rfl⟩ (n := 1) (by decide +kernel) ⟨Nat.le_of_ble_eq_true rfl, Nat.le_of_ble_eq_true rfl⟩ (As := [.int ((σ.1 0) - 1)]) rfl (ci := 8) (q0 := 0) rfl (mx_c0 _ _ _ σ) (st := []) rfl (Nat.le_of_ble_eq_true rfl) dX8_leave_63 ⟨Nat.zero_le _, Nat.zero_le _⟩ ?_
      generalize hq3 : (fX8_commit σ ((σ.1 0) - 1)) = q3
      refine j_aload_n h 2 dX8_leave_66 rfl rfl ?_
      refine j_get h iX8 0 (mx_c0 _ _ _ q3) rfl 15 (by decide) tb3_219 rfl (v := .ref (a 6)) rfl dX8_leave_67 ?_
      refine j_iload_n h 1 dX8_leave_70 rfl rfl ?_
      refine j_iconst h (v := (-1)) dX8_leave_71 (by decide) ?_
      refine j_iast h 6 0 (mx_g6 (σ := q3) (F := (q3.2 5)) rfl) rfl hb.1.last8 (w' := (mx a cI cZ (ar q3 5 (upd (q3.2 5) ((σ.1 0) - 1).toNatClampNeg (-1))))) (mx_s6 _ _ _ q3 _) dX8_leave_72 ?_
      refine j_aload_n h 2 dX8_leave_73 rfl rfl ?_
      refine j_get h iX8 0 (mx_c0 _ _ _ (ar q3 5 (upd (q3.2 5) ((σ.1 0) - 1).toNatClampNeg (-1)))) rfl 10 (by decide) tb3_214 rfl (v := .ref (a 1)) rfl dX8_leave_74 ?_
      refine j_iload_n h 0 dX8_leave_77 rfl rfl ?_
      refine j_iald h 1 0 (mx_g1 (σ := (ar q3 5 (upd (q3.2 5) ((σ.1 0) - 1).toNatClampNeg (-1)))) (F := (q3.2 0)) rfl) rfl (m_w hv.1 hb.1.last8 (m_ge c1)) dX8_leave_78 ?_
      refine j_bipush h (v := 6) dX8_leave_79 (by decide) ?_
      refine j_icmp_ne h dX8_leave_81 (tgt := 92) (by decide) (fun c4 => ?_) (fun c4 => ?_)
      ·
        refine j_aload_n h 2 dX8_leave_92 rfl rfl ?_
        refine j_get h iX8 0 (mx_c0 _ _ _ (ar q3 5 (upd (q3.2 5) ((σ.1 0) - 1).toNatClampNeg (-1)))) rfl 5 (by decide) tb3_209 rfl (v := .int (q3.1 4)) rfl dX8_leave_93 ?_
        refine j_iload_n h 1 dX8_leave_96 rfl rfl ?_
        refine j_icmp_ne h dX8_leave_97 (tgt := 130) (by decide) (fun c5 => ?_) (fun c5 => ?_)
        ·
          refine j_iconst h (v := 0) dX8_leave_130 (by decide) ?_
          subst hq3
          have E : fX8_leave σ = (0, (ar (fX8_commit σ ((σ.1 0) - 1)) 5 (upd ((fX8_commit σ ((σ.1 0) - 1)).2 5) ((σ.1 0) - 1).toNatClampNeg (-1)))) := j_ip c1 (j_ig c2 (j_ig c4 (j_ig c5 rfl)))
          exact j_ireturn h hr (congrArg Prod.fst E).symm (congrArg (fun z => mx a cI cZ z.2) E).symm dX8_leave_131
        ·
          refine j_aload_n h 2 dX8_leave_100 rfl rfl ?_
          refine j_get h iX8 0 (mx_c0 _ _ _ (ar q3 5 (upd (q3.2 5) ((σ.1 0) - 1).toNatClampNeg (-1)))) rfl 16 (by decide) tb3_220 rfl (v := .ref (a 7)) rfl dX8_leave_101 ?_
          refine j_iload_n h 1 dX8_leave_104 rfl rfl ?_
          refine j_zald h 7 1 (mx_g7 (σ := (ar q3 5 (upd (q3.2 5) ((σ.1 0) - 1).toNatClampNeg (-1)))) (F := (q3.2 6)) rfl) rfl hb.1.last8 dX8_leave_105 ?_
          refine j_if_eq h dX8_leave_106 (tgt := 130) (by decide) (fun c6 => ?_) (fun c6 => ?_)
          ·
            refine j_iconst h (v := 0) dX8_leave_130 (by decide) ?_
            subst hq3
            have E : fX8_leave σ = (0, (ar (fX8_commit σ ((σ.1 0) - 1)) 5 (upd ((fX8_commit σ ((σ.1 0) - 1)).2 5) ((σ.1 0) - 1).toNatClampNeg (-1)))) := j_ip c1 (j_ig c2 (j_ig c4 (j_ip c5 (j_ip c6 rfl))))
            exact j_ireturn h hr (congrArg Prod.fst E).symm (congrArg (fun z => mx a cI cZ z.2) E).symm dX8_leave_131
          ·
            refine j_aload_n h 2 dX8_leave_109 rfl rfl ?_
            refine j_get h iX8 0 (mx_c0 _ _ _ (ar q3 5 (upd (q3.2 5) ((σ.1 0) - 1).toNatClampNeg (-1)))) rfl 10 (by decide) tb3_214 rfl (v := .ref (a 1)) rfl dX8_leave_110 ?_
            refine j_iload_n h 0 dX8_leave_113 rfl rfl ?_
            refine j_iald h 1 0 (mx_g1 (σ := (ar q3 5 (upd (q3.2 5) ((σ.1 0) - 1).toNatClampNeg (-1)))) (F := (q3.2 0)) rfl) rfl (m_w hv.1 hb.1.last8 (m_ge c1)) dX8_leave_114 ?_
            refine j_iconst h (v := 4) dX8_leave_115 (by decide) ?_
            refine j_icmp_ne h dX8_leave_116 (tgt := 130) (by decide) (fun c7 => ?_) (fun c7 => ?_)
            ·
              refine j_iconst h (v := 0) dX8_leave_130 (by decide) ?_
              subst hq3
              have E : fX8_leave σ = (0, (ar (fX8_commit σ ((σ.1 0) - 1)) 5 (upd ((fX8_commit σ ((σ.1 0) - 1)).2 5) ((σ.1 0) - 1).toNatClampNeg (-1)))) := j_ip c1 (j_ig c2 (j_ig c4 (j_ip c5 (j_ig c6 (j_ig c7 rfl)))))
              exact j_ireturn h hr (congrArg Prod.fst E).symm (congrArg (fun z => mx a cI cZ z.2) E).symm dX8_leave_131
            ·
              refine j_aload_n h 2 dX8_leave_119 rfl rfl ?_
              refine j_iload_n h 1 dX8_leave_120 rfl rfl ?_
              refine j_aload_n h 2 dX8_leave_121 rfl rfl ?_
              refine j_get h iX8 0 (mx_c0 _ _ _ (ar q3 5 (upd (q3.2 5) ((σ.1 0) - 1).toNatClampNeg (-1)))) rfl 21 (by decide) tb3_225 rfl (v := .ref (a 12)) rfl dX8_leave_122 ?_
              refine j_iload_n h 1 dX8_leave_125 rfl rfl ?_
              refine j_iald h 12 0 (mx_g12 (σ := (ar q3 5 (upd (q3.2 5) ((σ.1 0) - 1).toNatClampNeg (-1)))) (F := (q3.2 19)) rfl) rfl hb.1.last8 dX8_leave_126 ?_
              refine j_callVv h (kX8_know l D a cI cZ (ar q3 5 (upd (q3.2 5) ((σ.1 0) - 1).toNatClampNeg (-1))) ((σ.1 0) - 1) ((q3.2 19) ((σ.1 0) - 1).toNatClampNeg) hb.1.l8 (mB.w0 (mB.fq (by rw [← hq3]; exact (mB.fq hb (fr_fX8_commit _ _))) (Fq.ar (by decide))))) tb4_138 tb4_140 tp_19 tb1_11 tb4_141 ⟨rfl, rfl⟩ (n := 2) (by decide +kernel) ⟨Nat.le_of_ble_eq_true rfl, Nat.le_of_ble_eq_true rfl⟩ (As := [.int ((σ.1 0) - 1), .int ((q3.2 19) ((σ.1 0) - 1).toNatClampNeg)]) rfl (ci := 8) (q0 := 0) rfl (mx_c0 _ _ _ (ar q3 5 (upd (q3.2 5) ((σ.1 0) - 1).toNatClampNeg (-1)))) (st := []) rfl (Nat.le_of_ble_eq_true rfl) dX8_leave_127 ⟨Nat.zero_le _, Nat.zero_le _⟩ ?_
              generalize hq8 : (fX8_know (ar q3 5 (upd (q3.2 5) ((σ.1 0) - 1).toNatClampNeg (-1))) ((σ.1 0) - 1) ((q3.2 19) ((σ.1 0) - 1).toNatClampNeg)) = q8
              refine j_iconst h (v := 0) dX8_leave_130 (by decide) ?_
              subst hq3 hq8
              have E : fX8_leave σ = (0, (fX8_know (ar (fX8_commit σ ((σ.1 0) - 1)) 5 (upd ((fX8_commit σ ((σ.1 0) - 1)).2 5) ((σ.1 0) - 1).toNatClampNeg (-1))) ((σ.1 0) - 1) (((fX8_commit σ ((σ.1 0) - 1)).2 19) ((σ.1 0) - 1).toNatClampNeg))) := j_ip c1 (j_ig c2 (j_ig c4 (j_ip c5 (j_ig c6 (j_ip c7 rfl)))))
              exact j_ireturn h hr (congrArg Prod.fst E).symm (congrArg (fun z => mx a cI cZ z.2) E).symm dX8_leave_131
      ·
        refine j_aload_n h 2 dX8_leave_84 rfl rfl ?_
        refine j_iconst h (v := 1) dX8_leave_85 (by decide) ?_
        refine j_put h iX8 tyX8 tyX8_ok nmX8 0 (mx_c0 _ _ _ (ar q3 5 (upd (q3.2 5) ((σ.1 0) - 1).toNatClampNeg (-1)))) rfl 29 (by decide) tb3_233 rfl rfl rfl rfl (Nat.le_of_ble_eq_true rfl) (w' := (mx a cI cZ (sg (ar q3 5 (upd (q3.2 5) ((σ.1 0) - 1).toNatClampNeg (-1))) 15 1))) (mx_p0_29 _ _ _ (ar q3 5 (upd (q3.2 5) ((σ.1 0) - 1).toNatClampNeg (-1))) _) dX8_leave_86 ?_
        refine j_goto h dX8_leave_89 (tgt := 130) (by decide) ?_
        refine j_iconst h (v := 0) dX8_leave_130 (by decide) ?_
        subst hq3
        have E : fX8_leave σ = (0, (sg (ar (fX8_commit σ ((σ.1 0) - 1)) 5 (upd ((fX8_commit σ ((σ.1 0) - 1)).2 5) ((σ.1 0) - 1).toNatClampNeg (-1))) 15 1)) := j_ip c1 (j_ig c2 (j_ip c4 rfl))
        exact j_ireturn h hr (congrArg Prod.fst E).symm (congrArg (fun z => mx a cI cZ z.2) E).symm dX8_leave_131
    ·
      refine j_aload_n h 2 dX8_leave_30 rfl rfl ?_
      refine j_get h iX8 0 (mx_c0 _ _ _ σ) rfl 15 (by decide) tb3_219 rfl (v := .ref (a 6)) rfl dX8_leave_31 ?_
      refine j_iload_n h 1 dX8_leave_34 rfl rfl ?_
      refine j_iconst h (v := (-1)) dX8_leave_35 (by decide) ?_
      refine j_iast h 6 0 (mx_g6 (σ := σ) (F := (σ.2 5)) rfl) rfl hb.1.last8 (w' := (mx a cI cZ (ar σ 5 (upd (σ.2 5) ((σ.1 0) - 1).toNatClampNeg (-1))))) (mx_s6 _ _ _ σ _) dX8_leave_36 ?_
      refine j_aload_n h 2 dX8_leave_37 rfl rfl ?_
      refine j_dup h dX8_leave_38 rfl ?_
      refine j_get h iX8 0 (mx_c0 _ _ _ (ar σ 5 (upd (σ.2 5) ((σ.1 0) - 1).toNatClampNeg (-1)))) rfl 35 (by decide) tb3_239 rfl (v := .int (σ.1 13)) rfl dX8_leave_39 ?_
      refine j_iconst h (v := 1) dX8_leave_42 (by decide) ?_
      refine j_iadd h dX8_leave_43 ?_
      refine j_put h iX8 tyX8 tyX8_ok nmX8 0 (mx_c0 _ _ _ (ar σ 5 (upd (σ.2 5) ((σ.1 0) - 1).toNatClampNeg (-1)))) rfl 35 (by decide) tb3_239 rfl rfl rfl rfl (Nat.le_of_ble_eq_true rfl) (w' := (mx a cI cZ (sg (ar σ 5 (upd (σ.2 5) ((σ.1 0) - 1).toNatClampNeg (-1))) 13 ((σ.1 13) + 1)))) (mx_p0_35 _ _ _ (ar σ 5 (upd (σ.2 5) ((σ.1 0) - 1).toNatClampNeg (-1))) _) dX8_leave_44 ?_
      refine j_aload_n h 2 dX8_leave_47 rfl rfl ?_
      refine j_aload_n h 2 dX8_leave_48 rfl rfl ?_
      refine j_get h iX8 0 (mx_c0 _ _ _ (sg (ar σ 5 (upd (σ.2 5) ((σ.1 0) - 1).toNatClampNeg (-1))) 13 ((σ.1 13) + 1))) rfl 1 (by decide) tb3_205 rfl (v := .int (σ.1 0)) rfl dX8_leave_49 ?_
      refine j_aload_n h 2 dX8_leave_52 rfl rfl ?_
      refine j_get h iX8 0 (mx_c0 _ _ _ (sg (ar σ 5 (upd (σ.2 5) ((σ.1 0) - 1).toNatClampNeg (-1))) 13 ((σ.1 13) + 1))) rfl 8 (by decide) tb3_212 rfl (v := .int (σ.1 17)) rfl dX8_leave_53 ?_
      refine j_callVv h (kX8_squash l D a cI cZ (sg (ar σ 5 (upd (σ.2 5) ((σ.1 0) - 1).toNatClampNeg (-1))) 13 ((σ.1 13) + 1)) (σ.1 0) (σ.1 17) hb.1.n8 hb.w0) tb4_126 tb4_128 tp_16 tb1_11 tb4_129 ⟨rfl, rfl⟩ (n := 2) (by decide +kernel) ⟨Nat.le_of_ble_eq_true rfl, Nat.le_of_ble_eq_true rfl⟩ (As := [.int (σ.1 0), .int (σ.1 17)]) rfl (ci := 8) (q0 := 0) rfl (mx_c0 _ _ _ (sg (ar σ 5 (upd (σ.2 5) ((σ.1 0) - 1).toNatClampNeg (-1))) 13 ((σ.1 13) + 1))) (st := []) rfl (Nat.le_of_ble_eq_true rfl) dX8_leave_56 ⟨Nat.zero_le _, Nat.zero_le _⟩ ?_
      generalize hq9 : (fX8_squash (sg (ar σ 5 (upd (σ.2 5) ((σ.1 0) - 1).toNatClampNeg (-1))) 13 ((σ.1 13) + 1)) (σ.1 0) (σ.1 17)) = q9
      refine j_iconst h (v := 1) dX8_leave_59 (by decide) ?_
      subst hq9
      have E : fX8_leave σ = (1, (fX8_squash (sg (ar σ 5 (upd (σ.2 5) ((σ.1 0) - 1).toNatClampNeg (-1))) 13 ((σ.1 13) + 1)) (σ.1 0) (σ.1 17))) := j_ip c1 (j_ip c2 rfl)
      exact j_ireturn h hr (congrArg Prod.fst E).symm (congrArg (fun z => mx a cI cZ z.2) E).symm dX8_leave_60
  ·
    refine j_iconst h (v := 4) dX8_leave_18 (by decide) ?_
    have E : fX8_leave σ = (4, σ) := j_ig c1 rfl
    exact j_ireturn h hr (congrArg Prod.fst E).symm (congrArg (fun z => mx a cI cZ z.2) E).symm dX8_leave_19
def rmX8_work : Room := { frames := 3, cells := 0, slots := 0, locals := 64 }
set_option maxRecDepth 100000 in
set_option maxHeartbeats 4000000 in
theorem kX8_work (l : Launch) (D : va_G) (a : Nat → Nat) (cI cZ : ClassId) (σ : St) {K : Nat} (hb : mB σ) (hv : mV K σ) (h0 : 0 ≤ ((σ.2 5) (σ.1 1).toNatClampNeg).toInt) : Ci l yX8_work cX8_work 2 (some .int) TB rmX8_work D vwCl [(cI, .int), (cZ, .boolean)] [.ref (a 0)] (mx a cI cZ σ) (mx a cI cZ (fX8_work σ).2) (fX8_work σ).1 := by
  refine Ci_of (cc := cX8_work) (maxL := 2) (ret := (some .int)) (by decide +kernel) TBg (Nat.le_of_ble_eq_true rfl) ?_
  intro p e s m args below meth c A h hr
  refine j_aload_n h 0 dX8_work_0 rfl rfl ?_
  refine j_get h iX8 0 (mx_c0 _ _ _ σ) rfl 15 (by decide) tb3_219 rfl (v := .ref (a 6)) rfl dX8_work_1 ?_
  refine j_aload_n h 0 dX8_work_4 rfl rfl ?_
  refine j_get h iX8 0 (mx_c0 _ _ _ σ) rfl 2 (by decide) tb3_206 rfl (v := .int (σ.1 1)) rfl dX8_work_5 ?_
  refine j_iald h 6 0 (mx_g6 (σ := σ) (F := (σ.2 5)) rfl) rfl hb.1.r8 dX8_work_8 ?_
  refine j_istore_n h (lv' := [(1, .int ((σ.2 5) (σ.1 1).toNatClampNeg)), (0, .ref (a 0))]) dX8_work_9 rfl (by decide) rfl ?_
  refine j_aload_n h 1 dX8_work_10 rfl rfl ?_
  refine j_get h iX8 0 (mx_c0 _ _ _ σ) rfl 17 (by decide) tb3_221 rfl (v := .ref (a 8)) rfl dX8_work_11 ?_
  refine j_aload_n h 1 dX8_work_14 rfl rfl ?_
  refine j_get h iX8 0 (mx_c0 _ _ _ σ) rfl 2 (by decide) tb3_206 rfl (v := .int (σ.1 1)) rfl dX8_work_15 ?_
  refine j_zald h 8 1 (mx_g8 (σ := σ) (F := (σ.2 7)) rfl) rfl hb.1.r8 dX8_work_18 ?_
  refine j_if_ne h dX8_work_19 (tgt := 32) (by decide) (fun c1 => ?_) (fun c1 => ?_)
  ·
    refine j_aload_n h 1 dX8_work_32 rfl rfl ?_
    refine j_get h iX8 0 (mx_c0 _ _ _ σ) rfl 17 (by decide) tb3_221 rfl (v := .ref (a 8)) rfl dX8_work_33 ?_
    refine j_aload_n h 1 dX8_work_36 rfl rfl ?_
    refine j_get h iX8 0 (mx_c0 _ _ _ σ) rfl 2 (by decide) tb3_206 rfl (v := .int (σ.1 1)) rfl dX8_work_37 ?_
    refine j_iconst h (v := 1) dX8_work_40 (by decide) ?_
    refine j_zast h 8 1 (mx_g8 (σ := σ) (F := (σ.2 7)) rfl) rfl hb.1.r8 (w' := (mx a cI cZ (ar σ 7 (upd (σ.2 7) (σ.1 1).toNatClampNeg (vp_nar .boolean 1))))) (mx_s8 _ _ _ σ _) dX8_work_41 ?_
    refine j_aload_n h 1 dX8_work_42 rfl rfl ?_
    refine j_get h iX8 0 (mx_c0 _ _ _ (ar σ 7 (upd (σ.2 7) (σ.1 1).toNatClampNeg (vp_nar .boolean 1)))) rfl 18 (by decide) tb3_222 rfl (v := .ref (a 9)) rfl dX8_work_43 ?_
    refine j_aload_n h 1 dX8_work_46 rfl rfl ?_
    refine j_get h iX8 0 (mx_c0 _ _ _ (ar σ 7 (upd (σ.2 7) (σ.1 1).toNatClampNeg (vp_nar .boolean 1)))) rfl 2 (by decide) tb3_206 rfl (v := .int (σ.1 1)) rfl dX8_work_47 ?_
    refine j_dup2 h dX8_work_50 rfl rfl ?_
    refine j_iald h 9 0 (mx_g9 (σ := (ar σ 7 (upd (σ.2 7) (σ.1 1).toNatClampNeg (vp_nar .boolean 1)))) (F := (σ.2 16)) rfl) rfl hb.1.r8 dX8_work_51 ?_
    refine j_iconst h (v := 1) dX8_work_52 (by decide) ?_
    refine j_iadd h dX8_work_53 ?_
    refine j_iast h 9 0 (mx_g9 (σ := (ar σ 7 (upd (σ.2 7) (σ.1 1).toNatClampNeg (vp_nar .boolean 1)))) (F := (σ.2 16)) rfl) rfl hb.1.r8 (w' := (mx a cI cZ (ar (ar σ 7 (upd (σ.2 7) (σ.1 1).toNatClampNeg (vp_nar .boolean 1))) 16 (upd (σ.2 16) (σ.1 1).toNatClampNeg (((σ.2 16) (σ.1 1).toNatClampNeg) + 1))))) (mx_s9 _ _ _ (ar σ 7 (upd (σ.2 7) (σ.1 1).toNatClampNeg (vp_nar .boolean 1))) _) dX8_work_54 ?_
    refine j_aload_n h 1 dX8_work_55 rfl rfl ?_
    refine j_get h iX8 0 (mx_c0 _ _ _ (ar (ar σ 7 (upd (σ.2 7) (σ.1 1).toNatClampNeg (vp_nar .boolean 1))) 16 (upd (σ.2 16) (σ.1 1).toNatClampNeg (((σ.2 16) (σ.1 1).toNatClampNeg) + 1)))) rfl 18 (by decide) tb3_222 rfl (v := .ref (a 9)) rfl dX8_work_56 ?_
    refine j_aload_n h 1 dX8_work_59 rfl rfl ?_
    refine j_get h iX8 0 (mx_c0 _ _ _ (ar (ar σ 7 (upd (σ.2 7) (σ.1 1).toNatClampNeg (vp_nar .boolean 1))) 16 (upd (σ.2 16) (σ.1 1).toNatClampNeg (((σ.2 16) (σ.1 1).toNatClampNeg) + 1)))) rfl 2 (by decide) tb3_206 rfl (v := .int (σ.1 1)) rfl dX8_work_60 ?_
    refine j_iald h 9 0 (mx_g9 (σ := (ar (ar σ 7 (upd (σ.2 7) (σ.1 1).toNatClampNeg (vp_nar .boolean 1))) 16 (upd (σ.2 16) (σ.1 1).toNatClampNeg (((σ.2 16) (σ.1 1).toNatClampNeg) + 1)))) (F := (upd (σ.2 16) (σ.1 1).toNatClampNeg (((σ.2 16) (σ.1 1).toNatClampNeg) + 1))) rfl) rfl hb.1.r8 dX8_work_63 ?_
    refine j_eqi (v' := (((σ.2 16) (σ.1 1).toNatClampNeg) + 1)) pk_us ?_
    refine j_aload_n h 1 dX8_work_64 rfl rfl ?_
    refine j_iload_n h 0 dX8_work_65 rfl rfl ?_
    refine j_callVi h (kX8_cyclesOf l D a cI cZ (ar (ar σ 7 (upd (σ.2 7) (σ.1 1).toNatClampNeg (vp_nar .boolean 1))) 16 (upd (σ.2 16) (σ.1 1).toNatClampNeg (((σ.2 16) (σ.1 1).toNatClampNeg) + 1))) ((σ.2 5) (σ.1 1).toNatClampNeg) (m_w hv.1 hb.1.r8 h0)) tb4_166 tb4_168 tp_26 tb1_11 tb4_169 ⟨rfl, rfl⟩ (n := 1) (by decide +kernel) ⟨Nat.le_of_ble_eq_true rfl, Nat.le_of_ble_eq_true rfl⟩ (As := [.int ((σ.2 5) (σ.1 1).toNatClampNeg)]) rfl (ci := 8) (q0 := 0) rfl (mx_c0 _ _ _ (ar (ar σ 7 (upd (σ.2 7) (σ.1 1).toNatClampNeg (vp_nar .boolean 1))) 16 (upd (σ.2 16) (σ.1 1).toNatClampNeg (((σ.2 16) (σ.1 1).toNatClampNeg) + 1)))) (st := [.int (((σ.2 16) (σ.1 1).toNatClampNeg) + 1)]) rfl (Nat.le_of_ble_eq_true rfl) dX8_work_66 ⟨Nat.zero_le _, Nat.zero_le _⟩ ?_
    generalize hq2 : (fX8_cyclesOf (ar (ar σ 7 (upd (σ.2 7) (σ.1 1).toNatClampNeg (vp_nar .boolean 1))) 16 (upd (σ.2 16) (σ.1 1).toNatClampNeg (((σ.2 16) (σ.1 1).toNatClampNeg) + 1))) ((σ.2 5) (σ.1 1).toNatClampNeg)) = q2
    refine j_icmp_ge h dX8_work_69 (tgt := 76) (by decide) (fun c3 => ?_) (fun c3 => ?_)
    ·
      refine j_iconst h (v := 4) dX8_work_76 (by decide) ?_
      subst hq2
      have E : fX8_work σ = (4, (ar (ar σ 7 (upd (σ.2 7) (σ.1 1).toNatClampNeg (vp_nar .boolean 1))) 16 (upd (σ.2 16) (σ.1 1).toNatClampNeg (((σ.2 16) (σ.1 1).toNatClampNeg) + 1)))) := j_ig c1 (j_ip c3 rfl)
      exact j_ireturn h hr (congrArg Prod.fst E).symm (congrArg (fun z => mx a cI cZ z.2) E).symm dX8_work_77
    ·
      refine j_iconst h (v := 3) dX8_work_72 (by decide) ?_
      refine j_goto h dX8_work_73 (tgt := 77) (by decide) ?_
      subst hq2
      have E : fX8_work σ = (3, (ar (ar σ 7 (upd (σ.2 7) (σ.1 1).toNatClampNeg (vp_nar .boolean 1))) 16 (upd (σ.2 16) (σ.1 1).toNatClampNeg (((σ.2 16) (σ.1 1).toNatClampNeg) + 1)))) := j_ig c1 (j_ig c3 rfl)
      exact j_ireturn h hr (congrArg Prod.fst E).symm (congrArg (fun z => mx a cI cZ z.2) E).symm dX8_work_77
  ·
    refine j_aload_n h 1 dX8_work_22 rfl rfl ?_
    refine j_iload_n h 0 dX8_work_23 rfl rfl ?_
    refine j_callVi h (kX8_isReady l D a cI cZ σ ((σ.2 5) (σ.1 1).toNatClampNeg) (m_w hv.1 hb.1.r8 h0) hb.1 hv.1) tb4_150 tb4_152 tp_22 tb1_11 tb4_153 ⟨rfl, rfl⟩ (n := 1) (by decide +kernel) ⟨Nat.le_of_ble_eq_true rfl, Nat.le_of_ble_eq_true rfl⟩ (As := [.int ((σ.2 5) (σ.1 1).toNatClampNeg)]) rfl (ci := 8) (q0 := 0) rfl (mx_c0 _ _ _ σ) (st := []) rfl (Nat.le_of_ble_eq_true rfl) dX8_work_24 ⟨Nat.zero_le _, Nat.zero_le _⟩ ?_
    generalize hq4 : (fX8_isReady σ ((σ.2 5) (σ.1 1).toNatClampNeg)) = q4
    refine j_if_ne h dX8_work_27 (tgt := 32) (by decide) (fun c5 => ?_) (fun c5 => ?_)
    ·
      refine j_aload_n h 1 dX8_work_32 rfl rfl ?_
      refine j_get h iX8 0 (mx_c0 _ _ _ σ) rfl 17 (by decide) tb3_221 rfl (v := .ref (a 8)) rfl dX8_work_33 ?_
      refine j_aload_n h 1 dX8_work_36 rfl rfl ?_
      refine j_get h iX8 0 (mx_c0 _ _ _ σ) rfl 2 (by decide) tb3_206 rfl (v := .int (σ.1 1)) rfl dX8_work_37 ?_
      refine j_iconst h (v := 1) dX8_work_40 (by decide) ?_
      refine j_zast h 8 1 (mx_g8 (σ := σ) (F := (σ.2 7)) rfl) rfl hb.1.r8 (w' := (mx a cI cZ (ar σ 7 (upd (σ.2 7) (σ.1 1).toNatClampNeg (vp_nar .boolean 1))))) (mx_s8 _ _ _ σ _) dX8_work_41 ?_
      refine j_aload_n h 1 dX8_work_42 rfl rfl ?_
      refine j_get h iX8 0 (mx_c0 _ _ _ (ar σ 7 (upd (σ.2 7) (σ.1 1).toNatClampNeg (vp_nar .boolean 1)))) rfl 18 (by decide) tb3_222 rfl (v := .ref (a 9)) rfl dX8_work_43 ?_
      refine j_aload_n h 1 dX8_work_46 rfl rfl ?_
      refine j_get h iX8 0 (mx_c0 _ _ _ (ar σ 7 (upd (σ.2 7) (σ.1 1).toNatClampNeg (vp_nar .boolean 1)))) rfl 2 (by decide) tb3_206 rfl (v := .int (σ.1 1)) rfl dX8_work_47 ?_
      refine j_dup2 h dX8_work_50 rfl rfl ?_
      refine j_iald h 9 0 (mx_g9 (σ := (ar σ 7 (upd (σ.2 7) (σ.1 1).toNatClampNeg (vp_nar .boolean 1)))) (F := (σ.2 16)) rfl) rfl hb.1.r8 dX8_work_51 ?_
      refine j_iconst h (v := 1) dX8_work_52 (by decide) ?_
      refine j_iadd h dX8_work_53 ?_
      refine j_iast h 9 0 (mx_g9 (σ := (ar σ 7 (upd (σ.2 7) (σ.1 1).toNatClampNeg (vp_nar .boolean 1)))) (F := (σ.2 16)) rfl) rfl hb.1.r8 (w' := (mx a cI cZ (ar (ar σ 7 (upd (σ.2 7) (σ.1 1).toNatClampNeg (vp_nar .boolean 1))) 16 (upd (σ.2 16) (σ.1 1).toNatClampNeg (((σ.2 16) (σ.1 1).toNatClampNeg) + 1))))) (mx_s9 _ _ _ (ar σ 7 (upd (σ.2 7) (σ.1 1).toNatClampNeg (vp_nar .boolean 1))) _) dX8_work_54 ?_
      refine j_aload_n h 1 dX8_work_55 rfl rfl ?_
      refine j_get h iX8 0 (mx_c0 _ _ _ (ar (ar σ 7 (upd (σ.2 7) (σ.1 1).toNatClampNeg (vp_nar .boolean 1))) 16 (upd (σ.2 16) (σ.1 1).toNatClampNeg (((σ.2 16) (σ.1 1).toNatClampNeg) + 1)))) rfl 18 (by decide) tb3_222 rfl (v := .ref (a 9)) rfl dX8_work_56 ?_
      refine j_aload_n h 1 dX8_work_59 rfl rfl ?_
      refine j_get h iX8 0 (mx_c0 _ _ _ (ar (ar σ 7 (upd (σ.2 7) (σ.1 1).toNatClampNeg (vp_nar .boolean 1))) 16 (upd (σ.2 16) (σ.1 1).toNatClampNeg (((σ.2 16) (σ.1 1).toNatClampNeg) + 1)))) rfl 2 (by decide) tb3_206 rfl (v := .int (σ.1 1)) rfl dX8_work_60 ?_
      refine j_iald h 9 0 (mx_g9 (σ := (ar (ar σ 7 (upd (σ.2 7) (σ.1 1).toNatClampNeg (vp_nar .boolean 1))) 16 (upd (σ.2 16) (σ.1 1).toNatClampNeg (((σ.2 16) (σ.1 1).toNatClampNeg) + 1)))) (F := (upd (σ.2 16) (σ.1 1).toNatClampNeg (((σ.2 16) (σ.1 1).toNatClampNeg) + 1))) rfl) rfl hb.1.r8 dX8_work_63 ?_
      refine j_eqi (v' := (((σ.2 16) (σ.1 1).toNatClampNeg) + 1)) pk_us ?_
      refine j_aload_n h 1 dX8_work_64 rfl rfl ?_
      refine j_iload_n h 0 dX8_work_65 rfl rfl ?_
      refine j_callVi h (kX8_cyclesOf l D a cI cZ (ar (ar σ 7 (upd (σ.2 7) (σ.1 1).toNatClampNeg (vp_nar .boolean 1))) 16 (upd (σ.2 16) (σ.1 1).toNatClampNeg (((σ.2 16) (σ.1 1).toNatClampNeg) + 1))) ((σ.2 5) (σ.1 1).toNatClampNeg) (m_w hv.1 hb.1.r8 h0)) tb4_166 tb4_168 tp_26 tb1_11 tb4_169 ⟨rfl, rfl⟩ (n := 1) (by decide +kernel) ⟨Nat.le_of_ble_eq_true rfl, Nat.le_of_ble_eq_true rfl⟩ (As := [.int ((σ.2 5) (σ.1 1).toNatClampNeg)]) rfl (ci := 8) (q0 := 0) rfl (mx_c0 _ _ _ (ar (ar σ 7 (upd (σ.2 7) (σ.1 1).toNatClampNeg (vp_nar .boolean 1))) 16 (upd (σ.2 16) (σ.1 1).toNatClampNeg (((σ.2 16) (σ.1 1).toNatClampNeg) + 1)))) (st := [.int (((σ.2 16) (σ.1 1).toNatClampNeg) + 1)]) rfl (Nat.le_of_ble_eq_true rfl) dX8_work_66 ⟨Nat.zero_le _, Nat.zero_le _⟩ ?_
      generalize hq6 : (fX8_cyclesOf (ar (ar σ 7 (upd (σ.2 7) (σ.1 1).toNatClampNeg (vp_nar .boolean 1))) 16 (upd (σ.2 16) (σ.1 1).toNatClampNeg (((σ.2 16) (σ.1 1).toNatClampNeg) + 1))) ((σ.2 5) (σ.1 1).toNatClampNeg)) = q6
      refine j_icmp_ge h dX8_work_69 (tgt := 76) (by decide) (fun c7 => ?_) (fun c7 => ?_)
      ·
        refine j_iconst h (v := 4) dX8_work_76 (by decide) ?_
        subst hq4 hq6
        have E : fX8_work σ = (4, (ar (ar σ 7 (upd (σ.2 7) (σ.1 1).toNatClampNeg (vp_nar .boolean 1))) 16 (upd (σ.2 16) (σ.1 1).toNatClampNeg (((σ.2 16) (σ.1 1).toNatClampNeg) + 1)))) := j_ip c1 (j_ig c5 (j_ip c7 rfl))
        exact j_ireturn h hr (congrArg Prod.fst E).symm (congrArg (fun z => mx a cI cZ z.2) E).symm dX8_work_77
      ·
        refine j_iconst h (v := 3) dX8_work_72 (by decide) ?_
        refine j_goto h dX8_work_73 (tgt := 77) (by decide) ?_
        subst hq4 hq6
        have E : fX8_work σ = (3, (ar (ar σ 7 (upd (σ.2 7) (σ.1 1).toNatClampNeg (vp_nar .boolean 1))) 16 (upd (σ.2 16) (σ.1 1).toNatClampNeg (((σ.2 16) (σ.1 1).toNatClampNeg) + 1)))) := j_ip c1 (j_ig c5 (j_ig c7 rfl))
        exact j_ireturn h hr (congrArg Prod.fst E).symm (congrArg (fun z => mx a cI cZ z.2) E).symm dX8_work_77
    ·
      refine j_iconst h (v := 2) dX8_work_30 (by decide) ?_
      subst hq4
      have E : fX8_work σ = (2, σ) := j_ip c1 (j_ip c5 rfl)
      exact j_ireturn h hr (congrArg Prod.fst E).symm (congrArg (fun z => mx a cI cZ z.2) E).symm dX8_work_31
def rmX8_mayGo : Room := { frames := 1, cells := 0, slots := 0, locals := 21 }
set_option maxRecDepth 100000 in
set_option maxHeartbeats 4000000 in
theorem kX8_mayGo (l : Launch) (D : va_G) (a : Nat → Nat) (cI cZ : ClassId) (σ : St) (x1 : Int32) (h1 : vp_in x1 8) (h2 : vp_in (x1 + 1) 8) (hw : mW (σ.2 5)) : Ci l yX8_mayGo cX8_mayGo 2 (some .boolean) TB rmX8_mayGo D vwCl [(cI, .int), (cZ, .boolean)] [.ref (a 0), .int x1] (mx a cI cZ σ) (mx a cI cZ σ) (fX8_mayGo σ x1) := by
  refine Ci_of (cc := cX8_mayGo) (maxL := 2) (ret := (some .boolean)) (by decide +kernel) TBg (Nat.le_of_ble_eq_true rfl) ?_
  intro p e s m args below meth c A h hr
  refine j_aload_n h 0 dX8_mayGo_0 rfl rfl ?_
  refine j_get h iX8 0 (mx_c0 _ _ _ σ) rfl 15 (by decide) tb3_219 rfl (v := .ref (a 6)) rfl dX8_mayGo_1 ?_
  refine j_iload_n h 1 dX8_mayGo_4 rfl rfl ?_
  refine j_iald h 6 0 (mx_g6 (σ := σ) (F := (σ.2 5)) rfl) rfl h1 dX8_mayGo_5 ?_
  refine j_if_lt h dX8_mayGo_6 (tgt := 20) (by decide) (fun c1 => ?_) (fun c1 => ?_)
  ·
    refine j_iconst h (v := 0) dX8_mayGo_20 (by decide) ?_
    have E : fX8_mayGo σ x1 = 0 := j_ip c1 rfl
    exact j_zreturn h hr (by decide) E.symm rfl dX8_mayGo_21
  ·
    refine j_aload_n h 0 dX8_mayGo_9 rfl rfl ?_
    refine j_get h iX8 0 (mx_c0 _ _ _ σ) rfl 15 (by decide) tb3_219 rfl (v := .ref (a 6)) rfl dX8_mayGo_10 ?_
    refine j_iload_n h 1 dX8_mayGo_13 rfl rfl ?_
    refine j_iconst h (v := 1) dX8_mayGo_14 (by decide) ?_
    refine j_iadd h dX8_mayGo_15 ?_
    refine j_iald h 6 0 (mx_g6 (σ := σ) (F := (σ.2 5)) rfl) rfl h2 dX8_mayGo_16 ?_
    refine j_if_lt h dX8_mayGo_17 (tgt := 22) (by decide) (fun c2 => ?_) (fun c2 => ?_)
    ·
      refine j_iload_n h 1 dX8_mayGo_22 rfl rfl ?_
      refine j_aload_n h 0 dX8_mayGo_23 rfl rfl ?_
      refine j_get h iX8 0 (mx_c0 _ _ _ σ) rfl 2 (by decide) tb3_206 rfl (v := .int (σ.1 1)) rfl dX8_mayGo_24 ?_
      refine j_icmp_ne h dX8_mayGo_27 (tgt := 58) (by decide) (fun c3 => ?_) (fun c3 => ?_)
      ·
        refine j_iconst h (v := 1) dX8_mayGo_58 (by decide) ?_
        refine j_goto h dX8_mayGo_59 (tgt := 63) (by decide) ?_
        have E : fX8_mayGo σ x1 = 1 := j_ig c1 (j_ip c2 (j_ig c3 rfl))
        exact j_zreturn h hr (by decide) E.symm rfl dX8_mayGo_63
      ·
        refine j_aload_n h 0 dX8_mayGo_30 rfl rfl ?_
        refine j_get h iX8 0 (mx_c0 _ _ _ σ) rfl 17 (by decide) tb3_221 rfl (v := .ref (a 8)) rfl dX8_mayGo_31 ?_
        refine j_iload_n h 1 dX8_mayGo_34 rfl rfl ?_
        refine j_zald h 8 1 (mx_g8 (σ := σ) (F := (σ.2 7)) rfl) rfl h1 dX8_mayGo_35 ?_
        refine j_if_eq h dX8_mayGo_36 (tgt := 62) (by decide) (fun c4 => ?_) (fun c4 => ?_)
        ·
          refine j_iconst h (v := 0) dX8_mayGo_62 (by decide) ?_
          have E : fX8_mayGo σ x1 = 0 := j_ig c1 (j_ip c2 (j_ip c3 (j_ip c4 rfl)))
          exact j_zreturn h hr (by decide) E.symm rfl dX8_mayGo_63
        ·
          refine j_aload_n h 0 dX8_mayGo_39 rfl rfl ?_
          refine j_get h iX8 0 (mx_c0 _ _ _ σ) rfl 18 (by decide) tb3_222 rfl (v := .ref (a 9)) rfl dX8_mayGo_40 ?_
          refine j_iload_n h 1 dX8_mayGo_43 rfl rfl ?_
          refine j_iald h 9 0 (mx_g9 (σ := σ) (F := (σ.2 16)) rfl) rfl h1 dX8_mayGo_44 ?_
          refine j_aload_n h 0 dX8_mayGo_45 rfl rfl ?_
          refine j_aload_n h 0 dX8_mayGo_46 rfl rfl ?_
          refine j_get h iX8 0 (mx_c0 _ _ _ σ) rfl 15 (by decide) tb3_219 rfl (v := .ref (a 6)) rfl dX8_mayGo_47 ?_
          refine j_iload_n h 1 dX8_mayGo_50 rfl rfl ?_
          refine j_iald h 6 0 (mx_g6 (σ := σ) (F := (σ.2 5)) rfl) rfl h1 dX8_mayGo_51 ?_
          refine j_callVi h (kX8_cyclesOf l D a cI cZ σ ((σ.2 5) x1.toNatClampNeg) (m_w hw h1 (j_toGe c1))) tb4_166 tb4_168 tp_26 tb1_11 tb4_169 ⟨rfl, rfl⟩ (n := 1) (by decide +kernel) ⟨Nat.le_of_ble_eq_true rfl, Nat.le_of_ble_eq_true rfl⟩ (As := [.int ((σ.2 5) x1.toNatClampNeg)]) rfl (ci := 8) (q0 := 0) rfl (mx_c0 _ _ _ σ) (st := [.int ((σ.2 16) x1.toNatClampNeg)]) rfl (Nat.le_of_ble_eq_true rfl) dX8_mayGo_52 ⟨Nat.zero_le _, Nat.zero_le _⟩ ?_
          generalize hq5 : (fX8_cyclesOf σ ((σ.2 5) x1.toNatClampNeg)) = q5
          refine j_icmp_lt h dX8_mayGo_55 (tgt := 62) (by decide) (fun c6 => ?_) (fun c6 => ?_)
          ·
            refine j_iconst h (v := 0) dX8_mayGo_62 (by decide) ?_
            subst hq5
            have E : fX8_mayGo σ x1 = 0 := j_ig c1 (j_ip c2 (j_ip c3 (j_ig c4 (j_ip c6 rfl))))
            exact j_zreturn h hr (by decide) E.symm rfl dX8_mayGo_63
          ·
            refine j_iconst h (v := 1) dX8_mayGo_58 (by decide) ?_
            refine j_goto h dX8_mayGo_59 (tgt := 63) (by decide) ?_
            subst hq5
            have E : fX8_mayGo σ x1 = 1 := j_ig c1 (j_ip c2 (j_ip c3 (j_ig c4 (j_ig c6 rfl))))
            exact j_zreturn h hr (by decide) E.symm rfl dX8_mayGo_63
    ·
      refine j_iconst h (v := 0) dX8_mayGo_20 (by decide) ?_
      have E : fX8_mayGo σ x1 = 0 := j_ig c1 (j_ig c2 rfl)
      exact j_zreturn h hr (by decide) E.symm rfl dX8_mayGo_21
def rmX8_goOn : Room := { frames := 4, cells := 0, slots := 0, locals := 85 }
set_option maxRecDepth 100000 in
set_option maxHeartbeats 4000000 in
theorem kX8_goOn (l : Launch) (D : va_G) (a : Nat → Nat) (cI cZ : ClassId) (σ : St) {K : Nat} (hb : mB σ) (hv : mV K σ) : Ci l yX8_goOn cX8_goOn 5 (some .int) TB rmX8_goOn D vwCl [(cI, .int), (cZ, .boolean)] [.ref (a 0)] (mx a cI cZ σ) (mx a cI cZ (fX8_goOn σ).2) (fX8_goOn σ).1 := by
  refine Ci_of (cc := cX8_goOn) (maxL := 5) (ret := (some .int)) (by decide +kernel) TBg (Nat.le_of_ble_eq_true rfl) ?_
  intro p e s m args below meth c A h hr
  have loop : ∀ (n : Nat) (σ : St) (x1 x2 x3 : Int32), mB σ → mV K σ → -1 ≤ x3.toInt → x3.toInt ≤ 6 → x3.toInt + 1 < n → J p l e rmX8_goOn s m args below meth c D vwCl A 5 0 0 (MQ below (jEi D vwCl [(cI, .int), (cZ, .boolean)] A (mx a cI cZ (gfX8_goOn n σ x1 x2 x3).2) (gfX8_goOn n σ x1 x2 x3).1) args s 0 0 A) (mx a cI cZ σ) 27 [(1, .int x1), (2, .int x2), (3, .int x3), (0, .ref (a 0))] [] := by
    intro n
    induction n with
    | zero => intro σ x1 x2 x3 hb hv h3 h4 h5; exact absurd h5 (by omega)
    | succ n ih =>
      intro σ x1 x2 x3 hb hv h3 h4 h5
      refine j_iload_n h 2 dX8_goOn_27 rfl rfl ?_
      refine j_if_lt h dX8_goOn_28 (tgt := 133) (by decide) (fun c1001 => ?_) (fun c1001 => ?_)
      ·
        refine j_iload_n h 0 dX8_goOn_133 rfl rfl ?_
        have E : gfX8_goOn (n + 1) σ x1 x2 x3 = (x1, σ) := j_ip c1001 rfl
        exact j_ireturn h hr (congrArg Prod.fst E).symm (congrArg (fun z => mx a cI cZ z.2) E).symm dX8_goOn_134
      ·
        refine j_iload_n h 2 dX8_goOn_31 rfl rfl ?_
        refine j_aload_n h 3 dX8_goOn_32 rfl rfl ?_
        refine j_get h iX8 0 (mx_c0 _ _ _ σ) rfl 2 (by decide) tb3_206 rfl (v := .int (σ.1 1)) rfl dX8_goOn_33 ?_
        refine j_icmp_ne h dX8_goOn_36 (tgt := 57) (by decide) (fun c1002 => ?_) (fun c1002 => ?_)
        ·
          refine j_aload_n h 3 dX8_goOn_57 rfl rfl ?_
          refine j_iload_n h 2 dX8_goOn_58 rfl rfl ?_
          refine j_callVi h (kX8_mayGo l D a cI cZ σ x3 (m_s (j_toGe c1001) (by omega)) (m_s1 (j_toGe c1001) h4) (mV_w (K := K) (σ := σ) hv)) tb4_170 tb4_172 tp_27 tb1_11 tb4_173 ⟨rfl, rfl⟩ (n := 1) (by decide +kernel) ⟨Nat.le_of_ble_eq_true rfl, Nat.le_of_ble_eq_true rfl⟩ (As := [.int x3]) rfl (ci := 8) (q0 := 0) rfl (mx_c0 _ _ _ σ) (st := []) rfl (Nat.le_of_ble_eq_true rfl) dX8_goOn_59 ⟨Nat.zero_le _, Nat.zero_le _⟩ ?_
          generalize hq1003 : (fX8_mayGo σ x3) = q1003
          refine j_if_eq h dX8_goOn_62 (tgt := 127) (by decide) (fun c1004 => ?_) (fun c1004 => ?_)
          ·
            refine j_iinc h 2 (v := (x3 + (-1))) (lv' := [(3, .int (x3 + (-1))), (1, .int x1), (2, .int x2), (0, .ref (a 0))]) dX8_goOn_127 rfl (rfl) (by decide) rfl ?_
            refine j_goto h dX8_goOn_130 (tgt := 27) (by decide) ?_
            have hi := j_dec c1001
            have hl := j_toGe c1001
            subst hq1003
            have E : gfX8_goOn (n + 1) σ x1 x2 x3 = gfX8_goOn n σ x1 x2 (x3 + (-1)) := j_ig c1001 (j_ig c1002 (j_ip c1004 rfl))
            rw [E]
            refine j_lv [1, 2, 0, 3] rfl ?_
            exact ih σ x1 x2 (x3 + (-1)) hb hv (by omega) (by omega) (by omega)
          ·
            refine j_iload_n h 2 dX8_goOn_65 rfl rfl ?_
            refine j_aload_n h 3 dX8_goOn_66 rfl rfl ?_
            refine j_get h iX8 0 (mx_c0 _ _ _ σ) rfl 5 (by decide) tb3_209 rfl (v := .int (σ.1 4)) rfl dX8_goOn_67 ?_
            refine j_icmp_ne h dX8_goOn_70 (tgt := 101) (by decide) (fun c1005 => ?_) (fun c1005 => ?_)
            ·
              refine j_iconst h (v := 0) dX8_goOn_101 (by decide) ?_
              refine j_istore h (lv' := [(4, .int 0), (1, .int x1), (2, .int x2), (3, .int x3), (0, .ref (a 0))]) dX8_goOn_102 (by decide) rfl ?_
              refine j_aload_n h 4 dX8_goOn_104 rfl rfl ?_
              refine j_iload_n h 3 dX8_goOn_105 rfl rfl ?_
              refine j_callVv h (kX8_moveOn l D a cI cZ σ x3 (m_s (j_toGe c1001) (by omega)) (m_s1 (j_toGe c1001) h4)) tb4_174 tb4_176 tp_28 tb1_11 tb4_177 ⟨rfl, rfl⟩ (n := 1) (by decide +kernel) ⟨Nat.le_of_ble_eq_true rfl, Nat.le_of_ble_eq_true rfl⟩ (As := [.int x3]) rfl (ci := 8) (q0 := 0) rfl (mx_c0 _ _ _ σ) (st := []) rfl (Nat.le_of_ble_eq_true rfl) dX8_goOn_106 ⟨Nat.zero_le _, Nat.zero_le _⟩ ?_
              generalize hq1006 : (fX8_moveOn σ x3) = q1006
              refine j_iload h 0 dX8_goOn_109 rfl ?_
              refine j_if_eq h dX8_goOn_111 (tgt := 127) (by decide) (fun c1007 => ?_) (fun c1007 => ?_)
              ·
                refine j_iinc h 3 (v := (x3 + (-1))) (lv' := [(3, .int (x3 + (-1))), (4, .int 0), (1, .int x1), (2, .int x2), (0, .ref (a 0))]) dX8_goOn_127 rfl (rfl) (by decide) rfl ?_
                refine j_goto h dX8_goOn_130 (tgt := 27) (by decide) ?_
                have hi := j_dec c1001
                have hl := j_toGe c1001
                subst hq1003 hq1006
                have E : gfX8_goOn (n + 1) σ x1 x2 x3 = gfX8_goOn n (fX8_moveOn σ x3) x1 x2 (x3 + (-1)) := j_ig c1001 (j_ig c1002 (j_ig c1004 (j_ig c1005 rfl)))
                rw [E]
                refine j_lv [2, 3, 0, 4] rfl ?_
                exact ih (fX8_moveOn σ x3) x1 x2 (x3 + (-1)) (mB.fq hb (fr_fX8_moveOn _ _)) (mv_fX8_moveOn hb hv (m_s (j_toGe c1001) (by omega))) (by omega) (by omega) (by omega)
              ·
                exact absurd c1007 (by decide)
            ·
              refine j_aload_n h 3 dX8_goOn_73 rfl rfl ?_
              refine j_get h iX8 0 (mx_c0 _ _ _ σ) rfl 16 (by decide) tb3_220 rfl (v := .ref (a 7)) rfl dX8_goOn_74 ?_
              refine j_iload_n h 2 dX8_goOn_77 rfl rfl ?_
              refine j_zald h 7 1 (mx_g7 (σ := σ) (F := (σ.2 6)) rfl) rfl (m_s (j_toGe c1001) (by omega)) dX8_goOn_78 ?_
              refine j_if_eq h dX8_goOn_79 (tgt := 101) (by decide) (fun c1008 => ?_) (fun c1008 => ?_)
              ·
                refine j_iconst h (v := 0) dX8_goOn_101 (by decide) ?_
                refine j_istore h (lv' := [(4, .int 0), (1, .int x1), (2, .int x2), (3, .int x3), (0, .ref (a 0))]) dX8_goOn_102 (by decide) rfl ?_
                refine j_aload_n h 4 dX8_goOn_104 rfl rfl ?_
                refine j_iload_n h 3 dX8_goOn_105 rfl rfl ?_
                refine j_callVv h (kX8_moveOn l D a cI cZ σ x3 (m_s (j_toGe c1001) (by omega)) (m_s1 (j_toGe c1001) h4)) tb4_174 tb4_176 tp_28 tb1_11 tb4_177 ⟨rfl, rfl⟩ (n := 1) (by decide +kernel) ⟨Nat.le_of_ble_eq_true rfl, Nat.le_of_ble_eq_true rfl⟩ (As := [.int x3]) rfl (ci := 8) (q0 := 0) rfl (mx_c0 _ _ _ σ) (st := []) rfl (Nat.le_of_ble_eq_true rfl) dX8_goOn_106 ⟨Nat.zero_le _, Nat.zero_le _⟩ ?_
                generalize hq1009 : (fX8_moveOn σ x3) = q1009
                refine j_iload h 0 dX8_goOn_109 rfl ?_
                refine j_if_eq h dX8_goOn_111 (tgt := 127) (by decide) (fun c1010 => ?_) (fun c1010 => ?_)
                ·
                  refine j_iinc h 3 (v := (x3 + (-1))) (lv' := [(3, .int (x3 + (-1))), (4, .int 0), (1, .int x1), (2, .int x2), (0, .ref (a 0))]) dX8_goOn_127 rfl (rfl) (by decide) rfl ?_
                  refine j_goto h dX8_goOn_130 (tgt := 27) (by decide) ?_
                  have hi := j_dec c1001
                  have hl := j_toGe c1001
                  subst hq1003 hq1009
                  have E : gfX8_goOn (n + 1) σ x1 x2 x3 = gfX8_goOn n (fX8_moveOn σ x3) x1 x2 (x3 + (-1)) := j_ig c1001 (j_ig c1002 (j_ig c1004 (j_ip c1005 (j_ip c1008 rfl))))
                  rw [E]
                  refine j_lv [2, 3, 0, 4] rfl ?_
                  exact ih (fX8_moveOn σ x3) x1 x2 (x3 + (-1)) (mB.fq hb (fr_fX8_moveOn _ _)) (mv_fX8_moveOn hb hv (m_s (j_toGe c1001) (by omega))) (by omega) (by omega) (by omega)
                ·
                  exact absurd c1010 (by decide)
              ·
                refine j_aload_n h 3 dX8_goOn_82 rfl rfl ?_
                refine j_get h iX8 0 (mx_c0 _ _ _ σ) rfl 10 (by decide) tb3_214 rfl (v := .ref (a 1)) rfl dX8_goOn_83 ?_
                refine j_aload_n h 3 dX8_goOn_86 rfl rfl ?_
                refine j_get h iX8 0 (mx_c0 _ _ _ σ) rfl 15 (by decide) tb3_219 rfl (v := .ref (a 6)) rfl dX8_goOn_87 ?_
                refine j_iload_n h 2 dX8_goOn_90 rfl rfl ?_
                refine j_iald h 6 0 (mx_g6 (σ := σ) (F := (σ.2 5)) rfl) rfl (m_s (j_toGe c1001) (by omega)) dX8_goOn_91 ?_
                refine j_iald h 1 0 (mx_g1 (σ := σ) (F := (σ.2 0)) rfl) rfl (m_w (mV_w (K := K) (σ := σ) hv) (m_s (j_toGe c1001) (by omega)) (m_may (by rw [hq1003]; exact c1004))) dX8_goOn_92 ?_
                refine j_iconst h (v := 4) dX8_goOn_93 (by decide) ?_
                refine j_icmp_ne h dX8_goOn_94 (tgt := 101) (by decide) (fun c1011 => ?_) (fun c1011 => ?_)
                ·
                  refine j_iconst h (v := 0) dX8_goOn_101 (by decide) ?_
                  refine j_istore h (lv' := [(4, .int 0), (1, .int x1), (2, .int x2), (3, .int x3), (0, .ref (a 0))]) dX8_goOn_102 (by decide) rfl ?_
                  refine j_aload_n h 4 dX8_goOn_104 rfl rfl ?_
                  refine j_iload_n h 3 dX8_goOn_105 rfl rfl ?_
                  refine j_callVv h (kX8_moveOn l D a cI cZ σ x3 (m_s (j_toGe c1001) (by omega)) (m_s1 (j_toGe c1001) h4)) tb4_174 tb4_176 tp_28 tb1_11 tb4_177 ⟨rfl, rfl⟩ (n := 1) (by decide +kernel) ⟨Nat.le_of_ble_eq_true rfl, Nat.le_of_ble_eq_true rfl⟩ (As := [.int x3]) rfl (ci := 8) (q0 := 0) rfl (mx_c0 _ _ _ σ) (st := []) rfl (Nat.le_of_ble_eq_true rfl) dX8_goOn_106 ⟨Nat.zero_le _, Nat.zero_le _⟩ ?_
                  generalize hq1012 : (fX8_moveOn σ x3) = q1012
                  refine j_iload h 0 dX8_goOn_109 rfl ?_
                  refine j_if_eq h dX8_goOn_111 (tgt := 127) (by decide) (fun c1013 => ?_) (fun c1013 => ?_)
                  ·
                    refine j_iinc h 3 (v := (x3 + (-1))) (lv' := [(3, .int (x3 + (-1))), (4, .int 0), (1, .int x1), (2, .int x2), (0, .ref (a 0))]) dX8_goOn_127 rfl (rfl) (by decide) rfl ?_
                    refine j_goto h dX8_goOn_130 (tgt := 27) (by decide) ?_
                    have hi := j_dec c1001
                    have hl := j_toGe c1001
                    subst hq1003 hq1012
                    have E : gfX8_goOn (n + 1) σ x1 x2 x3 = gfX8_goOn n (fX8_moveOn σ x3) x1 x2 (x3 + (-1)) := j_ig c1001 (j_ig c1002 (j_ig c1004 (j_ip c1005 (j_ig c1008 (j_ig c1011 rfl)))))
                    rw [E]
                    refine j_lv [2, 3, 0, 4] rfl ?_
                    exact ih (fX8_moveOn σ x3) x1 x2 (x3 + (-1)) (mB.fq hb (fr_fX8_moveOn _ _)) (mv_fX8_moveOn hb hv (m_s (j_toGe c1001) (by omega))) (by omega) (by omega) (by omega)
                  ·
                    exact absurd c1013 (by decide)
                ·
                  refine j_iconst h (v := 1) dX8_goOn_97 (by decide) ?_
                  refine j_goto h dX8_goOn_98 (tgt := 102) (by decide) ?_
                  refine j_istore h (lv' := [(4, .int 1), (1, .int x1), (2, .int x2), (3, .int x3), (0, .ref (a 0))]) dX8_goOn_102 (by decide) rfl ?_
                  refine j_aload_n h 4 dX8_goOn_104 rfl rfl ?_
                  refine j_iload_n h 3 dX8_goOn_105 rfl rfl ?_
                  refine j_callVv h (kX8_moveOn l D a cI cZ σ x3 (m_s (j_toGe c1001) (by omega)) (m_s1 (j_toGe c1001) h4)) tb4_174 tb4_176 tp_28 tb1_11 tb4_177 ⟨rfl, rfl⟩ (n := 1) (by decide +kernel) ⟨Nat.le_of_ble_eq_true rfl, Nat.le_of_ble_eq_true rfl⟩ (As := [.int x3]) rfl (ci := 8) (q0 := 0) rfl (mx_c0 _ _ _ σ) (st := []) rfl (Nat.le_of_ble_eq_true rfl) dX8_goOn_106 ⟨Nat.zero_le _, Nat.zero_le _⟩ ?_
                  generalize hq1014 : (fX8_moveOn σ x3) = q1014
                  refine j_iload h 0 dX8_goOn_109 rfl ?_
                  refine j_if_eq h dX8_goOn_111 (tgt := 127) (by decide) (fun c1015 => ?_) (fun c1015 => ?_)
                  ·
                    exact absurd c1015 (by decide)
                  ·
                    refine j_aload_n h 4 dX8_goOn_114 rfl rfl ?_
                    refine j_iload_n h 3 dX8_goOn_115 rfl rfl ?_
                    refine j_aload_n h 4 dX8_goOn_116 rfl rfl ?_
                    refine j_get h iX8 0 (mx_c0 _ _ _ q1014) rfl 21 (by decide) tb3_225 rfl (v := .ref (a 12)) rfl dX8_goOn_117 ?_
                    refine j_iload_n h 3 dX8_goOn_120 rfl rfl ?_
                    refine j_iconst h (v := 1) dX8_goOn_121 (by decide) ?_
                    refine j_iadd h dX8_goOn_122 ?_
                    refine j_iald h 12 0 (mx_g12 (σ := q1014) (F := (q1014.2 19)) rfl) rfl (m_s1 (j_toGe c1001) h4) dX8_goOn_123 ?_
                    refine j_callVv h (kX8_know l D a cI cZ q1014 x3 ((q1014.2 19) (x3 + 1).toNatClampNeg) (by omega) (mB.w0 (by rw [← hq1014]; exact (mB.fq hb (fr_fX8_moveOn _ _))))) tb4_138 tb4_140 tp_19 tb1_11 tb4_141 ⟨rfl, rfl⟩ (n := 2) (by decide +kernel) ⟨Nat.le_of_ble_eq_true rfl, Nat.le_of_ble_eq_true rfl⟩ (As := [.int x3, .int ((q1014.2 19) (x3 + 1).toNatClampNeg)]) rfl (ci := 8) (q0 := 0) rfl (mx_c0 _ _ _ q1014) (st := []) rfl (Nat.le_of_ble_eq_true rfl) dX8_goOn_124 ⟨Nat.zero_le _, Nat.zero_le _⟩ ?_
                    generalize hq1016 : (fX8_know q1014 x3 ((q1014.2 19) (x3 + 1).toNatClampNeg)) = q1016
                    refine j_iinc h 3 (v := (x3 + (-1))) (lv' := [(3, .int (x3 + (-1))), (4, .int 1), (1, .int x1), (2, .int x2), (0, .ref (a 0))]) dX8_goOn_127 rfl (rfl) (by decide) rfl ?_
                    refine j_goto h dX8_goOn_130 (tgt := 27) (by decide) ?_
                    have hi := j_dec c1001
                    have hl := j_toGe c1001
                    subst hq1003 hq1014 hq1016
                    have E : gfX8_goOn (n + 1) σ x1 x2 x3 = gfX8_goOn n (fX8_know (fX8_moveOn σ x3) x3 (((fX8_moveOn σ x3).2 19) (x3 + 1).toNatClampNeg)) x1 x2 (x3 + (-1)) := j_ig c1001 (j_ig c1002 (j_ig c1004 (j_ip c1005 (j_ig c1008 (j_ip c1011 rfl)))))
                    rw [E]
                    refine j_lv [2, 3, 0, 4] rfl ?_
                    exact ih (fX8_know (fX8_moveOn σ x3) x3 (((fX8_moveOn σ x3).2 19) (x3 + 1).toNatClampNeg)) x1 x2 (x3 + (-1)) (mB.fq (mB.fq hb (fr_fX8_moveOn _ _)) (fr_fX8_know _ _ _)) (mv_fX8_know (mB.fq hb (fr_fX8_moveOn _ _)) (mv_fX8_moveOn hb hv (m_s (j_toGe c1001) (by omega)))) (by omega) (by omega) (by omega)
        ·
          refine j_iload_n h 1 dX8_goOn_39 rfl rfl ?_
          refine j_if_eq h dX8_goOn_40 (tgt := 57) (by decide) (fun c1017 => ?_) (fun c1017 => ?_)
          ·
            refine j_aload_n h 3 dX8_goOn_57 rfl rfl ?_
            refine j_iload_n h 2 dX8_goOn_58 rfl rfl ?_
            refine j_callVi h (kX8_mayGo l D a cI cZ σ x3 (m_s (j_toGe c1001) (by omega)) (m_s1 (j_toGe c1001) h4) (mV_w (K := K) (σ := σ) hv)) tb4_170 tb4_172 tp_27 tb1_11 tb4_173 ⟨rfl, rfl⟩ (n := 1) (by decide +kernel) ⟨Nat.le_of_ble_eq_true rfl, Nat.le_of_ble_eq_true rfl⟩ (As := [.int x3]) rfl (ci := 8) (q0 := 0) rfl (mx_c0 _ _ _ σ) (st := []) rfl (Nat.le_of_ble_eq_true rfl) dX8_goOn_59 ⟨Nat.zero_le _, Nat.zero_le _⟩ ?_
            generalize hq1018 : (fX8_mayGo σ x3) = q1018
            refine j_if_eq h dX8_goOn_62 (tgt := 127) (by decide) (fun c1019 => ?_) (fun c1019 => ?_)
            ·
              refine j_iinc h 2 (v := (x3 + (-1))) (lv' := [(3, .int (x3 + (-1))), (1, .int x1), (2, .int x2), (0, .ref (a 0))]) dX8_goOn_127 rfl (rfl) (by decide) rfl ?_
              refine j_goto h dX8_goOn_130 (tgt := 27) (by decide) ?_
              have hi := j_dec c1001
              have hl := j_toGe c1001
              subst hq1018
              have E : gfX8_goOn (n + 1) σ x1 x2 x3 = gfX8_goOn n σ x1 x2 (x3 + (-1)) := j_ig c1001 (j_ip c1002 (j_ip c1017 (j_ip c1019 rfl)))
              rw [E]
              refine j_lv [1, 2, 0, 3] rfl ?_
              exact ih σ x1 x2 (x3 + (-1)) hb hv (by omega) (by omega) (by omega)
            ·
              refine j_iload_n h 2 dX8_goOn_65 rfl rfl ?_
              refine j_aload_n h 3 dX8_goOn_66 rfl rfl ?_
              refine j_get h iX8 0 (mx_c0 _ _ _ σ) rfl 5 (by decide) tb3_209 rfl (v := .int (σ.1 4)) rfl dX8_goOn_67 ?_
              refine j_icmp_ne h dX8_goOn_70 (tgt := 101) (by decide) (fun c1020 => ?_) (fun c1020 => ?_)
              ·
                refine j_iconst h (v := 0) dX8_goOn_101 (by decide) ?_
                refine j_istore h (lv' := [(4, .int 0), (1, .int x1), (2, .int x2), (3, .int x3), (0, .ref (a 0))]) dX8_goOn_102 (by decide) rfl ?_
                refine j_aload_n h 4 dX8_goOn_104 rfl rfl ?_
                refine j_iload_n h 3 dX8_goOn_105 rfl rfl ?_
                refine j_callVv h (kX8_moveOn l D a cI cZ σ x3 (m_s (j_toGe c1001) (by omega)) (m_s1 (j_toGe c1001) h4)) tb4_174 tb4_176 tp_28 tb1_11 tb4_177 ⟨rfl, rfl⟩ (n := 1) (by decide +kernel) ⟨Nat.le_of_ble_eq_true rfl, Nat.le_of_ble_eq_true rfl⟩ (As := [.int x3]) rfl (ci := 8) (q0 := 0) rfl (mx_c0 _ _ _ σ) (st := []) rfl (Nat.le_of_ble_eq_true rfl) dX8_goOn_106 ⟨Nat.zero_le _, Nat.zero_le _⟩ ?_
                generalize hq1021 : (fX8_moveOn σ x3) = q1021
                refine j_iload h 0 dX8_goOn_109 rfl ?_
                refine j_if_eq h dX8_goOn_111 (tgt := 127) (by decide) (fun c1022 => ?_) (fun c1022 => ?_)
                ·
                  refine j_iinc h 3 (v := (x3 + (-1))) (lv' := [(3, .int (x3 + (-1))), (4, .int 0), (1, .int x1), (2, .int x2), (0, .ref (a 0))]) dX8_goOn_127 rfl (rfl) (by decide) rfl ?_
                  refine j_goto h dX8_goOn_130 (tgt := 27) (by decide) ?_
                  have hi := j_dec c1001
                  have hl := j_toGe c1001
                  subst hq1018 hq1021
                  have E : gfX8_goOn (n + 1) σ x1 x2 x3 = gfX8_goOn n (fX8_moveOn σ x3) x1 x2 (x3 + (-1)) := j_ig c1001 (j_ip c1002 (j_ip c1017 (j_ig c1019 (j_ig c1020 rfl))))
                  rw [E]
                  refine j_lv [2, 3, 0, 4] rfl ?_
                  exact ih (fX8_moveOn σ x3) x1 x2 (x3 + (-1)) (mB.fq hb (fr_fX8_moveOn _ _)) (mv_fX8_moveOn hb hv (m_s (j_toGe c1001) (by omega))) (by omega) (by omega) (by omega)
                ·
                  exact absurd c1022 (by decide)
              ·
                refine j_aload_n h 3 dX8_goOn_73 rfl rfl ?_
                refine j_get h iX8 0 (mx_c0 _ _ _ σ) rfl 16 (by decide) tb3_220 rfl (v := .ref (a 7)) rfl dX8_goOn_74 ?_
                refine j_iload_n h 2 dX8_goOn_77 rfl rfl ?_
                refine j_zald h 7 1 (mx_g7 (σ := σ) (F := (σ.2 6)) rfl) rfl (m_s (j_toGe c1001) (by omega)) dX8_goOn_78 ?_
                refine j_if_eq h dX8_goOn_79 (tgt := 101) (by decide) (fun c1023 => ?_) (fun c1023 => ?_)
                ·
                  refine j_iconst h (v := 0) dX8_goOn_101 (by decide) ?_
                  refine j_istore h (lv' := [(4, .int 0), (1, .int x1), (2, .int x2), (3, .int x3), (0, .ref (a 0))]) dX8_goOn_102 (by decide) rfl ?_
                  refine j_aload_n h 4 dX8_goOn_104 rfl rfl ?_
                  refine j_iload_n h 3 dX8_goOn_105 rfl rfl ?_
                  refine j_callVv h (kX8_moveOn l D a cI cZ σ x3 (m_s (j_toGe c1001) (by omega)) (m_s1 (j_toGe c1001) h4)) tb4_174 tb4_176 tp_28 tb1_11 tb4_177 ⟨rfl, rfl⟩ (n := 1) (by decide +kernel) ⟨Nat.le_of_ble_eq_true rfl, Nat.le_of_ble_eq_true rfl⟩ (As := [.int x3]) rfl (ci := 8) (q0 := 0) rfl (mx_c0 _ _ _ σ) (st := []) rfl (Nat.le_of_ble_eq_true rfl) dX8_goOn_106 ⟨Nat.zero_le _, Nat.zero_le _⟩ ?_
                  generalize hq1024 : (fX8_moveOn σ x3) = q1024
                  refine j_iload h 0 dX8_goOn_109 rfl ?_
                  refine j_if_eq h dX8_goOn_111 (tgt := 127) (by decide) (fun c1025 => ?_) (fun c1025 => ?_)
                  ·
                    refine j_iinc h 3 (v := (x3 + (-1))) (lv' := [(3, .int (x3 + (-1))), (4, .int 0), (1, .int x1), (2, .int x2), (0, .ref (a 0))]) dX8_goOn_127 rfl (rfl) (by decide) rfl ?_
                    refine j_goto h dX8_goOn_130 (tgt := 27) (by decide) ?_
                    have hi := j_dec c1001
                    have hl := j_toGe c1001
                    subst hq1018 hq1024
                    have E : gfX8_goOn (n + 1) σ x1 x2 x3 = gfX8_goOn n (fX8_moveOn σ x3) x1 x2 (x3 + (-1)) := j_ig c1001 (j_ip c1002 (j_ip c1017 (j_ig c1019 (j_ip c1020 (j_ip c1023 rfl)))))
                    rw [E]
                    refine j_lv [2, 3, 0, 4] rfl ?_
                    exact ih (fX8_moveOn σ x3) x1 x2 (x3 + (-1)) (mB.fq hb (fr_fX8_moveOn _ _)) (mv_fX8_moveOn hb hv (m_s (j_toGe c1001) (by omega))) (by omega) (by omega) (by omega)
                  ·
                    exact absurd c1025 (by decide)
                ·
                  refine j_aload_n h 3 dX8_goOn_82 rfl rfl ?_
                  refine j_get h iX8 0 (mx_c0 _ _ _ σ) rfl 10 (by decide) tb3_214 rfl (v := .ref (a 1)) rfl dX8_goOn_83 ?_
                  refine j_aload_n h 3 dX8_goOn_86 rfl rfl ?_
                  refine j_get h iX8 0 (mx_c0 _ _ _ σ) rfl 15 (by decide) tb3_219 rfl (v := .ref (a 6)) rfl dX8_goOn_87 ?_
                  refine j_iload_n h 2 dX8_goOn_90 rfl rfl ?_
                  refine j_iald h 6 0 (mx_g6 (σ := σ) (F := (σ.2 5)) rfl) rfl (m_s (j_toGe c1001) (by omega)) dX8_goOn_91 ?_
                  refine j_iald h 1 0 (mx_g1 (σ := σ) (F := (σ.2 0)) rfl) rfl (m_w (mV_w (K := K) (σ := σ) hv) (m_s (j_toGe c1001) (by omega)) (m_may (by rw [hq1018]; exact c1019))) dX8_goOn_92 ?_
                  refine j_iconst h (v := 4) dX8_goOn_93 (by decide) ?_
                  refine j_icmp_ne h dX8_goOn_94 (tgt := 101) (by decide) (fun c1026 => ?_) (fun c1026 => ?_)
                  ·
                    refine j_iconst h (v := 0) dX8_goOn_101 (by decide) ?_
                    refine j_istore h (lv' := [(4, .int 0), (1, .int x1), (2, .int x2), (3, .int x3), (0, .ref (a 0))]) dX8_goOn_102 (by decide) rfl ?_
                    refine j_aload_n h 4 dX8_goOn_104 rfl rfl ?_
                    refine j_iload_n h 3 dX8_goOn_105 rfl rfl ?_
                    refine j_callVv h (kX8_moveOn l D a cI cZ σ x3 (m_s (j_toGe c1001) (by omega)) (m_s1 (j_toGe c1001) h4)) tb4_174 tb4_176 tp_28 tb1_11 tb4_177 ⟨rfl, rfl⟩ (n := 1) (by decide +kernel) ⟨Nat.le_of_ble_eq_true rfl, Nat.le_of_ble_eq_true rfl⟩ (As := [.int x3]) rfl (ci := 8) (q0 := 0) rfl (mx_c0 _ _ _ σ) (st := []) rfl (Nat.le_of_ble_eq_true rfl) dX8_goOn_106 ⟨Nat.zero_le _, Nat.zero_le _⟩ ?_
                    generalize hq1027 : (fX8_moveOn σ x3) = q1027
                    refine j_iload h 0 dX8_goOn_109 rfl ?_
                    refine j_if_eq h dX8_goOn_111 (tgt := 127) (by decide) (fun c1028 => ?_) (fun c1028 => ?_)
                    ·
                      refine j_iinc h 3 (v := (x3 + (-1))) (lv' := [(3, .int (x3 + (-1))), (4, .int 0), (1, .int x1), (2, .int x2), (0, .ref (a 0))]) dX8_goOn_127 rfl (rfl) (by decide) rfl ?_
                      refine j_goto h dX8_goOn_130 (tgt := 27) (by decide) ?_
                      have hi := j_dec c1001
                      have hl := j_toGe c1001
                      subst hq1018 hq1027
                      have E : gfX8_goOn (n + 1) σ x1 x2 x3 = gfX8_goOn n (fX8_moveOn σ x3) x1 x2 (x3 + (-1)) := j_ig c1001 (j_ip c1002 (j_ip c1017 (j_ig c1019 (j_ip c1020 (j_ig c1023 (j_ig c1026 rfl))))))
                      rw [E]
                      refine j_lv [2, 3, 0, 4] rfl ?_
                      exact ih (fX8_moveOn σ x3) x1 x2 (x3 + (-1)) (mB.fq hb (fr_fX8_moveOn _ _)) (mv_fX8_moveOn hb hv (m_s (j_toGe c1001) (by omega))) (by omega) (by omega) (by omega)
                    ·
                      exact absurd c1028 (by decide)
                  ·
                    refine j_iconst h (v := 1) dX8_goOn_97 (by decide) ?_
                    refine j_goto h dX8_goOn_98 (tgt := 102) (by decide) ?_
                    refine j_istore h (lv' := [(4, .int 1), (1, .int x1), (2, .int x2), (3, .int x3), (0, .ref (a 0))]) dX8_goOn_102 (by decide) rfl ?_
                    refine j_aload_n h 4 dX8_goOn_104 rfl rfl ?_
                    refine j_iload_n h 3 dX8_goOn_105 rfl rfl ?_
                    refine j_callVv h (kX8_moveOn l D a cI cZ σ x3 (m_s (j_toGe c1001) (by omega)) (m_s1 (j_toGe c1001) h4)) tb4_174 tb4_176 tp_28 tb1_11 tb4_177 ⟨rfl, rfl⟩ (n := 1) (by decide +kernel) ⟨Nat.le_of_ble_eq_true rfl, Nat.le_of_ble_eq_true rfl⟩ (As := [.int x3]) rfl (ci := 8) (q0 := 0) rfl (mx_c0 _ _ _ σ) (st := []) rfl (Nat.le_of_ble_eq_true rfl) dX8_goOn_106 ⟨Nat.zero_le _, Nat.zero_le _⟩ ?_
                    generalize hq1029 : (fX8_moveOn σ x3) = q1029
                    refine j_iload h 0 dX8_goOn_109 rfl ?_
                    refine j_if_eq h dX8_goOn_111 (tgt := 127) (by decide) (fun c1030 => ?_) (fun c1030 => ?_)
                    ·
                      exact absurd c1030 (by decide)
                    ·
                      refine j_aload_n h 4 dX8_goOn_114 rfl rfl ?_
                      refine j_iload_n h 3 dX8_goOn_115 rfl rfl ?_
                      refine j_aload_n h 4 dX8_goOn_116 rfl rfl ?_
                      refine j_get h iX8 0 (mx_c0 _ _ _ q1029) rfl 21 (by decide) tb3_225 rfl (v := .ref (a 12)) rfl dX8_goOn_117 ?_
                      refine j_iload_n h 3 dX8_goOn_120 rfl rfl ?_
                      refine j_iconst h (v := 1) dX8_goOn_121 (by decide) ?_
                      refine j_iadd h dX8_goOn_122 ?_
                      refine j_iald h 12 0 (mx_g12 (σ := q1029) (F := (q1029.2 19)) rfl) rfl (m_s1 (j_toGe c1001) h4) dX8_goOn_123 ?_
                      refine j_callVv h (kX8_know l D a cI cZ q1029 x3 ((q1029.2 19) (x3 + 1).toNatClampNeg) (by omega) (mB.w0 (by rw [← hq1029]; exact (mB.fq hb (fr_fX8_moveOn _ _))))) tb4_138 tb4_140 tp_19 tb1_11 tb4_141 ⟨rfl, rfl⟩ (n := 2) (by decide +kernel) ⟨Nat.le_of_ble_eq_true rfl, Nat.le_of_ble_eq_true rfl⟩ (As := [.int x3, .int ((q1029.2 19) (x3 + 1).toNatClampNeg)]) rfl (ci := 8) (q0 := 0) rfl (mx_c0 _ _ _ q1029) (st := []) rfl (Nat.le_of_ble_eq_true rfl) dX8_goOn_124 ⟨Nat.zero_le _, Nat.zero_le _⟩ ?_
                      generalize hq1031 : (fX8_know q1029 x3 ((q1029.2 19) (x3 + 1).toNatClampNeg)) = q1031
                      refine j_iinc h 3 (v := (x3 + (-1))) (lv' := [(3, .int (x3 + (-1))), (4, .int 1), (1, .int x1), (2, .int x2), (0, .ref (a 0))]) dX8_goOn_127 rfl (rfl) (by decide) rfl ?_
                      refine j_goto h dX8_goOn_130 (tgt := 27) (by decide) ?_
                      have hi := j_dec c1001
                      have hl := j_toGe c1001
                      subst hq1018 hq1029 hq1031
                      have E : gfX8_goOn (n + 1) σ x1 x2 x3 = gfX8_goOn n (fX8_know (fX8_moveOn σ x3) x3 (((fX8_moveOn σ x3).2 19) (x3 + 1).toNatClampNeg)) x1 x2 (x3 + (-1)) := j_ig c1001 (j_ip c1002 (j_ip c1017 (j_ig c1019 (j_ip c1020 (j_ig c1023 (j_ip c1026 rfl))))))
                      rw [E]
                      refine j_lv [2, 3, 0, 4] rfl ?_
                      exact ih (fX8_know (fX8_moveOn σ x3) x3 (((fX8_moveOn σ x3).2 19) (x3 + 1).toNatClampNeg)) x1 x2 (x3 + (-1)) (mB.fq (mB.fq hb (fr_fX8_moveOn _ _)) (fr_fX8_know _ _ _)) (mv_fX8_know (mB.fq hb (fr_fX8_moveOn _ _)) (mv_fX8_moveOn hb hv (m_s (j_toGe c1001) (by omega)))) (by omega) (by omega) (by omega)
          ·
            refine j_aload_n h 3 dX8_goOn_43 rfl rfl ?_
            refine j_get h iX8 0 (mx_c0 _ _ _ σ) rfl 15 (by decide) tb3_219 rfl (v := .ref (a 6)) rfl dX8_goOn_44 ?_
            refine j_iload_n h 2 dX8_goOn_47 rfl rfl ?_
            refine j_iald h 6 0 (mx_g6 (σ := σ) (F := (σ.2 5)) rfl) rfl (m_s (j_toGe c1001) (by omega)) dX8_goOn_48 ?_
            refine j_if_lt h dX8_goOn_49 (tgt := 57) (by decide) (fun c1032 => ?_) (fun c1032 => ?_)
            ·
              refine j_aload_n h 3 dX8_goOn_57 rfl rfl ?_
              refine j_iload_n h 2 dX8_goOn_58 rfl rfl ?_
              refine j_callVi h (kX8_mayGo l D a cI cZ σ x3 (m_s (j_toGe c1001) (by omega)) (m_s1 (j_toGe c1001) h4) (mV_w (K := K) (σ := σ) hv)) tb4_170 tb4_172 tp_27 tb1_11 tb4_173 ⟨rfl, rfl⟩ (n := 1) (by decide +kernel) ⟨Nat.le_of_ble_eq_true rfl, Nat.le_of_ble_eq_true rfl⟩ (As := [.int x3]) rfl (ci := 8) (q0 := 0) rfl (mx_c0 _ _ _ σ) (st := []) rfl (Nat.le_of_ble_eq_true rfl) dX8_goOn_59 ⟨Nat.zero_le _, Nat.zero_le _⟩ ?_
              generalize hq1033 : (fX8_mayGo σ x3) = q1033
              refine j_if_eq h dX8_goOn_62 (tgt := 127) (by decide) (fun c1034 => ?_) (fun c1034 => ?_)
              ·
                refine j_iinc h 2 (v := (x3 + (-1))) (lv' := [(3, .int (x3 + (-1))), (1, .int x1), (2, .int x2), (0, .ref (a 0))]) dX8_goOn_127 rfl (rfl) (by decide) rfl ?_
                refine j_goto h dX8_goOn_130 (tgt := 27) (by decide) ?_
                have hi := j_dec c1001
                have hl := j_toGe c1001
                subst hq1033
                have E : gfX8_goOn (n + 1) σ x1 x2 x3 = gfX8_goOn n σ x1 x2 (x3 + (-1)) := j_ig c1001 (j_ip c1002 (j_ig c1017 (j_ip c1032 (j_ip c1034 rfl))))
                rw [E]
                refine j_lv [1, 2, 0, 3] rfl ?_
                exact ih σ x1 x2 (x3 + (-1)) hb hv (by omega) (by omega) (by omega)
              ·
                refine j_iload_n h 2 dX8_goOn_65 rfl rfl ?_
                refine j_aload_n h 3 dX8_goOn_66 rfl rfl ?_
                refine j_get h iX8 0 (mx_c0 _ _ _ σ) rfl 5 (by decide) tb3_209 rfl (v := .int (σ.1 4)) rfl dX8_goOn_67 ?_
                refine j_icmp_ne h dX8_goOn_70 (tgt := 101) (by decide) (fun c1035 => ?_) (fun c1035 => ?_)
                ·
                  refine j_iconst h (v := 0) dX8_goOn_101 (by decide) ?_
                  refine j_istore h (lv' := [(4, .int 0), (1, .int x1), (2, .int x2), (3, .int x3), (0, .ref (a 0))]) dX8_goOn_102 (by decide) rfl ?_
                  refine j_aload_n h 4 dX8_goOn_104 rfl rfl ?_
                  refine j_iload_n h 3 dX8_goOn_105 rfl rfl ?_
                  refine j_callVv h (kX8_moveOn l D a cI cZ σ x3 (m_s (j_toGe c1001) (by omega)) (m_s1 (j_toGe c1001) h4)) tb4_174 tb4_176 tp_28 tb1_11 tb4_177 ⟨rfl, rfl⟩ (n := 1) (by decide +kernel) ⟨Nat.le_of_ble_eq_true rfl, Nat.le_of_ble_eq_true rfl⟩ (As := [.int x3]) rfl (ci := 8) (q0 := 0) rfl (mx_c0 _ _ _ σ) (st := []) rfl (Nat.le_of_ble_eq_true rfl) dX8_goOn_106 ⟨Nat.zero_le _, Nat.zero_le _⟩ ?_
                  generalize hq1036 : (fX8_moveOn σ x3) = q1036
                  refine j_iload h 0 dX8_goOn_109 rfl ?_
                  refine j_if_eq h dX8_goOn_111 (tgt := 127) (by decide) (fun c1037 => ?_) (fun c1037 => ?_)
                  ·
                    refine j_iinc h 3 (v := (x3 + (-1))) (lv' := [(3, .int (x3 + (-1))), (4, .int 0), (1, .int x1), (2, .int x2), (0, .ref (a 0))]) dX8_goOn_127 rfl (rfl) (by decide) rfl ?_
                    refine j_goto h dX8_goOn_130 (tgt := 27) (by decide) ?_
                    have hi := j_dec c1001
                    have hl := j_toGe c1001
                    subst hq1033 hq1036
                    have E : gfX8_goOn (n + 1) σ x1 x2 x3 = gfX8_goOn n (fX8_moveOn σ x3) x1 x2 (x3 + (-1)) := j_ig c1001 (j_ip c1002 (j_ig c1017 (j_ip c1032 (j_ig c1034 (j_ig c1035 rfl)))))
                    rw [E]
                    refine j_lv [2, 3, 0, 4] rfl ?_
                    exact ih (fX8_moveOn σ x3) x1 x2 (x3 + (-1)) (mB.fq hb (fr_fX8_moveOn _ _)) (mv_fX8_moveOn hb hv (m_s (j_toGe c1001) (by omega))) (by omega) (by omega) (by omega)
                  ·
                    exact absurd c1037 (by decide)
                ·
                  refine j_aload_n h 3 dX8_goOn_73 rfl rfl ?_
                  refine j_get h iX8 0 (mx_c0 _ _ _ σ) rfl 16 (by decide) tb3_220 rfl (v := .ref (a 7)) rfl dX8_goOn_74 ?_
                  refine j_iload_n h 2 dX8_goOn_77 rfl rfl ?_
                  refine j_zald h 7 1 (mx_g7 (σ := σ) (F := (σ.2 6)) rfl) rfl (m_s (j_toGe c1001) (by omega)) dX8_goOn_78 ?_
                  refine j_if_eq h dX8_goOn_79 (tgt := 101) (by decide) (fun c1038 => ?_) (fun c1038 => ?_)
                  ·
                    refine j_iconst h (v := 0) dX8_goOn_101 (by decide) ?_
                    refine j_istore h (lv' := [(4, .int 0), (1, .int x1), (2, .int x2), (3, .int x3), (0, .ref (a 0))]) dX8_goOn_102 (by decide) rfl ?_
                    refine j_aload_n h 4 dX8_goOn_104 rfl rfl ?_
                    refine j_iload_n h 3 dX8_goOn_105 rfl rfl ?_
                    refine j_callVv h (kX8_moveOn l D a cI cZ σ x3 (m_s (j_toGe c1001) (by omega)) (m_s1 (j_toGe c1001) h4)) tb4_174 tb4_176 tp_28 tb1_11 tb4_177 ⟨rfl, rfl⟩ (n := 1) (by decide +kernel) ⟨Nat.le_of_ble_eq_true rfl, Nat.le_of_ble_eq_true rfl⟩ (As := [.int x3]) rfl (ci := 8) (q0 := 0) rfl (mx_c0 _ _ _ σ) (st := []) rfl (Nat.le_of_ble_eq_true rfl) dX8_goOn_106 ⟨Nat.zero_le _, Nat.zero_le _⟩ ?_
                    generalize hq1039 : (fX8_moveOn σ x3) = q1039
                    refine j_iload h 0 dX8_goOn_109 rfl ?_
                    refine j_if_eq h dX8_goOn_111 (tgt := 127) (by decide) (fun c1040 => ?_) (fun c1040 => ?_)
                    ·
                      refine j_iinc h 3 (v := (x3 + (-1))) (lv' := [(3, .int (x3 + (-1))), (4, .int 0), (1, .int x1), (2, .int x2), (0, .ref (a 0))]) dX8_goOn_127 rfl (rfl) (by decide) rfl ?_
                      refine j_goto h dX8_goOn_130 (tgt := 27) (by decide) ?_
                      have hi := j_dec c1001
                      have hl := j_toGe c1001
                      subst hq1033 hq1039
                      have E : gfX8_goOn (n + 1) σ x1 x2 x3 = gfX8_goOn n (fX8_moveOn σ x3) x1 x2 (x3 + (-1)) := j_ig c1001 (j_ip c1002 (j_ig c1017 (j_ip c1032 (j_ig c1034 (j_ip c1035 (j_ip c1038 rfl))))))
                      rw [E]
                      refine j_lv [2, 3, 0, 4] rfl ?_
                      exact ih (fX8_moveOn σ x3) x1 x2 (x3 + (-1)) (mB.fq hb (fr_fX8_moveOn _ _)) (mv_fX8_moveOn hb hv (m_s (j_toGe c1001) (by omega))) (by omega) (by omega) (by omega)
                    ·
                      exact absurd c1040 (by decide)
                  ·
                    refine j_aload_n h 3 dX8_goOn_82 rfl rfl ?_
                    refine j_get h iX8 0 (mx_c0 _ _ _ σ) rfl 10 (by decide) tb3_214 rfl (v := .ref (a 1)) rfl dX8_goOn_83 ?_
                    refine j_aload_n h 3 dX8_goOn_86 rfl rfl ?_
                    refine j_get h iX8 0 (mx_c0 _ _ _ σ) rfl 15 (by decide) tb3_219 rfl (v := .ref (a 6)) rfl dX8_goOn_87 ?_
                    refine j_iload_n h 2 dX8_goOn_90 rfl rfl ?_
                    refine j_iald h 6 0 (mx_g6 (σ := σ) (F := (σ.2 5)) rfl) rfl (m_s (j_toGe c1001) (by omega)) dX8_goOn_91 ?_
                    refine j_iald h 1 0 (mx_g1 (σ := σ) (F := (σ.2 0)) rfl) rfl (m_w (mV_w (K := K) (σ := σ) hv) (m_s (j_toGe c1001) (by omega)) (m_may (by rw [hq1033]; exact c1034))) dX8_goOn_92 ?_
                    refine j_iconst h (v := 4) dX8_goOn_93 (by decide) ?_
                    refine j_icmp_ne h dX8_goOn_94 (tgt := 101) (by decide) (fun c1041 => ?_) (fun c1041 => ?_)
                    ·
                      refine j_iconst h (v := 0) dX8_goOn_101 (by decide) ?_
                      refine j_istore h (lv' := [(4, .int 0), (1, .int x1), (2, .int x2), (3, .int x3), (0, .ref (a 0))]) dX8_goOn_102 (by decide) rfl ?_
                      refine j_aload_n h 4 dX8_goOn_104 rfl rfl ?_
                      refine j_iload_n h 3 dX8_goOn_105 rfl rfl ?_
                      refine j_callVv h (kX8_moveOn l D a cI cZ σ x3 (m_s (j_toGe c1001) (by omega)) (m_s1 (j_toGe c1001) h4)) tb4_174 tb4_176 tp_28 tb1_11 tb4_177 ⟨rfl, rfl⟩ (n := 1) (by decide +kernel) ⟨Nat.le_of_ble_eq_true rfl, Nat.le_of_ble_eq_true rfl⟩ (As := [.int x3]) rfl (ci := 8) (q0 := 0) rfl (mx_c0 _ _ _ σ) (st := []) rfl (Nat.le_of_ble_eq_true rfl) dX8_goOn_106 ⟨Nat.zero_le _, Nat.zero_le _⟩ ?_
                      generalize hq1042 : (fX8_moveOn σ x3) = q1042
                      refine j_iload h 0 dX8_goOn_109 rfl ?_
                      refine j_if_eq h dX8_goOn_111 (tgt := 127) (by decide) (fun c1043 => ?_) (fun c1043 => ?_)
                      ·
                        refine j_iinc h 3 (v := (x3 + (-1))) (lv' := [(3, .int (x3 + (-1))), (4, .int 0), (1, .int x1), (2, .int x2), (0, .ref (a 0))]) dX8_goOn_127 rfl (rfl) (by decide) rfl ?_
                        refine j_goto h dX8_goOn_130 (tgt := 27) (by decide) ?_
                        have hi := j_dec c1001
                        have hl := j_toGe c1001
                        subst hq1033 hq1042
                        have E : gfX8_goOn (n + 1) σ x1 x2 x3 = gfX8_goOn n (fX8_moveOn σ x3) x1 x2 (x3 + (-1)) := j_ig c1001 (j_ip c1002 (j_ig c1017 (j_ip c1032 (j_ig c1034 (j_ip c1035 (j_ig c1038 (j_ig c1041 rfl)))))))
                        rw [E]
                        refine j_lv [2, 3, 0, 4] rfl ?_
                        exact ih (fX8_moveOn σ x3) x1 x2 (x3 + (-1)) (mB.fq hb (fr_fX8_moveOn _ _)) (mv_fX8_moveOn hb hv (m_s (j_toGe c1001) (by omega))) (by omega) (by omega) (by omega)
                      ·
                        exact absurd c1043 (by decide)
                    ·
                      refine j_iconst h (v := 1) dX8_goOn_97 (by decide) ?_
                      refine j_goto h dX8_goOn_98 (tgt := 102) (by decide) ?_
                      refine j_istore h (lv' := [(4, .int 1), (1, .int x1), (2, .int x2), (3, .int x3), (0, .ref (a 0))]) dX8_goOn_102 (by decide) rfl ?_
                      refine j_aload_n h 4 dX8_goOn_104 rfl rfl ?_
                      refine j_iload_n h 3 dX8_goOn_105 rfl rfl ?_
                      refine j_callVv h (kX8_moveOn l D a cI cZ σ x3 (m_s (j_toGe c1001) (by omega)) (m_s1 (j_toGe c1001) h4)) tb4_174 tb4_176 tp_28 tb1_11 tb4_177 ⟨rfl, rfl⟩ (n := 1) (by decide +kernel) ⟨Nat.le_of_ble_eq_true rfl, Nat.le_of_ble_eq_true rfl⟩ (As := [.int x3]) rfl (ci := 8) (q0 := 0) rfl (mx_c0 _ _ _ σ) (st := []) rfl (Nat.le_of_ble_eq_true rfl) dX8_goOn_106 ⟨Nat.zero_le _, Nat.zero_le _⟩ ?_
                      generalize hq1044 : (fX8_moveOn σ x3) = q1044
                      refine j_iload h 0 dX8_goOn_109 rfl ?_
                      refine j_if_eq h dX8_goOn_111 (tgt := 127) (by decide) (fun c1045 => ?_) (fun c1045 => ?_)
                      ·
                        exact absurd c1045 (by decide)
                      ·
                        refine j_aload_n h 4 dX8_goOn_114 rfl rfl ?_
                        refine j_iload_n h 3 dX8_goOn_115 rfl rfl ?_
                        refine j_aload_n h 4 dX8_goOn_116 rfl rfl ?_
                        refine j_get h iX8 0 (mx_c0 _ _ _ q1044) rfl 21 (by decide) tb3_225 rfl (v := .ref (a 12)) rfl dX8_goOn_117 ?_
                        refine j_iload_n h 3 dX8_goOn_120 rfl rfl ?_
                        refine j_iconst h (v := 1) dX8_goOn_121 (by decide) ?_
                        refine j_iadd h dX8_goOn_122 ?_
                        refine j_iald h 12 0 (mx_g12 (σ := q1044) (F := (q1044.2 19)) rfl) rfl (m_s1 (j_toGe c1001) h4) dX8_goOn_123 ?_
                        refine j_callVv h (kX8_know l D a cI cZ q1044 x3 ((q1044.2 19) (x3 + 1).toNatClampNeg) (by omega) (mB.w0 (by rw [← hq1044]; exact (mB.fq hb (fr_fX8_moveOn _ _))))) tb4_138 tb4_140 tp_19 tb1_11 tb4_141 ⟨rfl, rfl⟩ (n := 2) (by decide +kernel) ⟨Nat.le_of_ble_eq_true rfl, Nat.le_of_ble_eq_true rfl⟩ (As := [.int x3, .int ((q1044.2 19) (x3 + 1).toNatClampNeg)]) rfl (ci := 8) (q0 := 0) rfl (mx_c0 _ _ _ q1044) (st := []) rfl (Nat.le_of_ble_eq_true rfl) dX8_goOn_124 ⟨Nat.zero_le _, Nat.zero_le _⟩ ?_
                        generalize hq1046 : (fX8_know q1044 x3 ((q1044.2 19) (x3 + 1).toNatClampNeg)) = q1046
                        refine j_iinc h 3 (v := (x3 + (-1))) (lv' := [(3, .int (x3 + (-1))), (4, .int 1), (1, .int x1), (2, .int x2), (0, .ref (a 0))]) dX8_goOn_127 rfl (rfl) (by decide) rfl ?_
                        refine j_goto h dX8_goOn_130 (tgt := 27) (by decide) ?_
                        have hi := j_dec c1001
                        have hl := j_toGe c1001
                        subst hq1033 hq1044 hq1046
                        have E : gfX8_goOn (n + 1) σ x1 x2 x3 = gfX8_goOn n (fX8_know (fX8_moveOn σ x3) x3 (((fX8_moveOn σ x3).2 19) (x3 + 1).toNatClampNeg)) x1 x2 (x3 + (-1)) := j_ig c1001 (j_ip c1002 (j_ig c1017 (j_ip c1032 (j_ig c1034 (j_ip c1035 (j_ig c1038 (j_ip c1041 rfl)))))))
                        rw [E]
                        refine j_lv [2, 3, 0, 4] rfl ?_
                        exact ih (fX8_know (fX8_moveOn σ x3) x3 (((fX8_moveOn σ x3).2 19) (x3 + 1).toNatClampNeg)) x1 x2 (x3 + (-1)) (mB.fq (mB.fq hb (fr_fX8_moveOn _ _)) (fr_fX8_know _ _ _)) (mv_fX8_know (mB.fq hb (fr_fX8_moveOn _ _)) (mv_fX8_moveOn hb hv (m_s (j_toGe c1001) (by omega)))) (by omega) (by omega) (by omega)
            ·
              refine j_aload_n h 3 dX8_goOn_52 rfl rfl ?_
              refine j_callVi h (kX8_work l D a cI cZ σ hb hv (by rw [← c1002]; exact j_toGe c1032)) tb4_146 tb4_148 tp_21 tb1_11 tb4_149 ⟨rfl, rfl⟩ (n := 0) (by decide +kernel) ⟨Nat.le_of_ble_eq_true rfl, Nat.le_of_ble_eq_true rfl⟩ (As := []) rfl (ci := 8) (q0 := 0) rfl (mx_c0 _ _ _ σ) (st := []) rfl (Nat.le_of_ble_eq_true rfl) dX8_goOn_53 ⟨Nat.zero_le _, Nat.zero_le _⟩ ?_
              generalize hq1047 : (fX8_work σ) = q1047
              refine j_istore_n h (lv' := [(1, .int q1047.1), (2, .int x2), (3, .int x3), (0, .ref (a 0))]) dX8_goOn_56 rfl (by decide) rfl ?_
              refine j_aload_n h 3 dX8_goOn_57 rfl rfl ?_
              refine j_iload_n h 2 dX8_goOn_58 rfl rfl ?_
              refine j_callVi h (kX8_mayGo l D a cI cZ q1047.2 x3 (m_s (j_toGe c1001) (by omega)) (m_s1 (j_toGe c1001) h4) (mV_w (K := K) (σ := q1047.2) (by rw [← hq1047]; exact (mv_fX8_work hb hv)))) tb4_170 tb4_172 tp_27 tb1_11 tb4_173 ⟨rfl, rfl⟩ (n := 1) (by decide +kernel) ⟨Nat.le_of_ble_eq_true rfl, Nat.le_of_ble_eq_true rfl⟩ (As := [.int x3]) rfl (ci := 8) (q0 := 0) rfl (mx_c0 _ _ _ q1047.2) (st := []) rfl (Nat.le_of_ble_eq_true rfl) dX8_goOn_59 ⟨Nat.zero_le _, Nat.zero_le _⟩ ?_
              generalize hq1048 : (fX8_mayGo q1047.2 x3) = q1048
              refine j_if_eq h dX8_goOn_62 (tgt := 127) (by decide) (fun c1049 => ?_) (fun c1049 => ?_)
              ·
                refine j_iinc h 2 (v := (x3 + (-1))) (lv' := [(3, .int (x3 + (-1))), (1, .int q1047.1), (2, .int x2), (0, .ref (a 0))]) dX8_goOn_127 rfl (rfl) (by decide) rfl ?_
                refine j_goto h dX8_goOn_130 (tgt := 27) (by decide) ?_
                have hi := j_dec c1001
                have hl := j_toGe c1001
                subst hq1047 hq1048
                have E : gfX8_goOn (n + 1) σ x1 x2 x3 = gfX8_goOn n (fX8_work σ).2 (fX8_work σ).1 x2 (x3 + (-1)) := j_ig c1001 (j_ip c1002 (j_ig c1017 (j_ig c1032 (j_ip c1049 rfl))))
                rw [E]
                refine j_lv [1, 2, 0, 3] rfl ?_
                exact ih ((fX8_work σ).2) ((fX8_work σ).1) x2 (x3 + (-1)) (mB.fq hb (fr_fX8_work _)) (mv_fX8_work hb hv) (by omega) (by omega) (by omega)
              ·
                refine j_iload_n h 2 dX8_goOn_65 rfl rfl ?_
                refine j_aload_n h 3 dX8_goOn_66 rfl rfl ?_
                refine j_get h iX8 0 (mx_c0 _ _ _ q1047.2) rfl 5 (by decide) tb3_209 rfl (v := .int (q1047.2.1 4)) rfl dX8_goOn_67 ?_
                refine j_icmp_ne h dX8_goOn_70 (tgt := 101) (by decide) (fun c1050 => ?_) (fun c1050 => ?_)
                ·
                  refine j_iconst h (v := 0) dX8_goOn_101 (by decide) ?_
                  refine j_istore h (lv' := [(4, .int 0), (1, .int q1047.1), (2, .int x2), (3, .int x3), (0, .ref (a 0))]) dX8_goOn_102 (by decide) rfl ?_
                  refine j_aload_n h 4 dX8_goOn_104 rfl rfl ?_
                  refine j_iload_n h 3 dX8_goOn_105 rfl rfl ?_
                  refine j_callVv h (kX8_moveOn l D a cI cZ q1047.2 x3 (m_s (j_toGe c1001) (by omega)) (m_s1 (j_toGe c1001) h4)) tb4_174 tb4_176 tp_28 tb1_11 tb4_177 ⟨rfl, rfl⟩ (n := 1) (by decide +kernel) ⟨Nat.le_of_ble_eq_true rfl, Nat.le_of_ble_eq_true rfl⟩ (As := [.int x3]) rfl (ci := 8) (q0 := 0) rfl (mx_c0 _ _ _ q1047.2) (st := []) rfl (Nat.le_of_ble_eq_true rfl) dX8_goOn_106 ⟨Nat.zero_le _, Nat.zero_le _⟩ ?_
                  generalize hq1051 : (fX8_moveOn q1047.2 x3) = q1051
                  refine j_iload h 0 dX8_goOn_109 rfl ?_
                  refine j_if_eq h dX8_goOn_111 (tgt := 127) (by decide) (fun c1052 => ?_) (fun c1052 => ?_)
                  ·
                    refine j_iinc h 3 (v := (x3 + (-1))) (lv' := [(3, .int (x3 + (-1))), (4, .int 0), (1, .int q1047.1), (2, .int x2), (0, .ref (a 0))]) dX8_goOn_127 rfl (rfl) (by decide) rfl ?_
                    refine j_goto h dX8_goOn_130 (tgt := 27) (by decide) ?_
                    have hi := j_dec c1001
                    have hl := j_toGe c1001
                    subst hq1047 hq1048 hq1051
                    have E : gfX8_goOn (n + 1) σ x1 x2 x3 = gfX8_goOn n (fX8_moveOn (fX8_work σ).2 x3) (fX8_work σ).1 x2 (x3 + (-1)) := j_ig c1001 (j_ip c1002 (j_ig c1017 (j_ig c1032 (j_ig c1049 (j_ig c1050 rfl)))))
                    rw [E]
                    refine j_lv [2, 3, 0, 4] rfl ?_
                    exact ih (fX8_moveOn (fX8_work σ).2 x3) ((fX8_work σ).1) x2 (x3 + (-1)) (mB.fq (mB.fq hb (fr_fX8_work _)) (fr_fX8_moveOn _ _)) (mv_fX8_moveOn (mB.fq hb (fr_fX8_work _)) (mv_fX8_work hb hv) (m_s (j_toGe c1001) (by omega))) (by omega) (by omega) (by omega)
                  ·
                    exact absurd c1052 (by decide)
                ·
                  refine j_aload_n h 3 dX8_goOn_73 rfl rfl ?_
                  refine j_get h iX8 0 (mx_c0 _ _ _ q1047.2) rfl 16 (by decide) tb3_220 rfl (v := .ref (a 7)) rfl dX8_goOn_74 ?_
                  refine j_iload_n h 2 dX8_goOn_77 rfl rfl ?_
                  refine j_zald h 7 1 (mx_g7 (σ := q1047.2) (F := (q1047.2.2 6)) rfl) rfl (m_s (j_toGe c1001) (by omega)) dX8_goOn_78 ?_
                  refine j_if_eq h dX8_goOn_79 (tgt := 101) (by decide) (fun c1053 => ?_) (fun c1053 => ?_)
                  ·
                    refine j_iconst h (v := 0) dX8_goOn_101 (by decide) ?_
                    refine j_istore h (lv' := [(4, .int 0), (1, .int q1047.1), (2, .int x2), (3, .int x3), (0, .ref (a 0))]) dX8_goOn_102 (by decide) rfl ?_
                    refine j_aload_n h 4 dX8_goOn_104 rfl rfl ?_
                    refine j_iload_n h 3 dX8_goOn_105 rfl rfl ?_
                    refine j_callVv h (kX8_moveOn l D a cI cZ q1047.2 x3 (m_s (j_toGe c1001) (by omega)) (m_s1 (j_toGe c1001) h4)) tb4_174 tb4_176 tp_28 tb1_11 tb4_177 ⟨rfl, rfl⟩ (n := 1) (by decide +kernel) ⟨Nat.le_of_ble_eq_true rfl, Nat.le_of_ble_eq_true rfl⟩ (As := [.int x3]) rfl (ci := 8) (q0 := 0) rfl (mx_c0 _ _ _ q1047.2) (st := []) rfl (Nat.le_of_ble_eq_true rfl) dX8_goOn_106 ⟨Nat.zero_le _, Nat.zero_le _⟩ ?_
                    generalize hq1054 : (fX8_moveOn q1047.2 x3) = q1054
                    refine j_iload h 0 dX8_goOn_109 rfl ?_
                    refine j_if_eq h dX8_goOn_111 (tgt := 127) (by decide) (fun c1055 => ?_) (fun c1055 => ?_)
                    ·
                      refine j_iinc h 3 (v := (x3 + (-1))) (lv' := [(3, .int (x3 + (-1))), (4, .int 0), (1, .int q1047.1), (2, .int x2), (0, .ref (a 0))]) dX8_goOn_127 rfl (rfl) (by decide) rfl ?_
                      refine j_goto h dX8_goOn_130 (tgt := 27) (by decide) ?_
                      have hi := j_dec c1001
                      have hl := j_toGe c1001
                      subst hq1047 hq1048 hq1054
                      have E : gfX8_goOn (n + 1) σ x1 x2 x3 = gfX8_goOn n (fX8_moveOn (fX8_work σ).2 x3) (fX8_work σ).1 x2 (x3 + (-1)) := j_ig c1001 (j_ip c1002 (j_ig c1017 (j_ig c1032 (j_ig c1049 (j_ip c1050 (j_ip c1053 rfl))))))
                      rw [E]
                      refine j_lv [2, 3, 0, 4] rfl ?_
                      exact ih (fX8_moveOn (fX8_work σ).2 x3) ((fX8_work σ).1) x2 (x3 + (-1)) (mB.fq (mB.fq hb (fr_fX8_work _)) (fr_fX8_moveOn _ _)) (mv_fX8_moveOn (mB.fq hb (fr_fX8_work _)) (mv_fX8_work hb hv) (m_s (j_toGe c1001) (by omega))) (by omega) (by omega) (by omega)
                    ·
                      exact absurd c1055 (by decide)
                  ·
                    refine j_aload_n h 3 dX8_goOn_82 rfl rfl ?_
                    refine j_get h iX8 0 (mx_c0 _ _ _ q1047.2) rfl 10 (by decide) tb3_214 rfl (v := .ref (a 1)) rfl dX8_goOn_83 ?_
                    refine j_aload_n h 3 dX8_goOn_86 rfl rfl ?_
                    refine j_get h iX8 0 (mx_c0 _ _ _ q1047.2) rfl 15 (by decide) tb3_219 rfl (v := .ref (a 6)) rfl dX8_goOn_87 ?_
                    refine j_iload_n h 2 dX8_goOn_90 rfl rfl ?_
                    refine j_iald h 6 0 (mx_g6 (σ := q1047.2) (F := (q1047.2.2 5)) rfl) rfl (m_s (j_toGe c1001) (by omega)) dX8_goOn_91 ?_
                    refine j_iald h 1 0 (mx_g1 (σ := q1047.2) (F := (q1047.2.2 0)) rfl) rfl (m_w (mV_w (K := K) (σ := q1047.2) (by rw [← hq1047]; exact (mv_fX8_work hb hv))) (m_s (j_toGe c1001) (by omega)) (m_may (by rw [hq1048]; exact c1049))) dX8_goOn_92 ?_
                    refine j_iconst h (v := 4) dX8_goOn_93 (by decide) ?_
                    refine j_icmp_ne h dX8_goOn_94 (tgt := 101) (by decide) (fun c1056 => ?_) (fun c1056 => ?_)
                    ·
                      refine j_iconst h (v := 0) dX8_goOn_101 (by decide) ?_
                      refine j_istore h (lv' := [(4, .int 0), (1, .int q1047.1), (2, .int x2), (3, .int x3), (0, .ref (a 0))]) dX8_goOn_102 (by decide) rfl ?_
                      refine j_aload_n h 4 dX8_goOn_104 rfl rfl ?_
                      refine j_iload_n h 3 dX8_goOn_105 rfl rfl ?_
                      refine j_callVv h (kX8_moveOn l D a cI cZ q1047.2 x3 (m_s (j_toGe c1001) (by omega)) (m_s1 (j_toGe c1001) h4)) tb4_174 tb4_176 tp_28 tb1_11 tb4_177 ⟨rfl, rfl⟩ (n := 1) (by decide +kernel) ⟨Nat.le_of_ble_eq_true rfl, Nat.le_of_ble_eq_true rfl⟩ (As := [.int x3]) rfl (ci := 8) (q0 := 0) rfl (mx_c0 _ _ _ q1047.2) (st := []) rfl (Nat.le_of_ble_eq_true rfl) dX8_goOn_106 ⟨Nat.zero_le _, Nat.zero_le _⟩ ?_
                      generalize hq1057 : (fX8_moveOn q1047.2 x3) = q1057
                      refine j_iload h 0 dX8_goOn_109 rfl ?_
                      refine j_if_eq h dX8_goOn_111 (tgt := 127) (by decide) (fun c1058 => ?_) (fun c1058 => ?_)
                      ·
                        refine j_iinc h 3 (v := (x3 + (-1))) (lv' := [(3, .int (x3 + (-1))), (4, .int 0), (1, .int q1047.1), (2, .int x2), (0, .ref (a 0))]) dX8_goOn_127 rfl (rfl) (by decide) rfl ?_
                        refine j_goto h dX8_goOn_130 (tgt := 27) (by decide) ?_
                        have hi := j_dec c1001
                        have hl := j_toGe c1001
                        subst hq1047 hq1048 hq1057
                        have E : gfX8_goOn (n + 1) σ x1 x2 x3 = gfX8_goOn n (fX8_moveOn (fX8_work σ).2 x3) (fX8_work σ).1 x2 (x3 + (-1)) := j_ig c1001 (j_ip c1002 (j_ig c1017 (j_ig c1032 (j_ig c1049 (j_ip c1050 (j_ig c1053 (j_ig c1056 rfl)))))))
                        rw [E]
                        refine j_lv [2, 3, 0, 4] rfl ?_
                        exact ih (fX8_moveOn (fX8_work σ).2 x3) ((fX8_work σ).1) x2 (x3 + (-1)) (mB.fq (mB.fq hb (fr_fX8_work _)) (fr_fX8_moveOn _ _)) (mv_fX8_moveOn (mB.fq hb (fr_fX8_work _)) (mv_fX8_work hb hv) (m_s (j_toGe c1001) (by omega))) (by omega) (by omega) (by omega)
                      ·
                        exact absurd c1058 (by decide)
                    ·
                      refine j_iconst h (v := 1) dX8_goOn_97 (by decide) ?_
                      refine j_goto h dX8_goOn_98 (tgt := 102) (by decide) ?_
                      refine j_istore h (lv' := [(4, .int 1), (1, .int q1047.1), (2, .int x2), (3, .int x3), (0, .ref (a 0))]) dX8_goOn_102 (by decide) rfl ?_
                      refine j_aload_n h 4 dX8_goOn_104 rfl rfl ?_
                      refine j_iload_n h 3 dX8_goOn_105 rfl rfl ?_
                      refine j_callVv h (kX8_moveOn l D a cI cZ q1047.2 x3 (m_s (j_toGe c1001) (by omega)) (m_s1 (j_toGe c1001) h4)) tb4_174 tb4_176 tp_28 tb1_11 tb4_177 ⟨rfl, rfl⟩ (n := 1) (by decide +kernel) ⟨Nat.le_of_ble_eq_true rfl, Nat.le_of_ble_eq_true rfl⟩ (As := [.int x3]) rfl (ci := 8) (q0 := 0) rfl (mx_c0 _ _ _ q1047.2) (st := []) rfl (Nat.le_of_ble_eq_true rfl) dX8_goOn_106 ⟨Nat.zero_le _, Nat.zero_le _⟩ ?_
                      generalize hq1059 : (fX8_moveOn q1047.2 x3) = q1059
                      refine j_iload h 0 dX8_goOn_109 rfl ?_
                      refine j_if_eq h dX8_goOn_111 (tgt := 127) (by decide) (fun c1060 => ?_) (fun c1060 => ?_)
                      ·
                        exact absurd c1060 (by decide)
                      ·
                        refine j_aload_n h 4 dX8_goOn_114 rfl rfl ?_
                        refine j_iload_n h 3 dX8_goOn_115 rfl rfl ?_
                        refine j_aload_n h 4 dX8_goOn_116 rfl rfl ?_
                        refine j_get h iX8 0 (mx_c0 _ _ _ q1059) rfl 21 (by decide) tb3_225 rfl (v := .ref (a 12)) rfl dX8_goOn_117 ?_
                        refine j_iload_n h 3 dX8_goOn_120 rfl rfl ?_
                        refine j_iconst h (v := 1) dX8_goOn_121 (by decide) ?_
                        refine j_iadd h dX8_goOn_122 ?_
                        refine j_iald h 12 0 (mx_g12 (σ := q1059) (F := (q1059.2 19)) rfl) rfl (m_s1 (j_toGe c1001) h4) dX8_goOn_123 ?_
                        refine j_callVv h (kX8_know l D a cI cZ q1059 x3 ((q1059.2 19) (x3 + 1).toNatClampNeg) (by omega) (mB.w0 (by rw [← hq1059]; exact (mB.fq (by rw [← hq1047]; exact (mB.fq hb (fr_fX8_work _))) (fr_fX8_moveOn _ _))))) tb4_138 tb4_140 tp_19 tb1_11 tb4_141 ⟨rfl, rfl⟩ (n := 2) (by decide +kernel) ⟨Nat.le_of_ble_eq_true rfl, Nat.le_of_ble_eq_true rfl⟩ (As := [.int x3, .int ((q1059.2 19) (x3 + 1).toNatClampNeg)]) rfl (ci := 8) (q0 := 0) rfl (mx_c0 _ _ _ q1059) (st := []) rfl (Nat.le_of_ble_eq_true rfl) dX8_goOn_124 ⟨Nat.zero_le _, Nat.zero_le _⟩ ?_
                        generalize hq1061 : (fX8_know q1059 x3 ((q1059.2 19) (x3 + 1).toNatClampNeg)) = q1061
                        refine j_iinc h 3 (v := (x3 + (-1))) (lv' := [(3, .int (x3 + (-1))), (4, .int 1), (1, .int q1047.1), (2, .int x2), (0, .ref (a 0))]) dX8_goOn_127 rfl (rfl) (by decide) rfl ?_
                        refine j_goto h dX8_goOn_130 (tgt := 27) (by decide) ?_
                        have hi := j_dec c1001
                        have hl := j_toGe c1001
                        subst hq1047 hq1048 hq1059 hq1061
                        have E : gfX8_goOn (n + 1) σ x1 x2 x3 = gfX8_goOn n (fX8_know (fX8_moveOn (fX8_work σ).2 x3) x3 (((fX8_moveOn (fX8_work σ).2 x3).2 19) (x3 + 1).toNatClampNeg)) (fX8_work σ).1 x2 (x3 + (-1)) := j_ig c1001 (j_ip c1002 (j_ig c1017 (j_ig c1032 (j_ig c1049 (j_ip c1050 (j_ig c1053 (j_ip c1056 rfl)))))))
                        rw [E]
                        refine j_lv [2, 3, 0, 4] rfl ?_
                        exact ih (fX8_know (fX8_moveOn (fX8_work σ).2 x3) x3 (((fX8_moveOn (fX8_work σ).2 x3).2 19) (x3 + 1).toNatClampNeg)) ((fX8_work σ).1) x2 (x3 + (-1)) (mB.fq (mB.fq (mB.fq hb (fr_fX8_work _)) (fr_fX8_moveOn _ _)) (fr_fX8_know _ _ _)) (mv_fX8_know (mB.fq (mB.fq hb (fr_fX8_work _)) (fr_fX8_moveOn _ _)) (mv_fX8_moveOn (mB.fq hb (fr_fX8_work _)) (mv_fX8_work hb hv) (m_s (j_toGe c1001) (by omega)))) (by omega) (by omega) (by omega)
  refine j_iconst h (v := 4) dX8_goOn_0 (by decide) ?_
  refine j_istore_n h (lv' := [(1, .int 4), (0, .ref (a 0))]) dX8_goOn_1 rfl (by decide) rfl ?_
  refine j_aload_n h 1 dX8_goOn_2 rfl rfl ?_
  refine j_get h iX8 0 (mx_c0 _ _ _ σ) rfl 15 (by decide) tb3_219 rfl (v := .ref (a 6)) rfl dX8_goOn_3 ?_
  refine j_aload_n h 1 dX8_goOn_6 rfl rfl ?_
  refine j_get h iX8 0 (mx_c0 _ _ _ σ) rfl 2 (by decide) tb3_206 rfl (v := .int (σ.1 1)) rfl dX8_goOn_7 ?_
  refine j_iald h 6 0 (mx_g6 (σ := σ) (F := (σ.2 5)) rfl) rfl hb.1.r8 dX8_goOn_10 ?_
  refine j_if_lt h dX8_goOn_11 (tgt := 18) (by decide) (fun c1 => ?_) (fun c1 => ?_)
  ·
    refine j_iconst h (v := 0) dX8_goOn_18 (by decide) ?_
    refine j_istore_n h (lv' := [(2, .int 0), (1, .int 4), (0, .ref (a 0))]) dX8_goOn_19 rfl (by decide) rfl ?_
    refine j_aload_n h 2 dX8_goOn_20 rfl rfl ?_
    refine j_get h iX8 0 (mx_c0 _ _ _ σ) rfl 1 (by decide) tb3_205 rfl (v := .int (σ.1 0)) rfl dX8_goOn_21 ?_
    refine j_iconst h (v := 2) dX8_goOn_24 (by decide) ?_
    refine j_isub h dX8_goOn_25 ?_
    refine j_istore_n h (lv' := [(3, .int ((σ.1 0) - 2)), (2, .int 0), (1, .int 4), (0, .ref (a 0))]) dX8_goOn_26 rfl (by decide) rfl ?_
    have E : fX8_goOn σ = gfX8_goOn 9 σ 4 0 ((σ.1 0) - 2) := j_ip c1 rfl
    rw [E]
    refine j_lv [2, 1, 0, 3] rfl ?_
    exact loop 9 σ 4 0 ((σ.1 0) - 2) hb hv hb.1.two.1 hb.1.two.2 (by have := hb.1.two.2; omega)
  ·
    refine j_iconst h (v := 1) dX8_goOn_14 (by decide) ?_
    refine j_goto h dX8_goOn_15 (tgt := 19) (by decide) ?_
    refine j_istore_n h (lv' := [(2, .int 1), (1, .int 4), (0, .ref (a 0))]) dX8_goOn_19 rfl (by decide) rfl ?_
    refine j_aload_n h 2 dX8_goOn_20 rfl rfl ?_
    refine j_get h iX8 0 (mx_c0 _ _ _ σ) rfl 1 (by decide) tb3_205 rfl (v := .int (σ.1 0)) rfl dX8_goOn_21 ?_
    refine j_iconst h (v := 2) dX8_goOn_24 (by decide) ?_
    refine j_isub h dX8_goOn_25 ?_
    refine j_istore_n h (lv' := [(3, .int ((σ.1 0) - 2)), (2, .int 1), (1, .int 4), (0, .ref (a 0))]) dX8_goOn_26 rfl (by decide) rfl ?_
    have E : fX8_goOn σ = gfX8_goOn 9 σ 4 1 ((σ.1 0) - 2) := j_ig c1 rfl
    rw [E]
    refine j_lv [2, 1, 0, 3] rfl ?_
    exact loop 9 σ 4 1 ((σ.1 0) - 2) hb hv hb.1.two.1 hb.1.two.2 (by have := hb.1.two.2; omega)
