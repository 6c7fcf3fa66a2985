def rmX8_modulo : Room := { frames := 0, cells := 0, slots := 0, locals := 0 }
set_option maxRecDepth 100000 in
set_option maxHeartbeats 4000000 in
theorem kX8_modulo (l : Launch) (D : va_G) (cI cZ : ClassId) (x1 x2 : Int32) (h9 : ¬ x2 = 0) : Ci l yX8_modulo cX8_modulo 2 (some .int) TB rmX8_modulo D vwCl [(cI, .int), (cZ, .boolean)] [.int x1, .int x2] [] [] (fX8_modulo x1 x2) := by
  refine Ci_of (cc := cX8_modulo) (maxL := 2) (ret := (some .int)) (by decide +kernel) TBg (Nat.le_of_ble_eq_true rfl) ?_
  intro p e s m args below meth c A h hr
  refine j_iload_n h 0 dX8_modulo_0 rfl rfl ?_
  refine j_iload_n h 1 dX8_modulo_1 rfl rfl ?_
  refine j_irem h dX8_modulo_2 h9 ?_
  refine j_iload_n h 1 dX8_modulo_3 rfl rfl ?_
  refine j_iadd h dX8_modulo_4 ?_
  refine j_iload_n h 1 dX8_modulo_5 rfl rfl ?_
  refine j_irem h dX8_modulo_6 h9 ?_
  have E : fX8_modulo x1 x2 = (((x1 - x1 / x2 * x2) + x2) - ((x1 - x1 / x2 * x2) + x2) / x2 * x2) := rfl
  exact j_ireturn h hr E.symm rfl dX8_modulo_7
def rmX8_within : Room := { frames := 0, cells := 0, slots := 0, locals := 0 }
set_option maxRecDepth 100000 in
set_option maxHeartbeats 4000000 in
theorem kX8_within (l : Launch) (D : va_G) (cI cZ : ClassId) (x1 x2 x3 : Int32) : Ci l yX8_within cX8_within 3 (some .boolean) TB rmX8_within D vwCl [(cI, .int), (cZ, .boolean)] [.int x1, .int x2, .int x3] [] [] (fX8_within x1 x2 x3) := by
  refine Ci_of (cc := cX8_within) (maxL := 3) (ret := (some .boolean)) (by decide +kernel) TBg (Nat.le_of_ble_eq_true rfl) ?_
  intro p e s m args below meth c A h hr
  refine j_iload_n h 0 dX8_within_0 rfl rfl ?_
  refine j_iload_n h 1 dX8_within_1 rfl rfl ?_
  refine j_icmp_lt h dX8_within_2 (tgt := 14) (by decide) (fun c1 => ?_) (fun c1 => ?_)
  ·
    refine j_iconst h (v := 0) dX8_within_14 (by decide) ?_
    have E : fX8_within x1 x2 x3 = 0 := j_ip c1 rfl
    exact j_zreturn h hr (by decide) E.symm rfl dX8_within_15
  ·
    refine j_iload_n h 0 dX8_within_5 rfl rfl ?_
    refine j_iload_n h 2 dX8_within_6 rfl rfl ?_
    refine j_icmp_gt h dX8_within_7 (tgt := 14) (by decide) (fun c2 => ?_) (fun c2 => ?_)
    ·
      refine j_iconst h (v := 0) dX8_within_14 (by decide) ?_
      have E : fX8_within x1 x2 x3 = 0 := j_ig c1 (j_ip c2 rfl)
      exact j_zreturn h hr (by decide) E.symm rfl dX8_within_15
    ·
      refine j_iconst h (v := 1) dX8_within_10 (by decide) ?_
      refine j_goto h dX8_within_11 (tgt := 15) (by decide) ?_
      have E : fX8_within x1 x2 x3 = 1 := j_ig c1 (j_ig c2 rfl)
      exact j_zreturn h hr (by decide) E.symm rfl dX8_within_15
def rmX8_isRegister : Room := { frames := 1, cells := 0, slots := 0, locals := 22 }
set_option maxRecDepth 100000 in
set_option maxHeartbeats 4000000 in
theorem kX8_isRegister (l : Launch) (D : va_G) (cI cZ : ClassId) (x1 : Int32) : Ci l yX8_isRegister cX8_isRegister 1 (some .boolean) TB rmX8_isRegister D vwCl [(cI, .int), (cZ, .boolean)] [.int x1] [] [] (fX8_isRegister x1) := by
  refine Ci_of (cc := cX8_isRegister) (maxL := 1) (ret := (some .boolean)) (by decide +kernel) TBg (Nat.le_of_ble_eq_true rfl) ?_
  intro p e s m args below meth c A h hr
  refine j_iload_n h 0 dX8_isRegister_0 rfl rfl ?_
  refine j_iconst h (v := 0) dX8_isRegister_1 (by decide) ?_
  refine j_bipush h (v := 7) dX8_isRegister_2 (by decide) ?_
  refine j_callSi0 h (kX8_within l D cI cZ x1 0 7) tb4_96 tb4_97 tb1_11 tb4_98 ⟨rfl, rfl⟩ (n := 3) (by decide +kernel) ⟨Nat.le_of_ble_eq_true rfl, Nat.le_of_ble_eq_true rfl⟩ (As := [.int x1, .int 0, .int 7]) rfl (st := []) rfl (Nat.le_of_ble_eq_true rfl) dX8_isRegister_4 ⟨Nat.zero_le _, Nat.zero_le _⟩ ?_
  generalize hq1 : (fX8_within x1 0 7) = q1
  subst hq1
  have E : fX8_isRegister x1 = (fX8_within x1 0 7) := rfl
  exact j_zreturn h hr (m_zw _ _ _) E.symm rfl dX8_isRegister_7
def rmX8_thrown : Room := { frames := 0, cells := 0, slots := 0, locals := 0 }
set_option maxRecDepth 100000 in
set_option maxHeartbeats 4000000 in
theorem kX8_thrown (l : Launch) (D : va_G) (a : Nat → Nat) (cI cZ : ClassId) (σ : St) : Ci l yX8_thrown cX8_thrown 1 (some .int) TB rmX8_thrown D vwCl [(cI, .int), (cZ, .boolean)] [.ref (a 0)] (mx a cI cZ σ) (mx a cI cZ σ) (fX8_thrown σ) := by
  refine Ci_of (cc := cX8_thrown) (maxL := 1) (ret := (some .int)) (by decide +kernel) TBg (Nat.le_of_ble_eq_true rfl) ?_
  intro p e s m args below meth c A h hr
  refine j_aload_n h 0 dX8_thrown_0 rfl rfl ?_
  refine j_get h iX8 0 (mx_c0 _ _ _ σ) rfl 0 (by decide) tb3_204 rfl (v := .int (σ.1 22)) rfl dX8_thrown_1 ?_
  have E : fX8_thrown σ = (σ.1 22) := rfl
  exact j_ireturn h hr E.symm rfl dX8_thrown_4
def rmX8_fail : Room := { frames := 0, cells := 0, slots := 0, locals := 0 }
set_option maxRecDepth 100000 in
set_option maxHeartbeats 4000000 in
theorem kX8_fail (l : Launch) (D : va_G) (a : Nat → Nat) (cI cZ : ClassId) (σ : St) (x1 : Int32) : Ci l yX8_fail cX8_fail 2 (some .int) TB rmX8_fail D vwCl [(cI, .int), (cZ, .boolean)] [.ref (a 0), .int x1] (mx a cI cZ σ) (mx a cI cZ (fX8_fail σ x1).2) (fX8_fail σ x1).1 := by
  refine Ci_of (cc := cX8_fail) (maxL := 2) (ret := (some .int)) (by decide +kernel) TBg (Nat.le_of_ble_eq_true rfl) ?_
  intro p e s m args below meth c A h hr
  refine j_aload_n h 0 dX8_fail_0 rfl rfl ?_
  refine j_iload_n h 1 dX8_fail_1 rfl rfl ?_
  refine j_put h iX8 tyX8 tyX8_ok nmX8 0 (mx_c0 _ _ _ σ) rfl 0 (by decide) tb3_204 rfl rfl rfl rfl (Nat.le_of_ble_eq_true rfl) (w' := (mx a cI cZ (sg σ 22 x1))) (mx_p0_0 _ _ _ σ _) dX8_fail_2 ?_
  refine j_iconst h (v := 0) dX8_fail_5 (by decide) ?_
  have E : fX8_fail σ x1 = (0, (sg σ 22 x1)) := rfl
  exact j_ireturn h hr (congrArg Prod.fst E).symm (congrArg (fun z => mx a cI cZ z.2) E).symm dX8_fail_6
def rmX8_begin : Room := { frames := 0, cells := 0, slots := 0, locals := 0 }
set_option maxRecDepth 100000 in
set_option maxHeartbeats 4000000 in
theorem kX8_begin (l : Launch) (D : va_G) (a : Nat → Nat) (cI cZ : ClassId) (σ : St) : Cv l yX8_begin cX8_begin 2 none TB rmX8_begin D vwCl [(cI, .int), (cZ, .boolean)] [.ref (a 0)] (mx a cI cZ σ) (fun _ => (mx a cI cZ (fX8_begin σ))) 0 0 := by
  refine Cv_of (cc := cX8_begin) (maxL := 2) (ret := none) (by decide +kernel) TBg (Nat.le_of_ble_eq_true rfl) ?_
  intro p e s m args below meth c A h hr hname
  have loop2 : ∀ (n : Nat) (σ : St) (x1 : Int32), 0 ≤ x1.toInt → x1.toInt ≤ 5 → 5 < x1.toInt + n → J p l e rmX8_begin s m args below meth c D vwCl A 2 0 0 (MQ below (jEv D vwCl [(cI, .int), (cZ, .boolean)] A (fun _ => mx a cI cZ (gfX8_begin2 n σ x1))) args s 0 0 A) (mx a cI cZ σ) 120 [(1, .int x1), (0, .ref (a 0))] [] := by
    intro n
    induction n with
    | zero => intro σ x1 h1 h2 h3; exact absurd h3 (by omega)
    | succ n ih =>
      intro σ x1 h1 h2 h3
      refine j_iload_n h 0 dX8_begin_120 rfl rfl ?_
      refine j_iconst h (v := 5) dX8_begin_121 (by decide) ?_
      refine j_icmp_ge h dX8_begin_122 (tgt := 138) (by decide) (fun c3001 => ?_) (fun c3001 => ?_)
      ·
        have E : gfX8_begin2 (n + 1) σ x1 = σ := j_ip c3001 rfl
        exact j_vreturn h hr (fun _ => 0) (congrArg (mx a cI cZ) E).symm dX8_begin_138
      ·
        refine j_aload_n h 1 dX8_begin_125 rfl rfl ?_
        refine j_get h iX8 0 (mx_c0 _ _ _ σ) rfl 37 (by decide) tb4_1 rfl (v := .ref (a 17)) rfl dX8_begin_126 ?_
        refine j_iload_n h 0 dX8_begin_129 rfl rfl ?_
        refine j_iconst h (v := 0) dX8_begin_130 (by decide) ?_
        refine j_iast h 17 0 (mx_g17 (σ := σ) (F := (σ.2 11)) rfl) rfl (j_in5 (j_lo0 h1) (j_hi1 c3001)) (w' := (mx a cI cZ (ar σ 11 (upd (σ.2 11) x1.toNatClampNeg 0)))) (mx_s17 _ _ _ σ _) dX8_begin_131 ?_
        refine j_iinc h 0 (v := (x1 + 1)) (lv' := [(1, .int (x1 + 1)), (0, .ref (a 0))]) dX8_begin_132 rfl (rfl) (by decide) rfl ?_
        refine j_goto h dX8_begin_135 (tgt := 120) (by decide) ?_
        have hi := j_inc (j_hi1 c3001)
        have hl := j_toLt c3001
        have h8 : (5 : Int32).toInt = 5 := by decide
        have E : gfX8_begin2 (n + 1) σ x1 = gfX8_begin2 n (ar σ 11 (upd (σ.2 11) x1.toNatClampNeg 0)) (x1 + 1) := j_ig c3001 rfl
        rw [E]
        refine j_lv [0, 1] rfl ?_
        exact ih (ar σ 11 (upd (σ.2 11) x1.toNatClampNeg 0)) (x1 + 1) (by omega) (by omega) (by omega)
  have loop1 : ∀ (n : Nat) (σ : St) (x1 : Int32), 0 ≤ x1.toInt → x1.toInt ≤ 64 → 64 < x1.toInt + n → J p l e rmX8_begin s m args below meth c D vwCl A 2 0 0 (MQ below (jEv D vwCl [(cI, .int), (cZ, .boolean)] A (fun _ => mx a cI cZ (gfX8_begin1 n σ x1))) args s 0 0 A) (mx a cI cZ σ) 92 [(1, .int x1), (0, .ref (a 0))] [] := by
    intro n
    induction n with
    | zero => intro σ x1 h1 h2 h3; exact absurd h3 (by omega)
    | succ n ih =>
      intro σ x1 h1 h2 h3
      refine j_iload_n h 0 dX8_begin_92 rfl rfl ?_
      refine j_bipush h (v := 64) dX8_begin_93 (by decide) ?_
      refine j_icmp_ge h dX8_begin_95 (tgt := 118) (by decide) (fun c2001 => ?_) (fun c2001 => ?_)
      ·
        refine j_iconst h (v := 0) dX8_begin_118 (by decide) ?_
        refine j_istore_n h (lv' := [(1, .int 0), (0, .ref (a 0))]) dX8_begin_119 rfl (by decide) rfl ?_
        have E : gfX8_begin1 (n + 1) σ x1 = gfX8_begin2 6 σ 0 := j_ip c2001 rfl
        rw [E]
        refine j_lv [0, 1] rfl ?_
        exact loop2 6 σ 0 (by decide) (by decide) (by decide)
      ·
        refine j_aload_n h 1 dX8_begin_98 rfl rfl ?_
        refine j_get h iX8 0 (mx_c0 _ _ _ σ) rfl 23 (by decide) tb3_227 rfl (v := .ref (a 14)) rfl dX8_begin_99 ?_
        refine j_iload_n h 0 dX8_begin_102 rfl rfl ?_
        refine j_iconst h (v := 0) dX8_begin_103 (by decide) ?_
        refine j_iast h 14 0 (mx_g14 (σ := σ) (F := (σ.2 13)) rfl) rfl (j_in64 (j_lo0 h1) (j_hi1 c2001)) (w' := (mx a cI cZ (ar σ 13 (upd (σ.2 13) x1.toNatClampNeg 0)))) (mx_s14 _ _ _ σ _) dX8_begin_104 ?_
        refine j_aload_n h 1 dX8_begin_105 rfl rfl ?_
        refine j_get h iX8 0 (mx_c0 _ _ _ (ar σ 13 (upd (σ.2 13) x1.toNatClampNeg 0))) rfl 25 (by decide) tb3_229 rfl (v := .ref (a 16)) rfl dX8_begin_106 ?_
        refine j_iload_n h 0 dX8_begin_109 rfl rfl ?_
        refine j_iconst h (v := 0) dX8_begin_110 (by decide) ?_
        refine j_iast h 16 0 (mx_g16 (σ := (ar σ 13 (upd (σ.2 13) x1.toNatClampNeg 0))) (F := (σ.2 15)) rfl) rfl (j_in64 (j_lo0 h1) (j_hi1 c2001)) (w' := (mx a cI cZ (ar (ar σ 13 (upd (σ.2 13) x1.toNatClampNeg 0)) 15 (upd (σ.2 15) x1.toNatClampNeg 0)))) (mx_s16 _ _ _ (ar σ 13 (upd (σ.2 13) x1.toNatClampNeg 0)) _) dX8_begin_111 ?_
        refine j_iinc h 0 (v := (x1 + 1)) (lv' := [(1, .int (x1 + 1)), (0, .ref (a 0))]) dX8_begin_112 rfl (rfl) (by decide) rfl ?_
        refine j_goto h dX8_begin_115 (tgt := 92) (by decide) ?_
        have hi := j_inc (j_hi1 c2001)
        have hl := j_toLt c2001
        have h8 : (64 : Int32).toInt = 64 := by decide
        have E : gfX8_begin1 (n + 1) σ x1 = gfX8_begin1 n (ar (ar σ 13 (upd (σ.2 13) x1.toNatClampNeg 0)) 15 (upd (σ.2 15) x1.toNatClampNeg 0)) (x1 + 1) := j_ig c2001 rfl
        rw [E]
        refine j_lv [0, 1] rfl ?_
        exact ih (ar (ar σ 13 (upd (σ.2 13) x1.toNatClampNeg 0)) 15 (upd (σ.2 15) x1.toNatClampNeg 0)) (x1 + 1) (by omega) (by omega) (by omega)
  have loop0 : ∀ (n : Nat) (σ : St) (x1 : Int32), 0 ≤ x1.toInt → x1.toInt ≤ 8 → 8 < x1.toInt + n → J p l e rmX8_begin s m args below meth c D vwCl A 2 0 0 (MQ below (jEv D vwCl [(cI, .int), (cZ, .boolean)] A (fun _ => mx a cI cZ (gfX8_begin0 n σ x1))) args s 0 0 A) (mx a cI cZ σ) 57 [(1, .int x1), (0, .ref (a 0))] [] := by
    intro n
    induction n with
    | zero => intro σ x1 h1 h2 h3; exact absurd h3 (by omega)
    | succ n ih =>
      intro σ x1 h1 h2 h3
      refine j_iload_n h 0 dX8_begin_57 rfl rfl ?_
      refine j_bipush h (v := 8) dX8_begin_58 (by decide) ?_
      refine j_icmp_ge h dX8_begin_60 (tgt := 90) (by decide) (fun c1001 => ?_) (fun c1001 => ?_)
      ·
        refine j_iconst h (v := 0) dX8_begin_90 (by decide) ?_
        refine j_istore_n h (lv' := [(1, .int 0), (0, .ref (a 0))]) dX8_begin_91 rfl (by decide) rfl ?_
        have E : gfX8_begin0 (n + 1) σ x1 = gfX8_begin1 65 σ 0 := j_ip c1001 rfl
        rw [E]
        refine j_lv [0, 1] rfl ?_
        exact loop1 65 σ 0 (by decide) (by decide) (by decide)
      ·
        refine j_aload_n h 1 dX8_begin_63 rfl rfl ?_
        refine j_get h iX8 0 (mx_c0 _ _ _ σ) rfl 15 (by decide) tb3_219 rfl (v := .ref (a 6)) rfl dX8_begin_64 ?_
        refine j_iload_n h 0 dX8_begin_67 rfl rfl ?_
        refine j_iconst h (v := (-1)) dX8_begin_68 (by decide) ?_
        refine j_iast h 6 0 (mx_g6 (σ := σ) (F := (σ.2 5)) rfl) rfl (j_in8 (j_lo0 h1) (j_hi1 c1001)) (w' := (mx a cI cZ (ar σ 5 (upd (σ.2 5) x1.toNatClampNeg (-1))))) (mx_s6 _ _ _ σ _) dX8_begin_69 ?_
        refine j_aload_n h 1 dX8_begin_70 rfl rfl ?_
        refine j_get h iX8 0 (mx_c0 _ _ _ (ar σ 5 (upd (σ.2 5) x1.toNatClampNeg (-1)))) rfl 22 (by decide) tb3_226 rfl (v := .ref (a 13)) rfl dX8_begin_71 ?_
        refine j_iload_n h 0 dX8_begin_74 rfl rfl ?_
        refine j_iconst h (v := 0) dX8_begin_75 (by decide) ?_
        refine j_iast h 13 0 (mx_g13 (σ := (ar σ 5 (upd (σ.2 5) x1.toNatClampNeg (-1)))) (F := (σ.2 12)) rfl) rfl (j_in8 (j_lo0 h1) (j_hi1 c1001)) (w' := (mx a cI cZ (ar (ar σ 5 (upd (σ.2 5) x1.toNatClampNeg (-1))) 12 (upd (σ.2 12) x1.toNatClampNeg 0)))) (mx_s13 _ _ _ (ar σ 5 (upd (σ.2 5) x1.toNatClampNeg (-1))) _) dX8_begin_76 ?_
        refine j_aload_n h 1 dX8_begin_77 rfl rfl ?_
        refine j_get h iX8 0 (mx_c0 _ _ _ (ar (ar σ 5 (upd (σ.2 5) x1.toNatClampNeg (-1))) 12 (upd (σ.2 12) x1.toNatClampNeg 0))) rfl 24 (by decide) tb3_228 rfl (v := .ref (a 15)) rfl dX8_begin_78 ?_
        refine j_iload_n h 0 dX8_begin_81 rfl rfl ?_
        refine j_iconst h (v := 0) dX8_begin_82 (by decide) ?_
        refine j_iast h 15 0 (mx_g15 (σ := (ar (ar σ 5 (upd (σ.2 5) x1.toNatClampNeg (-1))) 12 (upd (σ.2 12) x1.toNatClampNeg 0))) (F := (σ.2 14)) rfl) rfl (j_in8 (j_lo0 h1) (j_hi1 c1001)) (w' := (mx a cI cZ (ar (ar (ar σ 5 (upd (σ.2 5) x1.toNatClampNeg (-1))) 12 (upd (σ.2 12) x1.toNatClampNeg 0)) 14 (upd (σ.2 14) x1.toNatClampNeg 0)))) (mx_s15 _ _ _ (ar (ar σ 5 (upd (σ.2 5) x1.toNatClampNeg (-1))) 12 (upd (σ.2 12) x1.toNatClampNeg 0)) _) dX8_begin_83 ?_
        refine j_iinc h 0 (v := (x1 + 1)) (lv' := [(1, .int (x1 + 1)), (0, .ref (a 0))]) dX8_begin_84 rfl (rfl) (by decide) rfl ?_
        refine j_goto h dX8_begin_87 (tgt := 57) (by decide) ?_
        have hi := j_inc (j_hi1 c1001)
        have hl := j_toLt c1001
        have h8 : (8 : Int32).toInt = 8 := by decide
        have E : gfX8_begin0 (n + 1) σ x1 = gfX8_begin0 n (ar (ar (ar σ 5 (upd (σ.2 5) x1.toNatClampNeg (-1))) 12 (upd (σ.2 12) x1.toNatClampNeg 0)) 14 (upd (σ.2 14) x1.toNatClampNeg 0)) (x1 + 1) := j_ig c1001 rfl
        rw [E]
        refine j_lv [0, 1] rfl ?_
        exact ih (ar (ar (ar σ 5 (upd (σ.2 5) x1.toNatClampNeg (-1))) 12 (upd (σ.2 12) x1.toNatClampNeg 0)) 14 (upd (σ.2 14) x1.toNatClampNeg 0)) (x1 + 1) (by omega) (by omega) (by omega)
  refine j_aload_n h 0 dX8_begin_0 rfl rfl ?_
  refine j_iconst h (v := 0) dX8_begin_1 (by decide) ?_
  refine j_put h iX8 tyX8 tyX8_ok nmX8 0 (mx_c0 _ _ _ σ) rfl 9 (by decide) tb3_213 rfl rfl rfl rfl (Nat.le_of_ble_eq_true rfl) (w' := (mx a cI cZ (sg σ 6 0))) (mx_p0_9 _ _ _ σ _) dX8_begin_2 ?_
  refine j_aload_n h 0 dX8_begin_5 rfl rfl ?_
  refine j_iconst h (v := 0) dX8_begin_6 (by decide) ?_
  refine j_put h iX8 tyX8 tyX8_ok nmX8 0 (mx_c0 _ _ _ (sg σ 6 0)) rfl 26 (by decide) tb3_230 rfl rfl rfl rfl (Nat.le_of_ble_eq_true rfl) (w' := (mx a cI cZ (sg (sg σ 6 0) 18 0))) (mx_p0_26 _ _ _ (sg σ 6 0) _) dX8_begin_7 ?_
  refine j_aload_n h 0 dX8_begin_10 rfl rfl ?_
  refine j_iconst h (v := 0) dX8_begin_11 (by decide) ?_
  refine j_put h iX8 tyX8 tyX8_ok nmX8 0 (mx_c0 _ _ _ (sg (sg σ 6 0) 18 0)) rfl 27 (by decide) tb3_231 rfl rfl rfl rfl (Nat.le_of_ble_eq_true rfl) (w' := (mx a cI cZ (sg (sg (sg σ 6 0) 18 0) 19 0))) (mx_p0_27 _ _ _ (sg (sg σ 6 0) 18 0) _) dX8_begin_12 ?_
  refine j_aload_n h 0 dX8_begin_15 rfl rfl ?_
  refine j_iconst h (v := 0) dX8_begin_16 (by decide) ?_
  refine j_put h iX8 tyX8 tyX8_ok nmX8 0 (mx_c0 _ _ _ (sg (sg (sg σ 6 0) 18 0) 19 0)) rfl 28 (by decide) tb3_232 rfl rfl rfl rfl (Nat.le_of_ble_eq_true rfl) (w' := (mx a cI cZ (sg (sg (sg (sg σ 6 0) 18 0) 19 0) 20 0))) (mx_p0_28 _ _ _ (sg (sg (sg σ 6 0) 18 0) 19 0) _) dX8_begin_17 ?_
  refine j_aload_n h 0 dX8_begin_20 rfl rfl ?_
  refine j_iconst h (v := 0) dX8_begin_21 (by decide) ?_
  refine j_put h iX8 tyX8 tyX8_ok nmX8 0 (mx_c0 _ _ _ (sg (sg (sg (sg σ 6 0) 18 0) 19 0) 20 0)) rfl 29 (by decide) tb3_233 rfl rfl rfl rfl (Nat.le_of_ble_eq_true rfl) (w' := (mx a cI cZ (sg (sg (sg (sg (sg σ 6 0) 18 0) 19 0) 20 0) 15 0))) (mx_p0_29 _ _ _ (sg (sg (sg (sg σ 6 0) 18 0) 19 0) 20 0) _) dX8_begin_22 ?_
  refine j_aload_n h 0 dX8_begin_25 rfl rfl ?_
  refine j_iconst h (v := 0) dX8_begin_26 (by decide) ?_
  refine j_put h iX8 tyX8 tyX8_ok nmX8 0 (mx_c0 _ _ _ (sg (sg (sg (sg (sg σ 6 0) 18 0) 19 0) 20 0) 15 0)) rfl 31 (by decide) tb3_235 rfl rfl rfl rfl (Nat.le_of_ble_eq_true rfl) (w' := (mx a cI cZ (sg (sg (sg (sg (sg (sg σ 6 0) 18 0) 19 0) 20 0) 15 0) 9 0))) (mx_p0_31 _ _ _ (sg (sg (sg (sg (sg σ 6 0) 18 0) 19 0) 20 0) 15 0) _) dX8_begin_27 ?_
  refine j_aload_n h 0 dX8_begin_30 rfl rfl ?_
  refine j_iconst h (v := 0) dX8_begin_31 (by decide) ?_
  refine j_put h iX8 tyX8 tyX8_ok nmX8 0 (mx_c0 _ _ _ (sg (sg (sg (sg (sg (sg σ 6 0) 18 0) 19 0) 20 0) 15 0) 9 0)) rfl 32 (by decide) tb3_236 rfl rfl rfl rfl (Nat.le_of_ble_eq_true rfl) (w' := (mx a cI cZ (sg (sg (sg (sg (sg (sg (sg σ 6 0) 18 0) 19 0) 20 0) 15 0) 9 0) 10 0))) (mx_p0_32 _ _ _ (sg (sg (sg (sg (sg (sg σ 6 0) 18 0) 19 0) 20 0) 15 0) 9 0) _) dX8_begin_32 ?_
  refine j_aload_n h 0 dX8_begin_35 rfl rfl ?_
  refine j_iconst h (v := 0) dX8_begin_36 (by decide) ?_
  refine j_put h iX8 tyX8 tyX8_ok nmX8 0 (mx_c0 _ _ _ (sg (sg (sg (sg (sg (sg (sg σ 6 0) 18 0) 19 0) 20 0) 15 0) 9 0) 10 0)) rfl 33 (by decide) tb3_237 rfl rfl rfl rfl (Nat.le_of_ble_eq_true rfl) (w' := (mx a cI cZ (sg (sg (sg (sg (sg (sg (sg (sg σ 6 0) 18 0) 19 0) 20 0) 15 0) 9 0) 10 0) 11 0))) (mx_p0_33 _ _ _ (sg (sg (sg (sg (sg (sg (sg σ 6 0) 18 0) 19 0) 20 0) 15 0) 9 0) 10 0) _) dX8_begin_37 ?_
  refine j_aload_n h 0 dX8_begin_40 rfl rfl ?_
  refine j_iconst h (v := 0) dX8_begin_41 (by decide) ?_
  refine j_put h iX8 tyX8 tyX8_ok nmX8 0 (mx_c0 _ _ _ (sg (sg (sg (sg (sg (sg (sg (sg σ 6 0) 18 0) 19 0) 20 0) 15 0) 9 0) 10 0) 11 0)) rfl 34 (by decide) tb3_238 rfl rfl rfl rfl (Nat.le_of_ble_eq_true rfl) (w' := (mx a cI cZ (sg (sg (sg (sg (sg (sg (sg (sg (sg σ 6 0) 18 0) 19 0) 20 0) 15 0) 9 0) 10 0) 11 0) 12 0))) (mx_p0_34 _ _ _ (sg (sg (sg (sg (sg (sg (sg (sg σ 6 0) 18 0) 19 0) 20 0) 15 0) 9 0) 10 0) 11 0) _) dX8_begin_42 ?_
  refine j_aload_n h 0 dX8_begin_45 rfl rfl ?_
  refine j_iconst h (v := 0) dX8_begin_46 (by decide) ?_
  refine j_put h iX8 tyX8 tyX8_ok nmX8 0 (mx_c0 _ _ _ (sg (sg (sg (sg (sg (sg (sg (sg (sg σ 6 0) 18 0) 19 0) 20 0) 15 0) 9 0) 10 0) 11 0) 12 0)) rfl 35 (by decide) tb3_239 rfl rfl rfl rfl (Nat.le_of_ble_eq_true rfl) (w' := (mx a cI cZ (sg (sg (sg (sg (sg (sg (sg (sg (sg (sg σ 6 0) 18 0) 19 0) 20 0) 15 0) 9 0) 10 0) 11 0) 12 0) 13 0))) (mx_p0_35 _ _ _ (sg (sg (sg (sg (sg (sg (sg (sg (sg σ 6 0) 18 0) 19 0) 20 0) 15 0) 9 0) 10 0) 11 0) 12 0) _) dX8_begin_47 ?_
  refine j_aload_n h 0 dX8_begin_50 rfl rfl ?_
  refine j_iconst h (v := 0) dX8_begin_51 (by decide) ?_
  refine j_put h iX8 tyX8 tyX8_ok nmX8 0 (mx_c0 _ _ _ (sg (sg (sg (sg (sg (sg (sg (sg (sg (sg σ 6 0) 18 0) 19 0) 20 0) 15 0) 9 0) 10 0) 11 0) 12 0) 13 0)) rfl 36 (by decide) tb4_0 rfl rfl rfl rfl (Nat.le_of_ble_eq_true rfl) (w' := (mx a cI cZ (sg (sg (sg (sg (sg (sg (sg (sg (sg (sg (sg σ 6 0) 18 0) 19 0) 20 0) 15 0) 9 0) 10 0) 11 0) 12 0) 13 0) 14 0))) (mx_p0_36 _ _ _ (sg (sg (sg (sg (sg (sg (sg (sg (sg (sg σ 6 0) 18 0) 19 0) 20 0) 15 0) 9 0) 10 0) 11 0) 12 0) 13 0) _) dX8_begin_52 ?_
  refine j_iconst h (v := 0) dX8_begin_55 (by decide) ?_
  refine j_istore_n h (lv' := [(1, .int 0), (0, .ref (a 0))]) dX8_begin_56 rfl (by decide) rfl ?_
  have E : fX8_begin σ = gfX8_begin0 9 (sg (sg (sg (sg (sg (sg (sg (sg (sg (sg (sg σ 6 0) 18 0) 19 0) 20 0) 15 0) 9 0) 10 0) 11 0) 12 0) 13 0) 14 0) 0 := rfl
  rw [E]
  refine j_lv [0, 1] rfl ?_
  exact loop0 9 (sg (sg (sg (sg (sg (sg (sg (sg (sg (sg (sg σ 6 0) 18 0) 19 0) 20 0) 15 0) 9 0) 10 0) 11 0) 12 0) 13 0) 14 0) 0 (by decide) (by decide) (by decide)
def rmX8_word : Room := { frames := 2, cells := 0, slots := 0, locals := 42 }
set_option maxRecDepth 100000 in
set_option maxHeartbeats 4000000 in
theorem kX8_word (l : Launch) (D : va_G) (a : Nat → Nat) (cI cZ : ClassId) (σ : St) (x1 x2 x3 x4 x5 : Int32) (h6 : 0 ≤ (σ.1 6).toInt ∧ (σ.1 6).toInt ≤ 64) : Ci l yX8_word cX8_word 6 (some .int) TB rmX8_word D vwCl [(cI, .int), (cZ, .boolean)] [.ref (a 0), .int x1, .int x2, .int x3, .int x4, .int x5] (mx a cI cZ σ) (mx a cI cZ (fX8_word σ x1 x2 x3 x4 x5).2) (fX8_word σ x1 x2 x3 x4 x5).1 := by
  refine Ci_of (cc := cX8_word) (maxL := 6) (ret := (some .int)) (by decide +kernel) TBg (Nat.le_of_ble_eq_true rfl) ?_
  intro p e s m args below meth c A h hr
  refine j_aload_n h 0 dX8_word_0 rfl rfl ?_
  refine j_iconst h (v := 0) dX8_word_1 (by decide) ?_
  refine j_put h iX8 tyX8 tyX8_ok nmX8 0 (mx_c0 _ _ _ σ) rfl 0 (by decide) tb3_204 rfl rfl rfl rfl (Nat.le_of_ble_eq_true rfl) (w' := (mx a cI cZ (sg σ 22 0))) (mx_p0_0 _ _ _ σ _) dX8_word_2 ?_
  refine j_iload_n h 1 dX8_word_5 rfl rfl ?_
  refine j_iconst h (v := 0) dX8_word_6 (by decide) ?_
  refine j_bipush h (v := 7) dX8_word_7 (by decide) ?_
  refine j_callSi0 h (kX8_within l D cI cZ x1 0 7) tb4_96 tb4_97 tb1_11 tb4_98 ⟨rfl, rfl⟩ (n := 3) (by decide +kernel) ⟨Nat.le_of_ble_eq_true rfl, Nat.le_of_ble_eq_true rfl⟩ (As := [.int x1, .int 0, .int 7]) rfl (st := []) rfl (Nat.le_of_ble_eq_true rfl) dX8_word_9 ⟨Nat.zero_le _, Nat.zero_le _⟩ ?_
  generalize hq1 : (fX8_within x1 0 7) = q1
  refine j_if_eq h dX8_word_12 (tgt := 37) (by decide) (fun c2 => ?_) (fun c2 => ?_)
  ·
    refine j_aload_n h 0 dX8_word_37 rfl rfl ?_
    refine j_iconst h (v := 1) dX8_word_38 (by decide) ?_
    refine j_callVi h (kX8_fail l D a cI cZ (sg σ 22 0) 1) tb4_102 tb4_104 tp_13 tb1_11 tb4_105 ⟨rfl, rfl⟩ (n := 1) (by decide +kernel) ⟨Nat.le_of_ble_eq_true rfl, Nat.le_of_ble_eq_true rfl⟩ (As := [.int 1]) rfl (ci := 8) (q0 := 0) rfl (mx_c0 _ _ _ (sg σ 22 0)) (st := []) rfl (Nat.le_of_ble_eq_true rfl) dX8_word_39 ⟨Nat.zero_le _, Nat.zero_le _⟩ ?_
    generalize hq3 : (fX8_fail (sg σ 22 0) 1) = q3
    subst hq1 hq3
    have E : fX8_word σ x1 x2 x3 x4 x5 = ((fX8_fail (sg σ 22 0) 1).1, (fX8_fail (sg σ 22 0) 1).2) := j_ip c2 rfl
    exact j_ireturn h hr (congrArg Prod.fst E).symm (congrArg (fun z => mx a cI cZ z.2) E).symm dX8_word_42
  ·
    refine j_iload_n h 2 dX8_word_15 rfl rfl ?_
    refine j_callSi0 h (kX8_isRegister l D cI cZ x2) tb4_99 tb4_100 tb1_11 tb4_101 ⟨rfl, rfl⟩ (n := 1) (by decide +kernel) ⟨Nat.le_of_ble_eq_true rfl, Nat.le_of_ble_eq_true rfl⟩ (As := [.int x2]) rfl (st := []) rfl (Nat.le_of_ble_eq_true rfl) dX8_word_16 ⟨Nat.zero_le _, Nat.zero_le _⟩ ?_
    generalize hq4 : (fX8_isRegister x2) = q4
    refine j_if_eq h dX8_word_19 (tgt := 37) (by decide) (fun c5 => ?_) (fun c5 => ?_)
    ·
      refine j_aload_n h 0 dX8_word_37 rfl rfl ?_
      refine j_iconst h (v := 1) dX8_word_38 (by decide) ?_
      refine j_callVi h (kX8_fail l D a cI cZ (sg σ 22 0) 1) tb4_102 tb4_104 tp_13 tb1_11 tb4_105 ⟨rfl, rfl⟩ (n := 1) (by decide +kernel) ⟨Nat.le_of_ble_eq_true rfl, Nat.le_of_ble_eq_true rfl⟩ (As := [.int 1]) rfl (ci := 8) (q0 := 0) rfl (mx_c0 _ _ _ (sg σ 22 0)) (st := []) rfl (Nat.le_of_ble_eq_true rfl) dX8_word_39 ⟨Nat.zero_le _, Nat.zero_le _⟩ ?_
      generalize hq6 : (fX8_fail (sg σ 22 0) 1) = q6
      subst hq1 hq4 hq6
      have E : fX8_word σ x1 x2 x3 x4 x5 = ((fX8_fail (sg σ 22 0) 1).1, (fX8_fail (sg σ 22 0) 1).2) := j_ig c2 (j_ip c5 rfl)
      exact j_ireturn h hr (congrArg Prod.fst E).symm (congrArg (fun z => mx a cI cZ z.2) E).symm dX8_word_42
    ·
      refine j_iload_n h 3 dX8_word_22 rfl rfl ?_
      refine j_callSi0 h (kX8_isRegister l D cI cZ x3) tb4_99 tb4_100 tb1_11 tb4_101 ⟨rfl, rfl⟩ (n := 1) (by decide +kernel) ⟨Nat.le_of_ble_eq_true rfl, Nat.le_of_ble_eq_true rfl⟩ (As := [.int x3]) rfl (st := []) rfl (Nat.le_of_ble_eq_true rfl) dX8_word_23 ⟨Nat.zero_le _, Nat.zero_le _⟩ ?_
      generalize hq7 : (fX8_isRegister x3) = q7
      refine j_if_eq h dX8_word_26 (tgt := 37) (by decide) (fun c8 => ?_) (fun c8 => ?_)
      ·
        refine j_aload_n h 0 dX8_word_37 rfl rfl ?_
        refine j_iconst h (v := 1) dX8_word_38 (by decide) ?_
        refine j_callVi h (kX8_fail l D a cI cZ (sg σ 22 0) 1) tb4_102 tb4_104 tp_13 tb1_11 tb4_105 ⟨rfl, rfl⟩ (n := 1) (by decide +kernel) ⟨Nat.le_of_ble_eq_true rfl, Nat.le_of_ble_eq_true rfl⟩ (As := [.int 1]) rfl (ci := 8) (q0 := 0) rfl (mx_c0 _ _ _ (sg σ 22 0)) (st := []) rfl (Nat.le_of_ble_eq_true rfl) dX8_word_39 ⟨Nat.zero_le _, Nat.zero_le _⟩ ?_
        generalize hq9 : (fX8_fail (sg σ 22 0) 1) = q9
        subst hq1 hq4 hq7 hq9
        have E : fX8_word σ x1 x2 x3 x4 x5 = ((fX8_fail (sg σ 22 0) 1).1, (fX8_fail (sg σ 22 0) 1).2) := j_ig c2 (j_ig c5 (j_ip c8 rfl))
        exact j_ireturn h hr (congrArg Prod.fst E).symm (congrArg (fun z => mx a cI cZ z.2) E).symm dX8_word_42
      ·
        refine j_iload h 4 dX8_word_29 rfl ?_
        refine j_callSi0 h (kX8_isRegister l D cI cZ x4) tb4_99 tb4_100 tb1_11 tb4_101 ⟨rfl, rfl⟩ (n := 1) (by decide +kernel) ⟨Nat.le_of_ble_eq_true rfl, Nat.le_of_ble_eq_true rfl⟩ (As := [.int x4]) rfl (st := []) rfl (Nat.le_of_ble_eq_true rfl) dX8_word_31 ⟨Nat.zero_le _, Nat.zero_le _⟩ ?_
        generalize hq10 : (fX8_isRegister x4) = q10
        refine j_if_ne h dX8_word_34 (tgt := 43) (by decide) (fun c11 => ?_) (fun c11 => ?_)
        ·
          refine j_aload_n h 0 dX8_word_43 rfl rfl ?_
          refine j_get h iX8 0 (mx_c0 _ _ _ (sg σ 22 0)) rfl 31 (by decide) tb3_235 rfl (v := .int (σ.1 9)) rfl dX8_word_44 ?_
          refine j_if_le h dX8_word_47 (tgt := 56) (by decide) (fun c12 => ?_) (fun c12 => ?_)
          ·
            refine j_aload_n h 0 dX8_word_56 rfl rfl ?_
            refine j_get h iX8 0 (mx_c0 _ _ _ (sg σ 22 0)) rfl 9 (by decide) tb3_213 rfl (v := .int (σ.1 6)) rfl dX8_word_57 ?_
            refine j_bipush h (v := 64) dX8_word_60 (by decide) ?_
            refine j_icmp_ne h dX8_word_62 (tgt := 71) (by decide) (fun c13 => ?_) (fun c13 => ?_)
            ·
              refine j_aload_n h 0 dX8_word_71 rfl rfl ?_
              refine j_get h iX8 0 (mx_c0 _ _ _ (sg σ 22 0)) rfl 10 (by decide) tb3_214 rfl (v := .ref (a 1)) rfl dX8_word_72 ?_
              refine j_aload_n h 0 dX8_word_75 rfl rfl ?_
              refine j_get h iX8 0 (mx_c0 _ _ _ (sg σ 22 0)) rfl 9 (by decide) tb3_213 rfl (v := .int (σ.1 6)) rfl dX8_word_76 ?_
              refine j_iload_n h 1 dX8_word_79 rfl rfl ?_
              refine j_iast h 1 0 (mx_g1 (σ := (sg σ 22 0)) (F := (σ.2 0)) rfl) rfl (m_wd h6 c13) (w' := (mx a cI cZ (ar (sg σ 22 0) 0 (upd (σ.2 0) (σ.1 6).toNatClampNeg x1)))) (mx_s1 _ _ _ (sg σ 22 0) _) dX8_word_80 ?_
              refine j_aload_n h 0 dX8_word_81 rfl rfl ?_
              refine j_get h iX8 0 (mx_c0 _ _ _ (ar (sg σ 22 0) 0 (upd (σ.2 0) (σ.1 6).toNatClampNeg x1))) rfl 11 (by decide) tb3_215 rfl (v := .ref (a 2)) rfl dX8_word_82 ?_
              refine j_aload_n h 0 dX8_word_85 rfl rfl ?_
              refine j_get h iX8 0 (mx_c0 _ _ _ (ar (sg σ 22 0) 0 (upd (σ.2 0) (σ.1 6).toNatClampNeg x1))) rfl 9 (by decide) tb3_213 rfl (v := .int (σ.1 6)) rfl dX8_word_86 ?_
              refine j_iload_n h 2 dX8_word_89 rfl rfl ?_
              refine j_iast h 2 0 (mx_g2 (σ := (ar (sg σ 22 0) 0 (upd (σ.2 0) (σ.1 6).toNatClampNeg x1))) (F := (σ.2 1)) rfl) rfl (m_wd h6 c13) (w' := (mx a cI cZ (ar (ar (sg σ 22 0) 0 (upd (σ.2 0) (σ.1 6).toNatClampNeg x1)) 1 (upd (σ.2 1) (σ.1 6).toNatClampNeg x2)))) (mx_s2 _ _ _ (ar (sg σ 22 0) 0 (upd (σ.2 0) (σ.1 6).toNatClampNeg x1)) _) dX8_word_90 ?_
              refine j_aload_n h 0 dX8_word_91 rfl rfl ?_
              refine j_get h iX8 0 (mx_c0 _ _ _ (ar (ar (sg σ 22 0) 0 (upd (σ.2 0) (σ.1 6).toNatClampNeg x1)) 1 (upd (σ.2 1) (σ.1 6).toNatClampNeg x2))) rfl 12 (by decide) tb3_216 rfl (v := .ref (a 3)) rfl dX8_word_92 ?_
              refine j_aload_n h 0 dX8_word_95 rfl rfl ?_
              refine j_get h iX8 0 (mx_c0 _ _ _ (ar (ar (sg σ 22 0) 0 (upd (σ.2 0) (σ.1 6).toNatClampNeg x1)) 1 (upd (σ.2 1) (σ.1 6).toNatClampNeg x2))) rfl 9 (by decide) tb3_213 rfl (v := .int (σ.1 6)) rfl dX8_word_96 ?_
              refine j_iload_n h 3 dX8_word_99 rfl rfl ?_
              refine j_iast h 3 0 (mx_g3 (σ := (ar (ar (sg σ 22 0) 0 (upd (σ.2 0) (σ.1 6).toNatClampNeg x1)) 1 (upd (σ.2 1) (σ.1 6).toNatClampNeg x2))) (F := (σ.2 2)) rfl) rfl (m_wd h6 c13) (w' := (mx a cI cZ (ar (ar (ar (sg σ 22 0) 0 (upd (σ.2 0) (σ.1 6).toNatClampNeg x1)) 1 (upd (σ.2 1) (σ.1 6).toNatClampNeg x2)) 2 (upd (σ.2 2) (σ.1 6).toNatClampNeg x3)))) (mx_s3 _ _ _ (ar (ar (sg σ 22 0) 0 (upd (σ.2 0) (σ.1 6).toNatClampNeg x1)) 1 (upd (σ.2 1) (σ.1 6).toNatClampNeg x2)) _) dX8_word_100 ?_
              refine j_aload_n h 0 dX8_word_101 rfl rfl ?_
              refine j_get h iX8 0 (mx_c0 _ _ _ (ar (ar (ar (sg σ 22 0) 0 (upd (σ.2 0) (σ.1 6).toNatClampNeg x1)) 1 (upd (σ.2 1) (σ.1 6).toNatClampNeg x2)) 2 (upd (σ.2 2) (σ.1 6).toNatClampNeg x3))) rfl 13 (by decide) tb3_217 rfl (v := .ref (a 4)) rfl dX8_word_102 ?_
              refine j_aload_n h 0 dX8_word_105 rfl rfl ?_
              refine j_get h iX8 0 (mx_c0 _ _ _ (ar (ar (ar (sg σ 22 0) 0 (upd (σ.2 0) (σ.1 6).toNatClampNeg x1)) 1 (upd (σ.2 1) (σ.1 6).toNatClampNeg x2)) 2 (upd (σ.2 2) (σ.1 6).toNatClampNeg x3))) rfl 9 (by decide) tb3_213 rfl (v := .int (σ.1 6)) rfl dX8_word_106 ?_
              refine j_iload h 4 dX8_word_109 rfl ?_
              refine j_iast h 4 0 (mx_g4 (σ := (ar (ar (ar (sg σ 22 0) 0 (upd (σ.2 0) (σ.1 6).toNatClampNeg x1)) 1 (upd (σ.2 1) (σ.1 6).toNatClampNeg x2)) 2 (upd (σ.2 2) (σ.1 6).toNatClampNeg x3))) (F := (σ.2 3)) rfl) rfl (m_wd h6 c13) (w' := (mx a cI cZ (ar (ar (ar (ar (sg σ 22 0) 0 (upd (σ.2 0) (σ.1 6).toNatClampNeg x1)) 1 (upd (σ.2 1) (σ.1 6).toNatClampNeg x2)) 2 (upd (σ.2 2) (σ.1 6).toNatClampNeg x3)) 3 (upd (σ.2 3) (σ.1 6).toNatClampNeg x4)))) (mx_s4 _ _ _ (ar (ar (ar (sg σ 22 0) 0 (upd (σ.2 0) (σ.1 6).toNatClampNeg x1)) 1 (upd (σ.2 1) (σ.1 6).toNatClampNeg x2)) 2 (upd (σ.2 2) (σ.1 6).toNatClampNeg x3)) _) dX8_word_111 ?_
              refine j_aload_n h 0 dX8_word_112 rfl rfl ?_
              refine j_get h iX8 0 (mx_c0 _ _ _ (ar (ar (ar (ar (sg σ 22 0) 0 (upd (σ.2 0) (σ.1 6).toNatClampNeg x1)) 1 (upd (σ.2 1) (σ.1 6).toNatClampNeg x2)) 2 (upd (σ.2 2) (σ.1 6).toNatClampNeg x3)) 3 (upd (σ.2 3) (σ.1 6).toNatClampNeg x4))) rfl 14 (by decide) tb3_218 rfl (v := .ref (a 5)) rfl dX8_word_113 ?_
              refine j_aload_n h 0 dX8_word_116 rfl rfl ?_
              refine j_get h iX8 0 (mx_c0 _ _ _ (ar (ar (ar (ar (sg σ 22 0) 0 (upd (σ.2 0) (σ.1 6).toNatClampNeg x1)) 1 (upd (σ.2 1) (σ.1 6).toNatClampNeg x2)) 2 (upd (σ.2 2) (σ.1 6).toNatClampNeg x3)) 3 (upd (σ.2 3) (σ.1 6).toNatClampNeg x4))) rfl 9 (by decide) tb3_213 rfl (v := .int (σ.1 6)) rfl dX8_word_117 ?_
              refine j_iload h 5 dX8_word_120 rfl ?_
              refine j_iast h 5 0 (mx_g5 (σ := (ar (ar (ar (ar (sg σ 22 0) 0 (upd (σ.2 0) (σ.1 6).toNatClampNeg x1)) 1 (upd (σ.2 1) (σ.1 6).toNatClampNeg x2)) 2 (upd (σ.2 2) (σ.1 6).toNatClampNeg x3)) 3 (upd (σ.2 3) (σ.1 6).toNatClampNeg x4))) (F := (σ.2 4)) rfl) rfl (m_wd h6 c13) (w' := (mx a cI cZ (ar (ar (ar (ar (ar (sg σ 22 0) 0 (upd (σ.2 0) (σ.1 6).toNatClampNeg x1)) 1 (upd (σ.2 1) (σ.1 6).toNatClampNeg x2)) 2 (upd (σ.2 2) (σ.1 6).toNatClampNeg x3)) 3 (upd (σ.2 3) (σ.1 6).toNatClampNeg x4)) 4 (upd (σ.2 4) (σ.1 6).toNatClampNeg x5)))) (mx_s5 _ _ _ (ar (ar (ar (ar (sg σ 22 0) 0 (upd (σ.2 0) (σ.1 6).toNatClampNeg x1)) 1 (upd (σ.2 1) (σ.1 6).toNatClampNeg x2)) 2 (upd (σ.2 2) (σ.1 6).toNatClampNeg x3)) 3 (upd (σ.2 3) (σ.1 6).toNatClampNeg x4)) _) dX8_word_122 ?_
              refine j_aload_n h 0 dX8_word_123 rfl rfl ?_
              refine j_dup h dX8_word_124 rfl ?_
              refine j_get h iX8 0 (mx_c0 _ _ _ (ar (ar (ar (ar (ar (sg σ 22 0) 0 (upd (σ.2 0) (σ.1 6).toNatClampNeg x1)) 1 (upd (σ.2 1) (σ.1 6).toNatClampNeg x2)) 2 (upd (σ.2 2) (σ.1 6).toNatClampNeg x3)) 3 (upd (σ.2 3) (σ.1 6).toNatClampNeg x4)) 4 (upd (σ.2 4) (σ.1 6).toNatClampNeg x5))) rfl 9 (by decide) tb3_213 rfl (v := .int (σ.1 6)) rfl dX8_word_125 ?_
              refine j_iconst h (v := 1) dX8_word_128 (by decide) ?_
              refine j_iadd h dX8_word_129 ?_
              refine j_put h iX8 tyX8 tyX8_ok nmX8 0 (mx_c0 _ _ _ (ar (ar (ar (ar (ar (sg σ 22 0) 0 (upd (σ.2 0) (σ.1 6).toNatClampNeg x1)) 1 (upd (σ.2 1) (σ.1 6).toNatClampNeg x2)) 2 (upd (σ.2 2) (σ.1 6).toNatClampNeg x3)) 3 (upd (σ.2 3) (σ.1 6).toNatClampNeg x4)) 4 (upd (σ.2 4) (σ.1 6).toNatClampNeg x5))) rfl 9 (by decide) tb3_213 rfl rfl rfl rfl (Nat.le_of_ble_eq_true rfl) (w' := (mx a cI cZ (sg (ar (ar (ar (ar (ar (sg σ 22 0) 0 (upd (σ.2 0) (σ.1 6).toNatClampNeg x1)) 1 (upd (σ.2 1) (σ.1 6).toNatClampNeg x2)) 2 (upd (σ.2 2) (σ.1 6).toNatClampNeg x3)) 3 (upd (σ.2 3) (σ.1 6).toNatClampNeg x4)) 4 (upd (σ.2 4) (σ.1 6).toNatClampNeg x5)) 6 ((σ.1 6) + 1)))) (mx_p0_9 _ _ _ (ar (ar (ar (ar (ar (sg σ 22 0) 0 (upd (σ.2 0) (σ.1 6).toNatClampNeg x1)) 1 (upd (σ.2 1) (σ.1 6).toNatClampNeg x2)) 2 (upd (σ.2 2) (σ.1 6).toNatClampNeg x3)) 3 (upd (σ.2 3) (σ.1 6).toNatClampNeg x4)) 4 (upd (σ.2 4) (σ.1 6).toNatClampNeg x5)) _) dX8_word_130 ?_
              refine j_aload_n h 0 dX8_word_133 rfl rfl ?_
              refine j_get h iX8 0 (mx_c0 _ _ _ (sg (ar (ar (ar (ar (ar (sg σ 22 0) 0 (upd (σ.2 0) (σ.1 6).toNatClampNeg x1)) 1 (upd (σ.2 1) (σ.1 6).toNatClampNeg x2)) 2 (upd (σ.2 2) (σ.1 6).toNatClampNeg x3)) 3 (upd (σ.2 3) (σ.1 6).toNatClampNeg x4)) 4 (upd (σ.2 4) (σ.1 6).toNatClampNeg x5)) 6 ((σ.1 6) + 1))) rfl 9 (by decide) tb3_213 rfl (v := .int ((σ.1 6) + 1)) rfl dX8_word_134 ?_
              refine j_iconst h (v := 1) dX8_word_137 (by decide) ?_
              refine j_isub h dX8_word_138 ?_
              subst hq1 hq4 hq7 hq10
              have E : fX8_word σ x1 x2 x3 x4 x5 = ((((σ.1 6) + 1) - 1), (sg (ar (ar (ar (ar (ar (sg σ 22 0) 0 (upd (σ.2 0) (σ.1 6).toNatClampNeg x1)) 1 (upd (σ.2 1) (σ.1 6).toNatClampNeg x2)) 2 (upd (σ.2 2) (σ.1 6).toNatClampNeg x3)) 3 (upd (σ.2 3) (σ.1 6).toNatClampNeg x4)) 4 (upd (σ.2 4) (σ.1 6).toNatClampNeg x5)) 6 ((σ.1 6) + 1))) := j_ig c2 (j_ig c5 (j_ig c8 (j_ig c11 (j_ip c12 (j_ig c13 rfl)))))
              exact j_ireturn h hr (congrArg Prod.fst E).symm (congrArg (fun z => mx a cI cZ z.2) E).symm dX8_word_139
            ·
              refine j_aload_n h 0 dX8_word_65 rfl rfl ?_
              refine j_iconst h (v := 3) dX8_word_66 (by decide) ?_
              refine j_callVi h (kX8_fail l D a cI cZ (sg σ 22 0) 3) tb4_102 tb4_104 tp_13 tb1_11 tb4_105 ⟨rfl, rfl⟩ (n := 1) (by decide +kernel) ⟨Nat.le_of_ble_eq_true rfl, Nat.le_of_ble_eq_true rfl⟩ (As := [.int 3]) rfl (ci := 8) (q0 := 0) rfl (mx_c0 _ _ _ (sg σ 22 0)) (st := []) rfl (Nat.le_of_ble_eq_true rfl) dX8_word_67 ⟨Nat.zero_le _, Nat.zero_le _⟩ ?_
              generalize hq14 : (fX8_fail (sg σ 22 0) 3) = q14
              subst hq1 hq4 hq7 hq10 hq14
              have E : fX8_word σ x1 x2 x3 x4 x5 = ((fX8_fail (sg σ 22 0) 3).1, (fX8_fail (sg σ 22 0) 3).2) := j_ig c2 (j_ig c5 (j_ig c8 (j_ig c11 (j_ip c12 (j_ip c13 rfl)))))
              exact j_ireturn h hr (congrArg Prod.fst E).symm (congrArg (fun z => mx a cI cZ z.2) E).symm dX8_word_70
          ·
            refine j_aload_n h 0 dX8_word_50 rfl rfl ?_
            refine j_iconst h (v := 2) dX8_word_51 (by decide) ?_
            refine j_callVi h (kX8_fail l D a cI cZ (sg σ 22 0) 2) tb4_102 tb4_104 tp_13 tb1_11 tb4_105 ⟨rfl, rfl⟩ (n := 1) (by decide +kernel) ⟨Nat.le_of_ble_eq_true rfl, Nat.le_of_ble_eq_true rfl⟩ (As := [.int 2]) rfl (ci := 8) (q0 := 0) rfl (mx_c0 _ _ _ (sg σ 22 0)) (st := []) rfl (Nat.le_of_ble_eq_true rfl) dX8_word_52 ⟨Nat.zero_le _, Nat.zero_le _⟩ ?_
            generalize hq15 : (fX8_fail (sg σ 22 0) 2) = q15
            subst hq1 hq4 hq7 hq10 hq15
            have E : fX8_word σ x1 x2 x3 x4 x5 = ((fX8_fail (sg σ 22 0) 2).1, (fX8_fail (sg σ 22 0) 2).2) := j_ig c2 (j_ig c5 (j_ig c8 (j_ig c11 (j_ig c12 rfl))))
            exact j_ireturn h hr (congrArg Prod.fst E).symm (congrArg (fun z => mx a cI cZ z.2) E).symm dX8_word_55
        ·
          refine j_aload_n h 0 dX8_word_37 rfl rfl ?_
          refine j_iconst h (v := 1) dX8_word_38 (by decide) ?_
          refine j_callVi h (kX8_fail l D a cI cZ (sg σ 22 0) 1) tb4_102 tb4_104 tp_13 tb1_11 tb4_105 ⟨rfl, rfl⟩ (n := 1) (by decide +kernel) ⟨Nat.le_of_ble_eq_true rfl, Nat.le_of_ble_eq_true rfl⟩ (As := [.int 1]) rfl (ci := 8) (q0 := 0) rfl (mx_c0 _ _ _ (sg σ 22 0)) (st := []) rfl (Nat.le_of_ble_eq_true rfl) dX8_word_39 ⟨Nat.zero_le _, Nat.zero_le _⟩ ?_
          generalize hq16 : (fX8_fail (sg σ 22 0) 1) = q16
          subst hq1 hq4 hq7 hq10 hq16
          have E : fX8_word σ x1 x2 x3 x4 x5 = ((fX8_fail (sg σ 22 0) 1).1, (fX8_fail (sg σ 22 0) 1).2) := j_ig c2 (j_ig c5 (j_ig c8 (j_ip c11 rfl)))
          exact j_ireturn h hr (congrArg Prod.fst E).symm (congrArg (fun z => mx a cI cZ z.2) E).symm dX8_word_42
def rmX8_set : Room := { frames := 1, cells := 0, slots := 0, locals := 22 }
set_option maxRecDepth 100000 in
set_option maxHeartbeats 4000000 in
theorem kX8_set (l : Launch) (D : va_G) (a : Nat → Nat) (cI cZ : ClassId) (σ : St) (x1 x2 : Int32) (hx : x1 = 0 ∨ x1 = 1) (hf : (σ.1 16) = 0 ∨ (σ.1 16) = 1) : Ci l yX8_set cX8_set 4 (some .boolean) TB rmX8_set D vwCl [(cI, .int), (cZ, .boolean)] [.ref (a 0), .int x1, .int x2] (mx a cI cZ σ) (mx a cI cZ (fX8_set σ x1 x2).2) (fX8_set σ x1 x2).1 := by
  refine Ci_of (cc := cX8_set) (maxL := 4) (ret := (some .boolean)) (by decide +kernel) TBg (Nat.le_of_ble_eq_true rfl) ?_
  intro p e s m args below meth c A h hr
  refine j_aload_n h 0 dX8_set_0 rfl rfl ?_
  refine j_iload_n h 2 dX8_set_1 rfl rfl ?_
  refine j_iconst h (v := 0) dX8_set_2 (by decide) ?_
  refine j_bipush h (v := 63) dX8_set_3 (by decide) ?_
  refine j_callSi0 h (kX8_within l D cI cZ x2 0 63) tb4_96 tb4_97 tb1_11 tb4_98 ⟨rfl, rfl⟩ (n := 3) (by decide +kernel) ⟨Nat.le_of_ble_eq_true rfl, Nat.le_of_ble_eq_true rfl⟩ (As := [.int x2, .int 0, .int 63]) rfl (st := [.ref (a 0)]) rfl (Nat.le_of_ble_eq_true rfl) dX8_set_5 ⟨Nat.zero_le _, Nat.zero_le _⟩ ?_
  generalize hq1 : (fX8_within x2 0 63) = q1
  refine j_if_ne h dX8_set_8 (tgt := 15) (by decide) (fun c2 => ?_) (fun c2 => ?_)
  ·
    refine j_aload_n h 0 dX8_set_15 rfl rfl ?_
    refine j_get h iX8 0 (mx_c0 _ _ _ σ) rfl 31 (by decide) tb3_235 rfl (v := .int (σ.1 9)) rfl dX8_set_16 ?_
    refine j_if_le h dX8_set_19 (tgt := 26) (by decide) (fun c3 => ?_) (fun c3 => ?_)
    ·
      refine j_iconst h (v := 0) dX8_set_26 (by decide) ?_
      refine j_put h iX8 tyX8 tyX8_ok nmX8 0 (mx_c0 _ _ _ σ) rfl 0 (by decide) tb3_204 rfl rfl rfl rfl (Nat.le_of_ble_eq_true rfl) (w' := (mx a cI cZ (sg σ 22 0))) (mx_p0_0 _ _ _ σ _) dX8_set_27 ?_
      refine j_aload_n h 0 dX8_set_30 rfl rfl ?_
      refine j_get h iX8 0 (mx_c0 _ _ _ (sg σ 22 0)) rfl 0 (by decide) tb3_204 rfl (v := .int 0) rfl dX8_set_31 ?_
      refine j_if_le h dX8_set_34 (tgt := 39) (by decide) (fun c4 => ?_) (fun c4 => ?_)
      ·
        refine j_aload_n h 0 dX8_set_39 rfl rfl ?_
        refine j_get h iX8 0 (mx_c0 _ _ _ (sg σ 22 0)) rfl 7 (by decide) tb3_211 rfl (v := .int (σ.1 16)) rfl dX8_set_40 ?_
        refine j_istore_n h (lv' := [(3, .int (σ.1 16)), (0, .ref (a 0)), (1, .int x1), (2, .int x2)]) dX8_set_43 rfl (by decide) rfl ?_
        refine j_aload_n h 1 dX8_set_44 rfl rfl ?_
        refine j_iload_n h 2 dX8_set_45 rfl rfl ?_
        refine j_put h iX8 tyX8 tyX8_ok nmX8 0 (mx_c0 _ _ _ (sg σ 22 0)) rfl 7 (by decide) tb3_211 rfl rfl (bz_n hx) (bz_f hx) (Nat.le_of_ble_eq_true rfl) (w' := (mx a cI cZ (sg (sg σ 22 0) 16 x1))) (mx_p0_7 _ _ _ (sg σ 22 0) _) dX8_set_46 ?_
        refine j_aload_n h 1 dX8_set_49 rfl rfl ?_
        refine j_iload_n h 3 dX8_set_50 rfl rfl ?_
        refine j_put h iX8 tyX8 tyX8_ok nmX8 0 (mx_c0 _ _ _ (sg (sg σ 22 0) 16 x1)) rfl 8 (by decide) tb3_212 rfl rfl rfl rfl (Nat.le_of_ble_eq_true rfl) (w' := (mx a cI cZ (sg (sg (sg σ 22 0) 16 x1) 17 x2))) (mx_p0_8 _ _ _ (sg (sg σ 22 0) 16 x1) _) dX8_set_51 ?_
        refine j_iload_n h 0 dX8_set_54 rfl rfl ?_
        subst hq1
        have E : fX8_set σ x1 x2 = ((σ.1 16), (sg (sg (sg σ 22 0) 16 x1) 17 x2)) := j_ig c2 (j_ip c3 rfl)
        exact j_zreturn h hr (bz_n hf) (congrArg Prod.fst E).symm (congrArg (fun z => mx a cI cZ z.2) E).symm dX8_set_55
      ·
        exact absurd c4 (by decide)
    ·
      refine j_iconst h (v := 2) dX8_set_22 (by decide) ?_
      refine j_goto h dX8_set_23 (tgt := 27) (by decide) ?_
      refine j_put h iX8 tyX8 tyX8_ok nmX8 0 (mx_c0 _ _ _ σ) rfl 0 (by decide) tb3_204 rfl rfl rfl rfl (Nat.le_of_ble_eq_true rfl) (w' := (mx a cI cZ (sg σ 22 2))) (mx_p0_0 _ _ _ σ _) dX8_set_27 ?_
      refine j_aload_n h 0 dX8_set_30 rfl rfl ?_
      refine j_get h iX8 0 (mx_c0 _ _ _ (sg σ 22 2)) rfl 0 (by decide) tb3_204 rfl (v := .int 2) rfl dX8_set_31 ?_
      refine j_if_le h dX8_set_34 (tgt := 39) (by decide) (fun c5 => ?_) (fun c5 => ?_)
      ·
        exact absurd c5 (by decide)
      ·
        refine j_iconst h (v := 0) dX8_set_37 (by decide) ?_
        subst hq1
        have E : fX8_set σ x1 x2 = (0, (sg σ 22 2)) := j_ig c2 (j_ig c3 rfl)
        exact j_zreturn h hr (by decide) (congrArg Prod.fst E).symm (congrArg (fun z => mx a cI cZ z.2) E).symm dX8_set_38
  ·
    refine j_iconst h (v := 1) dX8_set_11 (by decide) ?_
    refine j_goto h dX8_set_12 (tgt := 27) (by decide) ?_
    refine j_put h iX8 tyX8 tyX8_ok nmX8 0 (mx_c0 _ _ _ σ) rfl 0 (by decide) tb3_204 rfl rfl rfl rfl (Nat.le_of_ble_eq_true rfl) (w' := (mx a cI cZ (sg σ 22 1))) (mx_p0_0 _ _ _ σ _) dX8_set_27 ?_
    refine j_aload_n h 0 dX8_set_30 rfl rfl ?_
    refine j_get h iX8 0 (mx_c0 _ _ _ (sg σ 22 1)) rfl 0 (by decide) tb3_204 rfl (v := .int 1) rfl dX8_set_31 ?_
    refine j_if_le h dX8_set_34 (tgt := 39) (by decide) (fun c6 => ?_) (fun c6 => ?_)
    ·
      exact absurd c6 (by decide)
    ·
      refine j_iconst h (v := 0) dX8_set_37 (by decide) ?_
      subst hq1
      have E : fX8_set σ x1 x2 = (0, (sg σ 22 1)) := j_ip c2 rfl
      exact j_zreturn h hr (by decide) (congrArg Prod.fst E).symm (congrArg (fun z => mx a cI cZ z.2) E).symm dX8_set_38
def rmX8_clear : Room := { frames := 1, cells := 0, slots := 0, locals := 21 }
set_option maxRecDepth 100000 in
set_option maxHeartbeats 4000000 in
theorem kX8_clear (l : Launch) (D : va_G) (a : Nat → Nat) (cI cZ : ClassId) (σ : St) : Ci l yX8_clear cX8_clear 2 (some .int) TB rmX8_clear D vwCl [(cI, .int), (cZ, .boolean)] [.ref (a 0)] (mx a cI cZ σ) (mx a cI cZ (fX8_clear σ).2) (fX8_clear σ).1 := by
  refine Ci_of (cc := cX8_clear) (maxL := 2) (ret := (some .int)) (by decide +kernel) TBg (Nat.le_of_ble_eq_true rfl) ?_
  intro p e s m args below meth c A h hr
  refine j_aload_n h 0 dX8_clear_0 rfl rfl ?_
  refine j_iconst h (v := 0) dX8_clear_1 (by decide) ?_
  refine j_put h iX8 tyX8 tyX8_ok nmX8 0 (mx_c0 _ _ _ σ) rfl 0 (by decide) tb3_204 rfl rfl rfl rfl (Nat.le_of_ble_eq_true rfl) (w' := (mx a cI cZ (sg σ 22 0))) (mx_p0_0 _ _ _ σ _) dX8_clear_2 ?_
  refine j_aload_n h 0 dX8_clear_5 rfl rfl ?_
  refine j_get h iX8 0 (mx_c0 _ _ _ (sg σ 22 0)) rfl 31 (by decide) tb3_235 rfl (v := .int (σ.1 9)) rfl dX8_clear_6 ?_
  refine j_istore_n h (lv' := [(1, .int (σ.1 9)), (0, .ref (a 0))]) dX8_clear_9 rfl (by decide) rfl ?_
  refine j_aload_n h 1 dX8_clear_10 rfl rfl ?_
  refine j_callVv h (kX8_begin l D a cI cZ (sg σ 22 0)) tb3_200 tb3_202 tp_12 tb1_11 tb3_203 ⟨rfl, rfl⟩ (n := 0) (by decide +kernel) ⟨Nat.le_of_ble_eq_true rfl, Nat.le_of_ble_eq_true rfl⟩ (As := []) rfl (ci := 8) (q0 := 0) rfl (mx_c0 _ _ _ (sg σ 22 0)) (st := []) rfl (Nat.le_of_ble_eq_true rfl) dX8_clear_11 ⟨Nat.zero_le _, Nat.zero_le _⟩ ?_
  generalize hq1 : (fX8_begin (sg σ 22 0)) = q1
  refine j_iload_n h 0 dX8_clear_14 rfl rfl ?_
  subst hq1
  have E : fX8_clear σ = ((σ.1 9), (fX8_begin (sg σ 22 0))) := rfl
  exact j_ireturn h hr (congrArg Prod.fst E).symm (congrArg (fun z => mx a cI cZ z.2) E).symm dX8_clear_15
def rmX8_writes : Room := { frames := 0, cells := 0, slots := 0, locals := 0 }
set_option maxRecDepth 100000 in
set_option maxHeartbeats 4000000 in
theorem kX8_writes (l : Launch) (D : va_G) (a : Nat → Nat) (cI cZ : ClassId) (σ : St) (x1 : Int32) (h1 : vp_in x1 64) : Ci l yX8_writes cX8_writes 2 (some .boolean) TB rmX8_writes D vwCl [(cI, .int), (cZ, .boolean)] [.ref (a 0), .int x1] (mx a cI cZ σ) (mx a cI cZ σ) (fX8_writes σ x1) := by
  refine Ci_of (cc := cX8_writes) (maxL := 2) (ret := (some .boolean)) (by decide +kernel) TBg (Nat.le_of_ble_eq_true rfl) ?_
  intro p e s m args below meth c A h hr
  refine j_aload_n h 0 dX8_writes_0 rfl rfl ?_
  refine j_get h iX8 0 (mx_c0 _ _ _ σ) rfl 10 (by decide) tb3_214 rfl (v := .ref (a 1)) rfl dX8_writes_1 ?_
  refine j_iload_n h 1 dX8_writes_4 rfl rfl ?_
  refine j_iald h 1 0 (mx_g1 (σ := σ) (F := (σ.2 0)) rfl) rfl h1 dX8_writes_5 ?_
  refine j_if_eq h dX8_writes_6 (tgt := 40) (by decide) (fun c1 => ?_) (fun c1 => ?_)
  ·
    refine j_iconst h (v := 1) dX8_writes_40 (by decide) ?_
    refine j_goto h dX8_writes_41 (tgt := 45) (by decide) ?_
    have E : fX8_writes σ x1 = 1 := j_ip c1 rfl
    exact j_zreturn h hr (by decide) E.symm rfl dX8_writes_45
  ·
    refine j_aload_n h 0 dX8_writes_9 rfl rfl ?_
    refine j_get h iX8 0 (mx_c0 _ _ _ σ) rfl 10 (by decide) tb3_214 rfl (v := .ref (a 1)) rfl dX8_writes_10 ?_
    refine j_iload_n h 1 dX8_writes_13 rfl rfl ?_
    refine j_iald h 1 0 (mx_g1 (σ := σ) (F := (σ.2 0)) rfl) rfl h1 dX8_writes_14 ?_
    refine j_iconst h (v := 1) dX8_writes_15 (by decide) ?_
    refine j_icmp_eq h dX8_writes_16 (tgt := 40) (by decide) (fun c2 => ?_) (fun c2 => ?_)
    ·
      refine j_iconst h (v := 1) dX8_writes_40 (by decide) ?_
      refine j_goto h dX8_writes_41 (tgt := 45) (by decide) ?_
      have E : fX8_writes σ x1 = 1 := j_ig c1 (j_ip c2 rfl)
      exact j_zreturn h hr (by decide) E.symm rfl dX8_writes_45
    ·
      refine j_aload_n h 0 dX8_writes_19 rfl rfl ?_
      refine j_get h iX8 0 (mx_c0 _ _ _ σ) rfl 10 (by decide) tb3_214 rfl (v := .ref (a 1)) rfl dX8_writes_20 ?_
      refine j_iload_n h 1 dX8_writes_23 rfl rfl ?_
      refine j_iald h 1 0 (mx_g1 (σ := σ) (F := (σ.2 0)) rfl) rfl h1 dX8_writes_24 ?_
      refine j_iconst h (v := 3) dX8_writes_25 (by decide) ?_
      refine j_icmp_eq h dX8_writes_26 (tgt := 40) (by decide) (fun c3 => ?_) (fun c3 => ?_)
      ·
        refine j_iconst h (v := 1) dX8_writes_40 (by decide) ?_
        refine j_goto h dX8_writes_41 (tgt := 45) (by decide) ?_
        have E : fX8_writes σ x1 = 1 := j_ig c1 (j_ig c2 (j_ip c3 rfl))
        exact j_zreturn h hr (by decide) E.symm rfl dX8_writes_45
      ·
        refine j_aload_n h 0 dX8_writes_29 rfl rfl ?_
        refine j_get h iX8 0 (mx_c0 _ _ _ σ) rfl 10 (by decide) tb3_214 rfl (v := .ref (a 1)) rfl dX8_writes_30 ?_
        refine j_iload_n h 1 dX8_writes_33 rfl rfl ?_
        refine j_iald h 1 0 (mx_g1 (σ := σ) (F := (σ.2 0)) rfl) rfl h1 dX8_writes_34 ?_
        refine j_bipush h (v := 7) dX8_writes_35 (by decide) ?_
        refine j_icmp_ne h dX8_writes_37 (tgt := 44) (by decide) (fun c4 => ?_) (fun c4 => ?_)
        ·
          refine j_iconst h (v := 0) dX8_writes_44 (by decide) ?_
          have E : fX8_writes σ x1 = 0 := j_ig c1 (j_ig c2 (j_ig c3 (j_ig c4 rfl)))
          exact j_zreturn h hr (by decide) E.symm rfl dX8_writes_45
        ·
          refine j_iconst h (v := 1) dX8_writes_40 (by decide) ?_
          refine j_goto h dX8_writes_41 (tgt := 45) (by decide) ?_
          have E : fX8_writes σ x1 = 1 := j_ig c1 (j_ig c2 (j_ig c3 (j_ip c4 rfl)))
          exact j_zreturn h hr (by decide) E.symm rfl dX8_writes_45
def rmX8_readsA : Room := { frames := 0, cells := 0, slots := 0, locals := 0 }
set_option maxRecDepth 100000 in
set_option maxHeartbeats 4000000 in
theorem kX8_readsA (l : Launch) (D : va_G) (a : Nat → Nat) (cI cZ : ClassId) (σ : St) (x1 : Int32) (h1 : vp_in x1 64) : Ci l yX8_readsA cX8_readsA 2 (some .boolean) TB rmX8_readsA D vwCl [(cI, .int), (cZ, .boolean)] [.ref (a 0), .int x1] (mx a cI cZ σ) (mx a cI cZ σ) (fX8_readsA σ x1) := by
  refine Ci_of (cc := cX8_readsA) (maxL := 2) (ret := (some .boolean)) (by decide +kernel) TBg (Nat.le_of_ble_eq_true rfl) ?_
  intro p e s m args below meth c A h hr
  refine j_aload_n h 0 dX8_readsA_0 rfl rfl ?_
  refine j_get h iX8 0 (mx_c0 _ _ _ σ) rfl 10 (by decide) tb3_214 rfl (v := .ref (a 1)) rfl dX8_readsA_1 ?_
  refine j_iload_n h 1 dX8_readsA_4 rfl rfl ?_
  refine j_iald h 1 0 (mx_g1 (σ := σ) (F := (σ.2 0)) rfl) rfl h1 dX8_readsA_5 ?_
  refine j_iconst h (v := 5) dX8_readsA_6 (by decide) ?_
  refine j_icmp_ge h dX8_readsA_7 (tgt := 14) (by decide) (fun c1 => ?_) (fun c1 => ?_)
  ·
    refine j_iconst h (v := 0) dX8_readsA_14 (by decide) ?_
    have E : fX8_readsA σ x1 = 0 := j_ip c1 rfl
    exact j_zreturn h hr (by decide) E.symm rfl dX8_readsA_15
  ·
    refine j_iconst h (v := 1) dX8_readsA_10 (by decide) ?_
    refine j_goto h dX8_readsA_11 (tgt := 15) (by decide) ?_
    have E : fX8_readsA σ x1 = 1 := j_ig c1 rfl
    exact j_zreturn h hr (by decide) E.symm rfl dX8_readsA_15
def rmX8_readsB : Room := { frames := 0, cells := 0, slots := 0, locals := 0 }
set_option maxRecDepth 100000 in
set_option maxHeartbeats 4000000 in
theorem kX8_readsB (l : Launch) (D : va_G) (a : Nat → Nat) (cI cZ : ClassId) (σ : St) (x1 : Int32) (h1 : vp_in x1 64) : Ci l yX8_readsB cX8_readsB 2 (some .boolean) TB rmX8_readsB D vwCl [(cI, .int), (cZ, .boolean)] [.ref (a 0), .int x1] (mx a cI cZ σ) (mx a cI cZ σ) (fX8_readsB σ x1) := by
  refine Ci_of (cc := cX8_readsB) (maxL := 2) (ret := (some .boolean)) (by decide +kernel) TBg (Nat.le_of_ble_eq_true rfl) ?_
  intro p e s m args below meth c A h hr
  refine j_aload_n h 0 dX8_readsB_0 rfl rfl ?_
  refine j_get h iX8 0 (mx_c0 _ _ _ σ) rfl 10 (by decide) tb3_214 rfl (v := .ref (a 1)) rfl dX8_readsB_1 ?_
  refine j_iload_n h 1 dX8_readsB_4 rfl rfl ?_
  refine j_iald h 1 0 (mx_g1 (σ := σ) (F := (σ.2 0)) rfl) rfl h1 dX8_readsB_5 ?_
  refine j_if_eq h dX8_readsB_6 (tgt := 29) (by decide) (fun c1 => ?_) (fun c1 => ?_)
  ·
    refine j_iconst h (v := 1) dX8_readsB_29 (by decide) ?_
    refine j_goto h dX8_readsB_30 (tgt := 34) (by decide) ?_
    have E : fX8_readsB σ x1 = 1 := j_ip c1 rfl
    exact j_zreturn h hr (by decide) E.symm rfl dX8_readsB_34
  ·
    refine j_aload_n h 0 dX8_readsB_9 rfl rfl ?_
    refine j_get h iX8 0 (mx_c0 _ _ _ σ) rfl 10 (by decide) tb3_214 rfl (v := .ref (a 1)) rfl dX8_readsB_10 ?_
    refine j_iload_n h 1 dX8_readsB_13 rfl rfl ?_
    refine j_iald h 1 0 (mx_g1 (σ := σ) (F := (σ.2 0)) rfl) rfl h1 dX8_readsB_14 ?_
    refine j_iconst h (v := 2) dX8_readsB_15 (by decide) ?_
    refine j_icmp_eq h dX8_readsB_16 (tgt := 29) (by decide) (fun c2 => ?_) (fun c2 => ?_)
    ·
      refine j_iconst h (v := 1) dX8_readsB_29 (by decide) ?_
      refine j_goto h dX8_readsB_30 (tgt := 34) (by decide) ?_
      have E : fX8_readsB σ x1 = 1 := j_ig c1 (j_ip c2 rfl)
      exact j_zreturn h hr (by decide) E.symm rfl dX8_readsB_34
    ·
      refine j_aload_n h 0 dX8_readsB_19 rfl rfl ?_
      refine j_get h iX8 0 (mx_c0 _ _ _ σ) rfl 10 (by decide) tb3_214 rfl (v := .ref (a 1)) rfl dX8_readsB_20 ?_
      refine j_iload_n h 1 dX8_readsB_23 rfl rfl ?_
      refine j_iald h 1 0 (mx_g1 (σ := σ) (F := (σ.2 0)) rfl) rfl h1 dX8_readsB_24 ?_
      refine j_iconst h (v := 3) dX8_readsB_25 (by decide) ?_
      refine j_icmp_ne h dX8_readsB_26 (tgt := 33) (by decide) (fun c3 => ?_) (fun c3 => ?_)
      ·
        refine j_iconst h (v := 0) dX8_readsB_33 (by decide) ?_
        have E : fX8_readsB σ x1 = 0 := j_ig c1 (j_ig c2 (j_ig c3 rfl))
        exact j_zreturn h hr (by decide) E.symm rfl dX8_readsB_34
      ·
        refine j_iconst h (v := 1) dX8_readsB_29 (by decide) ?_
        refine j_goto h dX8_readsB_30 (tgt := 34) (by decide) ?_
        have E : fX8_readsB σ x1 = 1 := j_ig c1 (j_ig c2 (j_ip c3 rfl))
        exact j_zreturn h hr (by decide) E.symm rfl dX8_readsB_34
def rmX8_cyclesOf : Room := { frames := 0, cells := 0, slots := 0, locals := 0 }
set_option maxRecDepth 100000 in
set_option maxHeartbeats 4000000 in
theorem kX8_cyclesOf (l : Launch) (D : va_G) (a : Nat → Nat) (cI cZ : ClassId) (σ : St) (x1 : Int32) (h1 : vp_in x1 64) : Ci l yX8_cyclesOf cX8_cyclesOf 2 (some .int) TB rmX8_cyclesOf D vwCl [(cI, .int), (cZ, .boolean)] [.ref (a 0), .int x1] (mx a cI cZ σ) (mx a cI cZ σ) (fX8_cyclesOf σ x1) := by
  refine Ci_of (cc := cX8_cyclesOf) (maxL := 2) (ret := (some .int)) (by decide +kernel) TBg (Nat.le_of_ble_eq_true rfl) ?_
  intro p e s m args below meth c A h hr
  refine j_aload_n h 0 dX8_cyclesOf_0 rfl rfl ?_
  refine j_get h iX8 0 (mx_c0 _ _ _ σ) rfl 10 (by decide) tb3_214 rfl (v := .ref (a 1)) rfl dX8_cyclesOf_1 ?_
  refine j_iload_n h 1 dX8_cyclesOf_4 rfl rfl ?_
  refine j_iald h 1 0 (mx_g1 (σ := σ) (F := (σ.2 0)) rfl) rfl h1 dX8_cyclesOf_5 ?_
  refine j_iconst h (v := 3) dX8_cyclesOf_6 (by decide) ?_
  refine j_icmp_ne h dX8_cyclesOf_7 (tgt := 17) (by decide) (fun c1 => ?_) (fun c1 => ?_)
  ·
    refine j_iconst h (v := 1) dX8_cyclesOf_17 (by decide) ?_
    have E : fX8_cyclesOf σ x1 = 1 := j_ig c1 rfl
    exact j_ireturn h hr E.symm rfl dX8_cyclesOf_18
  ·
    refine j_aload_n h 0 dX8_cyclesOf_10 rfl rfl ?_
    refine j_get h iX8 0 (mx_c0 _ _ _ σ) rfl 6 (by decide) tb3_210 rfl (v := .int (σ.1 5)) rfl dX8_cyclesOf_11 ?_
    refine j_goto h dX8_cyclesOf_14 (tgt := 18) (by decide) ?_
    have E : fX8_cyclesOf σ x1 = (σ.1 5) := j_ip c1 rfl
    exact j_ireturn h hr E.symm rfl dX8_cyclesOf_18
def rmX8_isThere : Room := { frames := 1, cells := 0, slots := 0, locals := 21 }
set_option maxRecDepth 100000 in
set_option maxHeartbeats 4000000 in
theorem kX8_isThere (l : Launch) (D : va_G) (a : Nat → Nat) (cI cZ : ClassId) (σ : St) (x1 : Int32) (hs : shp σ) (hw : mW (σ.2 5)) : Ci l yX8_isThere cX8_isThere 3 (some .boolean) TB rmX8_isThere D vwCl [(cI, .int), (cZ, .boolean)] [.ref (a 0), .int x1] (mx a cI cZ σ) (mx a cI cZ σ) (fX8_isThere σ x1) := by
  refine Ci_of (cc := cX8_isThere) (maxL := 3) (ret := (some .boolean)) (by decide +kernel) TBg (Nat.le_of_ble_eq_true rfl) ?_
  intro p e s m args below meth c A h hr
  have loop : ∀ (n : Nat) (σ : St) (x2 : Int32), shp σ → mW (σ.2 5) → 0 ≤ x2.toInt → x2.toInt ≤ (σ.1 0).toInt → (σ.1 0).toInt < x2.toInt + n → J p l e rmX8_isThere s m args below meth c D vwCl A 3 0 0 (MQ below (jEi D vwCl [(cI, .int), (cZ, .boolean)] A (mx a cI cZ σ) (gfX8_isThere n σ x1 x2)) args s 0 0 A) (mx a cI cZ σ) 7 [(2, .int x2), (0, .ref (a 0)), (1, .int x1)] [] := by
    intro n
    induction n with
    | zero => intro σ x2 hs hw h3 h4 h5; exact absurd h5 (by omega)
    | succ n ih =>
      intro σ x2 hs hw h3 h4 h5
      refine j_iload_n h 0 dX8_isThere_7 rfl rfl ?_
      refine j_aload_n h 1 dX8_isThere_8 rfl rfl ?_
      refine j_get h iX8 0 (mx_c0 _ _ _ σ) rfl 1 (by decide) tb3_205 rfl (v := .int (σ.1 0)) rfl dX8_isThere_9 ?_
      refine j_icmp_ge h dX8_isThere_12 (tgt := 58) (by decide) (fun c1001 => ?_) (fun c1001 => ?_)
      ·
        refine j_iload_n h 0 dX8_isThere_58 rfl rfl ?_
        refine j_aload_n h 1 dX8_isThere_59 rfl rfl ?_
        refine j_get h iX8 0 (mx_c0 _ _ _ σ) rfl 1 (by decide) tb3_205 rfl (v := .int (σ.1 0)) rfl dX8_isThere_60 ?_
        refine j_icmp_eq h dX8_isThere_63 (tgt := 103) (by decide) (fun c1002 => ?_) (fun c1002 => ?_)
        ·
          refine j_iconst h (v := 1) dX8_isThere_103 (by decide) ?_
          refine j_goto h dX8_isThere_104 (tgt := 108) (by decide) ?_
          have E : gfX8_isThere (n + 1) σ x1 x2 = 1 := j_ip c1001 rfl
          exact j_zreturn h hr (by decide) E.symm rfl dX8_isThere_108
        ·
          exact absurd (m_eq h4 c1001) c1002
      ·
        refine j_aload_n h 1 dX8_isThere_15 rfl rfl ?_
        refine j_get h iX8 0 (mx_c0 _ _ _ σ) rfl 15 (by decide) tb3_219 rfl (v := .ref (a 6)) rfl dX8_isThere_16 ?_
        refine j_iload_n h 0 dX8_isThere_19 rfl rfl ?_
        refine j_iald h 6 0 (mx_g6 (σ := σ) (F := (σ.2 5)) rfl) rfl (m_s h3 (by have := j_toLt c1001; have := hs.n8; omega)) dX8_isThere_20 ?_
        refine j_if_lt h dX8_isThere_21 (tgt := 52) (by decide) (fun c1003 => ?_) (fun c1003 => ?_)
        ·
          refine j_iinc h 0 (v := (x2 + 1)) (lv' := [(2, .int (x2 + 1)), (0, .ref (a 0)), (1, .int x1)]) dX8_isThere_52 rfl (rfl) (by decide) rfl ?_
          refine j_goto h dX8_isThere_55 (tgt := 7) (by decide) ?_
          have hi := j_inc (j_hi1 c1001)
          have hl := j_toLt c1001
          have E : gfX8_isThere (n + 1) σ x1 x2 = gfX8_isThere n σ x1 (x2 + 1) := j_ig c1001 (j_ip c1003 rfl)
          rw [E]
          refine j_lv [0, 1, 2] rfl ?_
          exact ih σ (x2 + 1) hs hw (by omega) (by omega) (by omega)
        ·
          refine j_aload_n h 1 dX8_isThere_24 rfl rfl ?_
          refine j_aload_n h 1 dX8_isThere_25 rfl rfl ?_
          refine j_get h iX8 0 (mx_c0 _ _ _ σ) rfl 15 (by decide) tb3_219 rfl (v := .ref (a 6)) rfl dX8_isThere_26 ?_
          refine j_iload_n h 0 dX8_isThere_29 rfl rfl ?_
          refine j_iald h 6 0 (mx_g6 (σ := σ) (F := (σ.2 5)) rfl) rfl (m_s h3 (by have := j_toLt c1001; have := hs.n8; omega)) dX8_isThere_30 ?_
          refine j_callVi h (kX8_writes l D a cI cZ σ ((σ.2 5) x2.toNatClampNeg) (m_w hw (m_s h3 (by have := j_toLt c1001; have := hs.n8; omega)) (j_toGe c1003))) tb4_134 tb4_136 tp_18 tb1_11 tb4_137 ⟨rfl, rfl⟩ (n := 1) (by decide +kernel) ⟨Nat.le_of_ble_eq_true rfl, Nat.le_of_ble_eq_true rfl⟩ (As := [.int ((σ.2 5) x2.toNatClampNeg)]) rfl (ci := 8) (q0 := 0) rfl (mx_c0 _ _ _ σ) (st := []) rfl (Nat.le_of_ble_eq_true rfl) dX8_isThere_31 ⟨Nat.zero_le _, Nat.zero_le _⟩ ?_
          generalize hq1004 : (fX8_writes σ ((σ.2 5) x2.toNatClampNeg)) = q1004
          refine j_if_eq h dX8_isThere_34 (tgt := 52) (by decide) (fun c1005 => ?_) (fun c1005 => ?_)
          ·
            refine j_iinc h 0 (v := (x2 + 1)) (lv' := [(2, .int (x2 + 1)), (0, .ref (a 0)), (1, .int x1)]) dX8_isThere_52 rfl (rfl) (by decide) rfl ?_
            refine j_goto h dX8_isThere_55 (tgt := 7) (by decide) ?_
            have hi := j_inc (j_hi1 c1001)
            have hl := j_toLt c1001
            subst hq1004
            have E : gfX8_isThere (n + 1) σ x1 x2 = gfX8_isThere n σ x1 (x2 + 1) := j_ig c1001 (j_ig c1003 (j_ip c1005 rfl))
            rw [E]
            refine j_lv [0, 1, 2] rfl ?_
            exact ih σ (x2 + 1) hs hw (by omega) (by omega) (by omega)
          ·
            refine j_aload_n h 1 dX8_isThere_37 rfl rfl ?_
            refine j_get h iX8 0 (mx_c0 _ _ _ σ) rfl 11 (by decide) tb3_215 rfl (v := .ref (a 2)) rfl dX8_isThere_38 ?_
            refine j_aload_n h 1 dX8_isThere_41 rfl rfl ?_
            refine j_get h iX8 0 (mx_c0 _ _ _ σ) rfl 15 (by decide) tb3_219 rfl (v := .ref (a 6)) rfl dX8_isThere_42 ?_
            refine j_iload_n h 0 dX8_isThere_45 rfl rfl ?_
            refine j_iald h 6 0 (mx_g6 (σ := σ) (F := (σ.2 5)) rfl) rfl (m_s h3 (by have := j_toLt c1001; have := hs.n8; omega)) dX8_isThere_46 ?_
            refine j_iald h 2 0 (mx_g2 (σ := σ) (F := (σ.2 1)) rfl) rfl (m_w hw (m_s h3 (by have := j_toLt c1001; have := hs.n8; omega)) (j_toGe c1003)) dX8_isThere_47 ?_
            refine j_iload_n h 2 dX8_isThere_48 rfl rfl ?_
            refine j_icmp_eq h dX8_isThere_49 (tgt := 58) (by decide) (fun c1006 => ?_) (fun c1006 => ?_)
            ·
              refine j_iload_n h 0 dX8_isThere_58 rfl rfl ?_
              refine j_aload_n h 1 dX8_isThere_59 rfl rfl ?_
              refine j_get h iX8 0 (mx_c0 _ _ _ σ) rfl 1 (by decide) tb3_205 rfl (v := .int (σ.1 0)) rfl dX8_isThere_60 ?_
              refine j_icmp_eq h dX8_isThere_63 (tgt := 103) (by decide) (fun c1007 => ?_) (fun c1007 => ?_)
              ·
                exact absurd (m_le c1007) c1001
              ·
                refine j_aload_n h 1 dX8_isThere_66 rfl rfl ?_
                refine j_get h iX8 0 (mx_c0 _ _ _ σ) rfl 7 (by decide) tb3_211 rfl (v := .int (σ.1 16)) rfl dX8_isThere_67 ?_
                refine j_if_eq h dX8_isThere_70 (tgt := 107) (by decide) (fun c1008 => ?_) (fun c1008 => ?_)
                ·
                  refine j_iconst h (v := 0) dX8_isThere_107 (by decide) ?_
                  subst hq1004
                  have E : gfX8_isThere (n + 1) σ x1 x2 = 0 := j_ig c1001 (j_ig c1003 (j_ig c1005 (j_ip c1006 (j_ip c1008 rfl))))
                  exact j_zreturn h hr (by decide) E.symm rfl dX8_isThere_108
                ·
                  refine j_iload_n h 0 dX8_isThere_73 rfl rfl ?_
                  refine j_aload_n h 1 dX8_isThere_74 rfl rfl ?_
                  refine j_get h iX8 0 (mx_c0 _ _ _ σ) rfl 10 (by decide) tb3_214 rfl (v := .ref (a 1)) rfl dX8_isThere_75 ?_
                  refine j_aload_n h 1 dX8_isThere_78 rfl rfl ?_
                  refine j_get h iX8 0 (mx_c0 _ _ _ σ) rfl 15 (by decide) tb3_219 rfl (v := .ref (a 6)) rfl dX8_isThere_79 ?_
                  refine j_iload_n h 0 dX8_isThere_82 rfl rfl ?_
                  refine j_iald h 6 0 (mx_g6 (σ := σ) (F := (σ.2 5)) rfl) rfl (m_s h3 (by have := j_toLt c1001; have := hs.n8; omega)) dX8_isThere_83 ?_
                  refine j_iald h 1 0 (mx_g1 (σ := σ) (F := (σ.2 0)) rfl) rfl (m_w hw (m_s h3 (by have := j_toLt c1001; have := hs.n8; omega)) (j_toGe c1003)) dX8_isThere_84 ?_
                  refine j_iconst h (v := 1) dX8_isThere_85 (by decide) ?_
                  refine j_icmp_ne h dX8_isThere_86 (tgt := 96) (by decide) (fun c1009 => ?_) (fun c1009 => ?_)
                  ·
                    refine j_aload_n h 1 dX8_isThere_96 rfl rfl ?_
                    refine j_get h iX8 0 (mx_c0 _ _ _ σ) rfl 3 (by decide) tb3_207 rfl (v := .int (σ.1 2)) rfl dX8_isThere_97 ?_
                    refine j_icmp_le h dX8_isThere_100 (tgt := 107) (by decide) (fun c1010 => ?_) (fun c1010 => ?_)
                    ·
                      refine j_iconst h (v := 0) dX8_isThere_107 (by decide) ?_
                      subst hq1004
                      have E : gfX8_isThere (n + 1) σ x1 x2 = 0 := j_ig c1001 (j_ig c1003 (j_ig c1005 (j_ip c1006 (j_ig c1008 (j_ig c1009 (j_ip c1010 rfl))))))
                      exact j_zreturn h hr (by decide) E.symm rfl dX8_isThere_108
                    ·
                      refine j_iconst h (v := 1) dX8_isThere_103 (by decide) ?_
                      refine j_goto h dX8_isThere_104 (tgt := 108) (by decide) ?_
                      subst hq1004
                      have E : gfX8_isThere (n + 1) σ x1 x2 = 1 := j_ig c1001 (j_ig c1003 (j_ig c1005 (j_ip c1006 (j_ig c1008 (j_ig c1009 (j_ig c1010 rfl))))))
                      exact j_zreturn h hr (by decide) E.symm rfl dX8_isThere_108
                  ·
                    refine j_aload_n h 1 dX8_isThere_89 rfl rfl ?_
                    refine j_get h iX8 0 (mx_c0 _ _ _ σ) rfl 4 (by decide) tb3_208 rfl (v := .int (σ.1 3)) rfl dX8_isThere_90 ?_
                    refine j_goto h dX8_isThere_93 (tgt := 100) (by decide) ?_
                    refine j_icmp_le h dX8_isThere_100 (tgt := 107) (by decide) (fun c1011 => ?_) (fun c1011 => ?_)
                    ·
                      refine j_iconst h (v := 0) dX8_isThere_107 (by decide) ?_
                      subst hq1004
                      have E : gfX8_isThere (n + 1) σ x1 x2 = 0 := j_ig c1001 (j_ig c1003 (j_ig c1005 (j_ip c1006 (j_ig c1008 (j_ip c1009 (j_ip c1011 rfl))))))
                      exact j_zreturn h hr (by decide) E.symm rfl dX8_isThere_108
                    ·
                      refine j_iconst h (v := 1) dX8_isThere_103 (by decide) ?_
                      refine j_goto h dX8_isThere_104 (tgt := 108) (by decide) ?_
                      subst hq1004
                      have E : gfX8_isThere (n + 1) σ x1 x2 = 1 := j_ig c1001 (j_ig c1003 (j_ig c1005 (j_ip c1006 (j_ig c1008 (j_ip c1009 (j_ig c1011 rfl))))))
                      exact j_zreturn h hr (by decide) E.symm rfl dX8_isThere_108
            ·
              refine j_iinc h 0 (v := (x2 + 1)) (lv' := [(2, .int (x2 + 1)), (0, .ref (a 0)), (1, .int x1)]) dX8_isThere_52 rfl (rfl) (by decide) rfl ?_
              refine j_goto h dX8_isThere_55 (tgt := 7) (by decide) ?_
              have hi := j_inc (j_hi1 c1001)
              have hl := j_toLt c1001
              subst hq1004
              have E : gfX8_isThere (n + 1) σ x1 x2 = gfX8_isThere n σ x1 (x2 + 1) := j_ig c1001 (j_ig c1003 (j_ig c1005 (j_ig c1006 rfl)))
              rw [E]
              refine j_lv [0, 1, 2] rfl ?_
              exact ih σ (x2 + 1) hs hw (by omega) (by omega) (by omega)
  refine j_aload_n h 0 dX8_isThere_0 rfl rfl ?_
  refine j_get h iX8 0 (mx_c0 _ _ _ σ) rfl 2 (by decide) tb3_206 rfl (v := .int (σ.1 1)) rfl dX8_isThere_1 ?_
  refine j_iconst h (v := 1) dX8_isThere_4 (by decide) ?_
  refine j_iadd h dX8_isThere_5 ?_
  refine j_istore_n h (lv' := [(2, .int ((σ.1 1) + 1)), (0, .ref (a 0)), (1, .int x1)]) dX8_isThere_6 rfl (by decide) rfl ?_
  have E : fX8_isThere σ x1 = gfX8_isThere 9 σ x1 ((σ.1 1) + 1) := rfl
  rw [E]
  refine j_lv [0, 1, 2] rfl ?_
  exact loop 9 σ ((σ.1 1) + 1) hs hw hs.there.2.2 hs.there.1 hs.there.2.1
