def fX0_beginAnew (σ : St) : St := (sg (sg σ 7 0) 8 0)
def rmX0_beginAnew : Room := { frames := 0, cells := 0, slots := 0, locals := 0 }
set_option maxRecDepth 100000 in
set_option maxHeartbeats 4000000 in
theorem kX0_beginAnew (l : Launch) (D : va_G) (a : Nat → Nat) (cI cZ : ClassId) (σ : St) : Cv l yX0_beginAnew cX0_beginAnew 1 none TB rmX0_beginAnew D vwCl [(cI, .int), (cZ, .boolean)] [.ref (a 13)] (fx a cI cZ σ) (fun _ => (fx a cI cZ (fX0_beginAnew σ))) 0 0 := by
  refine Cv_of (cc := cX0_beginAnew) (maxL := 1) (ret := none) (by decide +kernel) TBg (Nat.le_of_ble_eq_true rfl) ?_
  intro p e s m args below meth c A h hr hname
  refine j_aload_n h 0 dX0_beginAnew_0 rfl rfl ?_
  refine j_iconst h (v := 0) dX0_beginAnew_1 (by decide) ?_
  refine j_put h iX0 tyX0 tyX0_ok nmX0 13 (fx_c13 _ _ _ σ) rfl 3 (by decide) tb1_128 rfl rfl rfl rfl (Nat.le_of_ble_eq_true rfl) (w' := (fx a cI cZ (sg σ 7 0))) (fx_p13_3 _ _ _ σ _) dX0_beginAnew_2 ?_
  refine j_aload_n h 0 dX0_beginAnew_5 rfl rfl ?_
  refine j_iconst h (v := 0) dX0_beginAnew_6 (by decide) ?_
  refine j_put h iX0 tyX0 tyX0_ok nmX0 13 (fx_c13 _ _ _ (sg σ 7 0)) rfl 4 (by decide) tb1_129 rfl rfl rfl rfl (Nat.le_of_ble_eq_true rfl) (w' := (fx a cI cZ (sg (sg σ 7 0) 8 0))) (fx_p13_4 _ _ _ (sg σ 7 0) _) dX0_beginAnew_7 ?_
  have E : fX0_beginAnew σ = (sg (sg σ 7 0) 8 0) := rfl
  exact j_vreturn h hr (fun _ => 0) (congrArg (fx a cI cZ) E).symm dX0_beginAnew_10
theorem fr_fX0_beginAnew (σ : St) : Fr (fX0_beginAnew σ) σ := by
  have E : fX0_beginAnew σ = (sg (sg σ 7 0) 8 0) := rfl
  rw [E]
  exact (Fr.tr (Fr.sg (by decide)) (Fr.tr (Fr.sg (by decide)) (Fr.rf _)))
def fX0_size (σ : St) : Int32 := (σ.1 8)
def rmX0_size : Room := { frames := 0, cells := 0, slots := 0, locals := 0 }
set_option maxRecDepth 100000 in
set_option maxHeartbeats 4000000 in
theorem kX0_size (l : Launch) (D : va_G) (a : Nat → Nat) (cI cZ : ClassId) (σ : St) : Ci l yX0_size cX0_size 1 (some .int) TB rmX0_size D vwCl [(cI, .int), (cZ, .boolean)] [.ref (a 13)] (fx a cI cZ σ) (fx a cI cZ σ) (fX0_size σ) := by
  refine Ci_of (cc := cX0_size) (maxL := 1) (ret := (some .int)) (by decide +kernel) TBg (Nat.le_of_ble_eq_true rfl) ?_
  intro p e s m args below meth c A h hr
  refine j_aload_n h 0 dX0_size_0 rfl rfl ?_
  refine j_get h iX0 13 (fx_c13 _ _ _ σ) rfl 4 (by decide) tb1_129 rfl (v := .int (σ.1 8)) rfl dX0_size_1 ?_
  have E : fX0_size σ = (σ.1 8) := rfl
  exact j_ireturn h hr E.symm rfl dX0_size_4
def fX0_append (σ : St) (x1 x2 x3 : Int32) : St := (if 400 ≤ (σ.1 8) then (sg (ar (ar (ar σ 8 (upd (σ.2 8) (fm ((σ.1 7) + (σ.1 8)) 400).toNatClampNeg x1)) 9 (upd (σ.2 9) (fm ((σ.1 7) + (σ.1 8)) 400).toNatClampNeg x2)) 10 (upd (σ.2 10) (fm ((σ.1 7) + (σ.1 8)) 400).toNatClampNeg x3)) 7 (fm ((σ.1 7) + 1) 400)) else (sg (ar (ar (ar σ 8 (upd (σ.2 8) (fm ((σ.1 7) + (σ.1 8)) 400).toNatClampNeg x1)) 9 (upd (σ.2 9) (fm ((σ.1 7) + (σ.1 8)) 400).toNatClampNeg x2)) 10 (upd (σ.2 10) (fm ((σ.1 7) + (σ.1 8)) 400).toNatClampNeg x3)) 8 ((σ.1 8) + 1)))
def rmX0_append : Room := { frames := 1, cells := 0, slots := 0, locals := 22 }
set_option maxRecDepth 100000 in
set_option maxHeartbeats 4000000 in
theorem kX0_append (l : Launch) (D : va_G) (a : Nat → Nat) (cI cZ : ClassId) (σ : St) (x1 x2 x3 : Int32) : Cv l yX0_append cX0_append 5 none TB rmX0_append D vwCl [(cI, .int), (cZ, .boolean)] [.ref (a 13), .int x1, .int x2, .int x3] (fx a cI cZ σ) (fun _ => (fx a cI cZ (fX0_append σ x1 x2 x3))) 0 0 := by
  refine Cv_of (cc := cX0_append) (maxL := 5) (ret := none) (by decide +kernel) TBg (Nat.le_of_ble_eq_true rfl) ?_
  intro p e s m args below meth c A h hr hname
  refine j_aload_n h 0 dX0_append_0 rfl rfl ?_
  refine j_get h iX0 13 (fx_c13 _ _ _ σ) rfl 3 (by decide) tb1_128 rfl (v := .int (σ.1 7)) rfl dX0_append_1 ?_
  refine j_aload_n h 0 dX0_append_4 rfl rfl ?_
  refine j_get h iX0 13 (fx_c13 _ _ _ σ) rfl 4 (by decide) tb1_129 rfl (v := .int (σ.1 8)) rfl dX0_append_5 ?_
  refine j_iadd h dX0_append_8 ?_
  refine j_sipush h (v := 400) dX0_append_9 (by decide) ?_
  refine j_callSi0 h (kJ9_floorMod l D cI cZ ((σ.1 7) + (σ.1 8)) 400 (by decide)) tb3_59 tb1_37 tb1_3 tb1_38 ⟨rfl, rfl⟩ (n := 2) (by decide +kernel) ⟨Nat.le_of_ble_eq_true rfl, Nat.le_of_ble_eq_true rfl⟩ (As := [.int ((σ.1 7) + (σ.1 8)), .int 400]) rfl (st := []) rfl (Nat.le_of_ble_eq_true rfl) dX0_append_12 ⟨Nat.zero_le _, Nat.zero_le _⟩ ?_
  refine j_istore h (lv' := [(4, .int (fm ((σ.1 7) + (σ.1 8)) 400)), (0, .ref (a 13)), (1, .int x1), (2, .int x2), (3, .int x3)]) dX0_append_15 (by decide) rfl ?_
  refine j_aload_n h 1 dX0_append_17 rfl rfl ?_
  refine j_get h iX0 13 (fx_c13 _ _ _ σ) rfl 0 (by decide) tb1_125 rfl (v := .ref (a 14)) rfl dX0_append_18 ?_
  refine j_iload h 0 dX0_append_21 rfl ?_
  refine j_iload_n h 2 dX0_append_23 rfl rfl ?_
  refine j_iast h 14 0 (fx_g14 (σ := σ) (F := (σ.2 8)) rfl) rfl (fm_in400 _) (w' := (fx a cI cZ (ar σ 8 (upd (σ.2 8) (fm ((σ.1 7) + (σ.1 8)) 400).toNatClampNeg x1)))) (fx_s14 _ _ _ σ _) dX0_append_24 ?_
  refine j_aload_n h 1 dX0_append_25 rfl rfl ?_
  refine j_get h iX0 13 (fx_c13 _ _ _ (ar σ 8 (upd (σ.2 8) (fm ((σ.1 7) + (σ.1 8)) 400).toNatClampNeg x1))) rfl 1 (by decide) tb1_126 rfl (v := .ref (a 15)) rfl dX0_append_26 ?_
  refine j_iload h 0 dX0_append_29 rfl ?_
  refine j_iload_n h 3 dX0_append_31 rfl rfl ?_
  refine j_iast h 15 0 (fx_g15 (σ := (ar σ 8 (upd (σ.2 8) (fm ((σ.1 7) + (σ.1 8)) 400).toNatClampNeg x1))) (F := (σ.2 9)) rfl) rfl (fm_in400 _) (w' := (fx a cI cZ (ar (ar σ 8 (upd (σ.2 8) (fm ((σ.1 7) + (σ.1 8)) 400).toNatClampNeg x1)) 9 (upd (σ.2 9) (fm ((σ.1 7) + (σ.1 8)) 400).toNatClampNeg x2)))) (fx_s15 _ _ _ (ar σ 8 (upd (σ.2 8) (fm ((σ.1 7) + (σ.1 8)) 400).toNatClampNeg x1)) _) dX0_append_32 ?_
  refine j_aload_n h 1 dX0_append_33 rfl rfl ?_
  refine j_get h iX0 13 (fx_c13 _ _ _ (ar (ar σ 8 (upd (σ.2 8) (fm ((σ.1 7) + (σ.1 8)) 400).toNatClampNeg x1)) 9 (upd (σ.2 9) (fm ((σ.1 7) + (σ.1 8)) 400).toNatClampNeg x2))) rfl 2 (by decide) tb1_127 rfl (v := .ref (a 16)) rfl dX0_append_34 ?_
  refine j_iload h 0 dX0_append_37 rfl ?_
  refine j_iload_n h 4 dX0_append_39 rfl rfl ?_
  refine j_iast h 16 0 (fx_g16 (σ := (ar (ar σ 8 (upd (σ.2 8) (fm ((σ.1 7) + (σ.1 8)) 400).toNatClampNeg x1)) 9 (upd (σ.2 9) (fm ((σ.1 7) + (σ.1 8)) 400).toNatClampNeg x2))) (F := (σ.2 10)) rfl) rfl (fm_in400 _) (w' := (fx a cI cZ (ar (ar (ar σ 8 (upd (σ.2 8) (fm ((σ.1 7) + (σ.1 8)) 400).toNatClampNeg x1)) 9 (upd (σ.2 9) (fm ((σ.1 7) + (σ.1 8)) 400).toNatClampNeg x2)) 10 (upd (σ.2 10) (fm ((σ.1 7) + (σ.1 8)) 400).toNatClampNeg x3)))) (fx_s16 _ _ _ (ar (ar σ 8 (upd (σ.2 8) (fm ((σ.1 7) + (σ.1 8)) 400).toNatClampNeg x1)) 9 (upd (σ.2 9) (fm ((σ.1 7) + (σ.1 8)) 400).toNatClampNeg x2)) _) dX0_append_40 ?_
  refine j_aload_n h 1 dX0_append_41 rfl rfl ?_
  refine j_get h iX0 13 (fx_c13 _ _ _ (ar (ar (ar σ 8 (upd (σ.2 8) (fm ((σ.1 7) + (σ.1 8)) 400).toNatClampNeg x1)) 9 (upd (σ.2 9) (fm ((σ.1 7) + (σ.1 8)) 400).toNatClampNeg x2)) 10 (upd (σ.2 10) (fm ((σ.1 7) + (σ.1 8)) 400).toNatClampNeg x3))) rfl 4 (by decide) tb1_129 rfl (v := .int (σ.1 8)) rfl dX0_append_42 ?_
  refine j_sipush h (v := 400) dX0_append_45 (by decide) ?_
  refine j_icmp_ge h dX0_append_48 (tgt := 64) (by decide) (fun c1 => ?_) (fun c1 => ?_)
  ·
    refine j_aload_n h 1 dX0_append_64 rfl rfl ?_
    refine j_aload_n h 1 dX0_append_65 rfl rfl ?_
    refine j_get h iX0 13 (fx_c13 _ _ _ (ar (ar (ar σ 8 (upd (σ.2 8) (fm ((σ.1 7) + (σ.1 8)) 400).toNatClampNeg x1)) 9 (upd (σ.2 9) (fm ((σ.1 7) + (σ.1 8)) 400).toNatClampNeg x2)) 10 (upd (σ.2 10) (fm ((σ.1 7) + (σ.1 8)) 400).toNatClampNeg x3))) rfl 3 (by decide) tb1_128 rfl (v := .int (σ.1 7)) rfl dX0_append_66 ?_
    refine j_iconst h (v := 1) dX0_append_69 (by decide) ?_
    refine j_iadd h dX0_append_70 ?_
    refine j_sipush h (v := 400) dX0_append_71 (by decide) ?_
    refine j_callSi0 h (kJ9_floorMod l D cI cZ ((σ.1 7) + 1) 400 (by decide)) tb3_59 tb1_37 tb1_3 tb1_38 ⟨rfl, rfl⟩ (n := 2) (by decide +kernel) ⟨Nat.le_of_ble_eq_true rfl, Nat.le_of_ble_eq_true rfl⟩ (As := [.int ((σ.1 7) + 1), .int 400]) rfl (st := [.ref (a 13)]) rfl (Nat.le_of_ble_eq_true rfl) dX0_append_74 ⟨Nat.zero_le _, Nat.zero_le _⟩ ?_
    refine j_put h iX0 tyX0 tyX0_ok nmX0 13 (fx_c13 _ _ _ (ar (ar (ar σ 8 (upd (σ.2 8) (fm ((σ.1 7) + (σ.1 8)) 400).toNatClampNeg x1)) 9 (upd (σ.2 9) (fm ((σ.1 7) + (σ.1 8)) 400).toNatClampNeg x2)) 10 (upd (σ.2 10) (fm ((σ.1 7) + (σ.1 8)) 400).toNatClampNeg x3))) rfl 3 (by decide) tb1_128 rfl rfl rfl rfl (Nat.le_of_ble_eq_true rfl) (w' := (fx a cI cZ (sg (ar (ar (ar σ 8 (upd (σ.2 8) (fm ((σ.1 7) + (σ.1 8)) 400).toNatClampNeg x1)) 9 (upd (σ.2 9) (fm ((σ.1 7) + (σ.1 8)) 400).toNatClampNeg x2)) 10 (upd (σ.2 10) (fm ((σ.1 7) + (σ.1 8)) 400).toNatClampNeg x3)) 7 (fm ((σ.1 7) + 1) 400)))) (fx_p13_3 _ _ _ (ar (ar (ar σ 8 (upd (σ.2 8) (fm ((σ.1 7) + (σ.1 8)) 400).toNatClampNeg x1)) 9 (upd (σ.2 9) (fm ((σ.1 7) + (σ.1 8)) 400).toNatClampNeg x2)) 10 (upd (σ.2 10) (fm ((σ.1 7) + (σ.1 8)) 400).toNatClampNeg x3)) _) dX0_append_77 ?_
    have E : fX0_append σ x1 x2 x3 = (sg (ar (ar (ar σ 8 (upd (σ.2 8) (fm ((σ.1 7) + (σ.1 8)) 400).toNatClampNeg x1)) 9 (upd (σ.2 9) (fm ((σ.1 7) + (σ.1 8)) 400).toNatClampNeg x2)) 10 (upd (σ.2 10) (fm ((σ.1 7) + (σ.1 8)) 400).toNatClampNeg x3)) 7 (fm ((σ.1 7) + 1) 400)) := j_ip c1 rfl
    exact j_vreturn h hr (fun _ => 0) (congrArg (fx a cI cZ) E).symm dX0_append_80
  ·
    refine j_aload_n h 1 dX0_append_51 rfl rfl ?_
    refine j_dup h dX0_append_52 rfl ?_
    refine j_get h iX0 13 (fx_c13 _ _ _ (ar (ar (ar σ 8 (upd (σ.2 8) (fm ((σ.1 7) + (σ.1 8)) 400).toNatClampNeg x1)) 9 (upd (σ.2 9) (fm ((σ.1 7) + (σ.1 8)) 400).toNatClampNeg x2)) 10 (upd (σ.2 10) (fm ((σ.1 7) + (σ.1 8)) 400).toNatClampNeg x3))) rfl 4 (by decide) tb1_129 rfl (v := .int (σ.1 8)) rfl dX0_append_53 ?_
    refine j_iconst h (v := 1) dX0_append_56 (by decide) ?_
    refine j_iadd h dX0_append_57 ?_
    refine j_put h iX0 tyX0 tyX0_ok nmX0 13 (fx_c13 _ _ _ (ar (ar (ar σ 8 (upd (σ.2 8) (fm ((σ.1 7) + (σ.1 8)) 400).toNatClampNeg x1)) 9 (upd (σ.2 9) (fm ((σ.1 7) + (σ.1 8)) 400).toNatClampNeg x2)) 10 (upd (σ.2 10) (fm ((σ.1 7) + (σ.1 8)) 400).toNatClampNeg x3))) rfl 4 (by decide) tb1_129 rfl rfl rfl rfl (Nat.le_of_ble_eq_true rfl) (w' := (fx a cI cZ (sg (ar (ar (ar σ 8 (upd (σ.2 8) (fm ((σ.1 7) + (σ.1 8)) 400).toNatClampNeg x1)) 9 (upd (σ.2 9) (fm ((σ.1 7) + (σ.1 8)) 400).toNatClampNeg x2)) 10 (upd (σ.2 10) (fm ((σ.1 7) + (σ.1 8)) 400).toNatClampNeg x3)) 8 ((σ.1 8) + 1)))) (fx_p13_4 _ _ _ (ar (ar (ar σ 8 (upd (σ.2 8) (fm ((σ.1 7) + (σ.1 8)) 400).toNatClampNeg x1)) 9 (upd (σ.2 9) (fm ((σ.1 7) + (σ.1 8)) 400).toNatClampNeg x2)) 10 (upd (σ.2 10) (fm ((σ.1 7) + (σ.1 8)) 400).toNatClampNeg x3)) _) dX0_append_58 ?_
    refine j_goto h dX0_append_61 (tgt := 80) (by decide) ?_
    have E : fX0_append σ x1 x2 x3 = (sg (ar (ar (ar σ 8 (upd (σ.2 8) (fm ((σ.1 7) + (σ.1 8)) 400).toNatClampNeg x1)) 9 (upd (σ.2 9) (fm ((σ.1 7) + (σ.1 8)) 400).toNatClampNeg x2)) 10 (upd (σ.2 10) (fm ((σ.1 7) + (σ.1 8)) 400).toNatClampNeg x3)) 8 ((σ.1 8) + 1)) := j_ig c1 rfl
    exact j_vreturn h hr (fun _ => 0) (congrArg (fx a cI cZ) E).symm dX0_append_80
theorem fr_fX0_append (σ : St) (x1 x2 x3 : Int32) : Fr (fX0_append σ x1 x2 x3) σ := by
  by_cases c0 : 400 ≤ (σ.1 8)
  ·
    have E : fX0_append σ x1 x2 x3 = (sg (ar (ar (ar σ 8 (upd (σ.2 8) (fm ((σ.1 7) + (σ.1 8)) 400).toNatClampNeg x1)) 9 (upd (σ.2 9) (fm ((σ.1 7) + (σ.1 8)) 400).toNatClampNeg x2)) 10 (upd (σ.2 10) (fm ((σ.1 7) + (σ.1 8)) 400).toNatClampNeg x3)) 7 (fm ((σ.1 7) + 1) 400)) := j_ip c0 rfl
    rw [E]
    exact (Fr.tr (Fr.sg (by decide)) (Fr.tr Fr.ar (Fr.tr Fr.ar (Fr.tr Fr.ar (Fr.rf _)))))
  ·
    have E : fX0_append σ x1 x2 x3 = (sg (ar (ar (ar σ 8 (upd (σ.2 8) (fm ((σ.1 7) + (σ.1 8)) 400).toNatClampNeg x1)) 9 (upd (σ.2 9) (fm ((σ.1 7) + (σ.1 8)) 400).toNatClampNeg x2)) 10 (upd (σ.2 10) (fm ((σ.1 7) + (σ.1 8)) 400).toNatClampNeg x3)) 8 ((σ.1 8) + 1)) := j_ig c0 rfl
    rw [E]
    exact (Fr.tr (Fr.sg (by decide)) (Fr.tr Fr.ar (Fr.tr Fr.ar (Fr.tr Fr.ar (Fr.rf _)))))
def fX0_entry (σ : St) (x1 x2 : Int32) : Int32 := (if x2 = 0 then ((σ.2 8) (fm ((σ.1 7) + x1) 400).toNatClampNeg) else (if x2 = 1 then ((σ.2 9) (fm ((σ.1 7) + x1) 400).toNatClampNeg) else ((σ.2 10) (fm ((σ.1 7) + x1) 400).toNatClampNeg)))
def rmX0_entry : Room := { frames := 1, cells := 0, slots := 0, locals := 22 }
set_option maxRecDepth 100000 in
set_option maxHeartbeats 4000000 in
theorem kX0_entry (l : Launch) (D : va_G) (a : Nat → Nat) (cI cZ : ClassId) (σ : St) (x1 x2 : Int32) : Ci l yX0_entry cX0_entry 4 (some .int) TB rmX0_entry D vwCl [(cI, .int), (cZ, .boolean)] [.ref (a 13), .int x1, .int x2] (fx a cI cZ σ) (fx a cI cZ σ) (fX0_entry σ x1 x2) := by
  refine Ci_of (cc := cX0_entry) (maxL := 4) (ret := (some .int)) (by decide +kernel) TBg (Nat.le_of_ble_eq_true rfl) ?_
  intro p e s m args below meth c A h hr
  refine j_aload_n h 0 dX0_entry_0 rfl rfl ?_
  refine j_get h iX0 13 (fx_c13 _ _ _ σ) rfl 3 (by decide) tb1_128 rfl (v := .int (σ.1 7)) rfl dX0_entry_1 ?_
  refine j_iload_n h 1 dX0_entry_4 rfl rfl ?_
  refine j_iadd h dX0_entry_5 ?_
  refine j_sipush h (v := 400) dX0_entry_6 (by decide) ?_
  refine j_callSi0 h (kJ9_floorMod l D cI cZ ((σ.1 7) + x1) 400 (by decide)) tb3_59 tb1_37 tb1_3 tb1_38 ⟨rfl, rfl⟩ (n := 2) (by decide +kernel) ⟨Nat.le_of_ble_eq_true rfl, Nat.le_of_ble_eq_true rfl⟩ (As := [.int ((σ.1 7) + x1), .int 400]) rfl (st := []) rfl (Nat.le_of_ble_eq_true rfl) dX0_entry_9 ⟨Nat.zero_le _, Nat.zero_le _⟩ ?_
  refine j_istore_n h (lv' := [(3, .int (fm ((σ.1 7) + x1) 400)), (0, .ref (a 13)), (1, .int x1), (2, .int x2)]) dX0_entry_12 rfl (by decide) rfl ?_
  refine j_iload_n h 3 dX0_entry_13 rfl rfl ?_
  by_cases c1 : x2 = 0
  ·
    refine j_lookup h dX0_entry_14 (off := 26) (tgt := 40) (by decide) (by rw [c1]; decide) (by decide) ?_
    refine j_aload_n h 1 dX0_entry_40 rfl rfl ?_
    refine j_get h iX0 13 (fx_c13 _ _ _ σ) rfl 0 (by decide) tb1_125 rfl (v := .ref (a 14)) rfl dX0_entry_41 ?_
    refine j_iload_n h 0 dX0_entry_44 rfl rfl ?_
    refine j_iald h 14 0 (fx_g14 (σ := σ) (F := (σ.2 8)) rfl) rfl (fm_in400 _) dX0_entry_45 ?_
    have E : fX0_entry σ x1 x2 = ((σ.2 8) (fm ((σ.1 7) + x1) 400).toNatClampNeg) := j_ip c1 rfl
    exact j_ireturn h hr E.symm rfl dX0_entry_46
  ·
    by_cases c2 : x2 = 1
    ·
      refine j_lookup h dX0_entry_14 (off := 33) (tgt := 47) (by decide) (by rw [c2]; decide) (by decide) ?_
      refine j_aload_n h 1 dX0_entry_47 rfl rfl ?_
      refine j_get h iX0 13 (fx_c13 _ _ _ σ) rfl 1 (by decide) tb1_126 rfl (v := .ref (a 15)) rfl dX0_entry_48 ?_
      refine j_iload_n h 0 dX0_entry_51 rfl rfl ?_
      refine j_iald h 15 0 (fx_g15 (σ := σ) (F := (σ.2 9)) rfl) rfl (fm_in400 _) dX0_entry_52 ?_
      have E : fX0_entry σ x1 x2 = ((σ.2 9) (fm ((σ.1 7) + x1) 400).toNatClampNeg) := j_ig c1 (j_ip c2 rfl)
      exact j_ireturn h hr E.symm rfl dX0_entry_53
    ·
      refine j_lookup h dX0_entry_14 (off := 40) (tgt := 54) (by decide) (by rw [show ([(0, 26), (1, 33)] : List (Int × Int)) = [(0, 26), (1, 33)] from rfl, lv_osw c1 (by decide), lv_osw c2 (by decide)]; rfl) (by decide) ?_
      refine j_aload_n h 1 dX0_entry_54 rfl rfl ?_
      refine j_get h iX0 13 (fx_c13 _ _ _ σ) rfl 2 (by decide) tb1_127 rfl (v := .ref (a 16)) rfl dX0_entry_55 ?_
      refine j_iload_n h 0 dX0_entry_58 rfl rfl ?_
      refine j_iald h 16 0 (fx_g16 (σ := σ) (F := (σ.2 10)) rfl) rfl (fm_in400 _) dX0_entry_59 ?_
      have E : fX0_entry σ x1 x2 = ((σ.2 10) (fm ((σ.1 7) + x1) 400).toNatClampNeg) := j_ig c1 (j_ig c2 rfl)
      exact j_ireturn h hr E.symm rfl dX0_entry_60
def fX6_beginAnew (σ : St) : St := (sg (sg (sg (sg (sg (sg (sg (ar σ 11 (fillF 5 0 (σ.2 11))) 9 0) 10 0) 11 0) 12 0) 13 0) 14 0) 15 0)
def rmX6_beginAnew : Room := { frames := 1, cells := 0, slots := 0, locals := 23 }
set_option maxRecDepth 100000 in
set_option maxHeartbeats 4000000 in
theorem kX6_beginAnew (l : Launch) (D : va_G) (a : Nat → Nat) (cI cZ : ClassId) (σ : St) : Cv l yX6_beginAnew cX6_beginAnew 1 none TB rmX6_beginAnew D vwCl [(cI, .int), (cZ, .boolean)] [.ref (a 17)] (fx a cI cZ σ) (fun _ => (fx a cI cZ (fX6_beginAnew σ))) 0 0 := by
  refine Cv_of (cc := cX6_beginAnew) (maxL := 1) (ret := none) (by decide +kernel) TBg (Nat.le_of_ble_eq_true rfl) ?_
  intro p e s m args below meth c A h hr hname
  refine j_aload_n h 0 dX6_beginAnew_0 rfl rfl ?_
  refine j_get h iX6 17 (fx_c17 _ _ _ σ) rfl 0 (by decide) tb1_147 rfl (v := .ref (a 18)) rfl dX6_beginAnew_1 ?_
  refine j_iconst h (v := 0) dX6_beginAnew_4 (by decide) ?_
  refine j_callSvG h (kJ7_fill l D cI cZ (a 18) 5 (σ.2 11) 0 (by decide)) tb2_53 tb1_106 tb1_7 tb1_107 ⟨rfl, rfl⟩ (n := 2) (by decide +kernel) ⟨Nat.le_of_ble_eq_true rfl, Nat.le_of_ble_eq_true rfl⟩ (As := [.ref (a 18), .int 0]) rfl (st := []) rfl (Nat.le_of_ble_eq_true rfl) dX6_beginAnew_5 ⟨Nat.zero_le _, Nat.zero_le _⟩ [18] [0, 1, 2, 3, 4, 5, 6, 7, 8, 9, 10, 11, 12, 13, 14, 15, 16, 17, 19, 20, 21, 22, 23, 24] [0, 1, 2, 3, 4, 5, 6, 7, 8, 9, 10, 11, 12, 13, 14, 15, 16, 17, 24, 18, 19, 20, 21, 22, 23] rfl rfl (wr := ((fx a cI cZ σ).eraseIdx 18)) rfl rfl (by decide) (w2 := (fx a cI cZ (ar σ 11 (fillF 5 0 (σ.2 11))))) rfl rfl ?_
  refine j_aload_n h 0 dX6_beginAnew_8 rfl rfl ?_
  refine j_iconst h (v := 0) dX6_beginAnew_9 (by decide) ?_
  refine j_put h iX6 tyX6 tyX6_ok nmX6 17 (fx_c17 _ _ _ (ar σ 11 (fillF 5 0 (σ.2 11)))) rfl 1 (by decide) tb1_148 rfl rfl rfl rfl (Nat.le_of_ble_eq_true rfl) (w' := (fx a cI cZ (sg (ar σ 11 (fillF 5 0 (σ.2 11))) 9 0))) (fx_p17_1 _ _ _ (ar σ 11 (fillF 5 0 (σ.2 11))) _) dX6_beginAnew_10 ?_
  refine j_aload_n h 0 dX6_beginAnew_13 rfl rfl ?_
  refine j_iconst h (v := 0) dX6_beginAnew_14 (by decide) ?_
  refine j_put h iX6 tyX6 tyX6_ok nmX6 17 (fx_c17 _ _ _ (sg (ar σ 11 (fillF 5 0 (σ.2 11))) 9 0)) rfl 2 (by decide) tb1_151 rfl rfl rfl rfl (Nat.le_of_ble_eq_true rfl) (w' := (fx a cI cZ (sg (sg (ar σ 11 (fillF 5 0 (σ.2 11))) 9 0) 10 0))) (fx_p17_2 _ _ _ (sg (ar σ 11 (fillF 5 0 (σ.2 11))) 9 0) _) dX6_beginAnew_15 ?_
  refine j_aload_n h 0 dX6_beginAnew_18 rfl rfl ?_
  refine j_iconst h (v := 0) dX6_beginAnew_19 (by decide) ?_
  refine j_put h iX6 tyX6 tyX6_ok nmX6 17 (fx_c17 _ _ _ (sg (sg (ar σ 11 (fillF 5 0 (σ.2 11))) 9 0) 10 0)) rfl 3 (by decide) tb1_154 rfl rfl rfl rfl (Nat.le_of_ble_eq_true rfl) (w' := (fx a cI cZ (sg (sg (sg (ar σ 11 (fillF 5 0 (σ.2 11))) 9 0) 10 0) 11 0))) (fx_p17_3 _ _ _ (sg (sg (ar σ 11 (fillF 5 0 (σ.2 11))) 9 0) 10 0) _) dX6_beginAnew_20 ?_
  refine j_aload_n h 0 dX6_beginAnew_23 rfl rfl ?_
  refine j_iconst h (v := 0) dX6_beginAnew_24 (by decide) ?_
  refine j_put h iX6 tyX6 tyX6_ok nmX6 17 (fx_c17 _ _ _ (sg (sg (sg (ar σ 11 (fillF 5 0 (σ.2 11))) 9 0) 10 0) 11 0)) rfl 4 (by decide) tb1_157 rfl rfl rfl rfl (Nat.le_of_ble_eq_true rfl) (w' := (fx a cI cZ (sg (sg (sg (sg (ar σ 11 (fillF 5 0 (σ.2 11))) 9 0) 10 0) 11 0) 12 0))) (fx_p17_4 _ _ _ (sg (sg (sg (ar σ 11 (fillF 5 0 (σ.2 11))) 9 0) 10 0) 11 0) _) dX6_beginAnew_25 ?_
  refine j_aload_n h 0 dX6_beginAnew_28 rfl rfl ?_
  refine j_iconst h (v := 0) dX6_beginAnew_29 (by decide) ?_
  refine j_put h iX6 tyX6 tyX6_ok nmX6 17 (fx_c17 _ _ _ (sg (sg (sg (sg (ar σ 11 (fillF 5 0 (σ.2 11))) 9 0) 10 0) 11 0) 12 0)) rfl 5 (by decide) tb1_160 rfl rfl rfl rfl (Nat.le_of_ble_eq_true rfl) (w' := (fx a cI cZ (sg (sg (sg (sg (sg (ar σ 11 (fillF 5 0 (σ.2 11))) 9 0) 10 0) 11 0) 12 0) 13 0))) (fx_p17_5 _ _ _ (sg (sg (sg (sg (ar σ 11 (fillF 5 0 (σ.2 11))) 9 0) 10 0) 11 0) 12 0) _) dX6_beginAnew_30 ?_
  refine j_aload_n h 0 dX6_beginAnew_33 rfl rfl ?_
  refine j_iconst h (v := 0) dX6_beginAnew_34 (by decide) ?_
  refine j_put h iX6 tyX6 tyX6_ok nmX6 17 (fx_c17 _ _ _ (sg (sg (sg (sg (sg (ar σ 11 (fillF 5 0 (σ.2 11))) 9 0) 10 0) 11 0) 12 0) 13 0)) rfl 6 (by decide) tb1_163 rfl rfl rfl rfl (Nat.le_of_ble_eq_true rfl) (w' := (fx a cI cZ (sg (sg (sg (sg (sg (sg (ar σ 11 (fillF 5 0 (σ.2 11))) 9 0) 10 0) 11 0) 12 0) 13 0) 14 0))) (fx_p17_6 _ _ _ (sg (sg (sg (sg (sg (ar σ 11 (fillF 5 0 (σ.2 11))) 9 0) 10 0) 11 0) 12 0) 13 0) _) dX6_beginAnew_35 ?_
  refine j_aload_n h 0 dX6_beginAnew_38 rfl rfl ?_
  refine j_iconst h (v := 0) dX6_beginAnew_39 (by decide) ?_
  refine j_put h iX6 tyX6 tyX6_ok nmX6 17 (fx_c17 _ _ _ (sg (sg (sg (sg (sg (sg (ar σ 11 (fillF 5 0 (σ.2 11))) 9 0) 10 0) 11 0) 12 0) 13 0) 14 0)) rfl 7 (by decide) tb1_166 rfl rfl rfl rfl (Nat.le_of_ble_eq_true rfl) (w' := (fx a cI cZ (sg (sg (sg (sg (sg (sg (sg (ar σ 11 (fillF 5 0 (σ.2 11))) 9 0) 10 0) 11 0) 12 0) 13 0) 14 0) 15 0))) (fx_p17_7 _ _ _ (sg (sg (sg (sg (sg (sg (ar σ 11 (fillF 5 0 (σ.2 11))) 9 0) 10 0) 11 0) 12 0) 13 0) 14 0) _) dX6_beginAnew_40 ?_
  have E : fX6_beginAnew σ = (sg (sg (sg (sg (sg (sg (sg (ar σ 11 (fillF 5 0 (σ.2 11))) 9 0) 10 0) 11 0) 12 0) 13 0) 14 0) 15 0) := rfl
  exact j_vreturn h hr (fun _ => 0) (congrArg (fx a cI cZ) E).symm dX6_beginAnew_43
theorem fr_fX6_beginAnew (σ : St) : Fr (fX6_beginAnew σ) σ := by
  have E : fX6_beginAnew σ = (sg (sg (sg (sg (sg (sg (sg (ar σ 11 (fillF 5 0 (σ.2 11))) 9 0) 10 0) 11 0) 12 0) 13 0) 14 0) 15 0) := rfl
  rw [E]
  exact (Fr.tr (Fr.sg (by decide)) (Fr.tr (Fr.sg (by decide)) (Fr.tr (Fr.sg (by decide)) (Fr.tr (Fr.sg (by decide)) (Fr.tr (Fr.sg (by decide)) (Fr.tr (Fr.sg (by decide)) (Fr.tr (Fr.sg (by decide)) (Fr.tr Fr.ar (Fr.rf _)))))))))
def fX6_addCause (σ : St) (x1 : Int32) : St := (if x1 < 0 then σ else (if 5 ≤ x1 then σ else (ar σ 11 (upd (σ.2 11) x1.toNatClampNeg (((σ.2 11) x1.toNatClampNeg) + 1)))))
def rmX6_addCause : Room := { frames := 0, cells := 0, slots := 0, locals := 0 }
set_option maxRecDepth 100000 in
set_option maxHeartbeats 4000000 in
theorem kX6_addCause (l : Launch) (D : va_G) (a : Nat → Nat) (cI cZ : ClassId) (σ : St) (x1 : Int32) : Cv l yX6_addCause cX6_addCause 2 none TB rmX6_addCause D vwCl [(cI, .int), (cZ, .boolean)] [.ref (a 17), .int x1] (fx a cI cZ σ) (fun _ => (fx a cI cZ (fX6_addCause σ x1))) 0 0 := by
  refine Cv_of (cc := cX6_addCause) (maxL := 2) (ret := none) (by decide +kernel) TBg (Nat.le_of_ble_eq_true rfl) ?_
  intro p e s m args below meth c A h hr hname
  refine j_iload_n h 1 dX6_addCause_0 rfl rfl ?_
  refine j_if_lt h dX6_addCause_1 (tgt := 19) (by decide) (fun c1 => ?_) (fun c1 => ?_)
  ·
    have E : fX6_addCause σ x1 = σ := j_ip c1 rfl
    exact j_vreturn h hr (fun _ => 0) (congrArg (fx a cI cZ) E).symm dX6_addCause_19
  ·
    refine j_iload_n h 1 dX6_addCause_4 rfl rfl ?_
    refine j_iconst h (v := 5) dX6_addCause_5 (by decide) ?_
    refine j_icmp_ge h dX6_addCause_6 (tgt := 19) (by decide) (fun c2 => ?_) (fun c2 => ?_)
    ·
      have E : fX6_addCause σ x1 = σ := j_ig c1 (j_ip c2 rfl)
      exact j_vreturn h hr (fun _ => 0) (congrArg (fx a cI cZ) E).symm dX6_addCause_19
    ·
      refine j_aload_n h 0 dX6_addCause_9 rfl rfl ?_
      refine j_get h iX6 17 (fx_c17 _ _ _ σ) rfl 0 (by decide) tb1_147 rfl (v := .ref (a 18)) rfl dX6_addCause_10 ?_
      refine j_iload_n h 1 dX6_addCause_13 rfl rfl ?_
      refine j_dup2 h dX6_addCause_14 rfl rfl ?_
      refine j_iald h 18 0 (fx_g18 (σ := σ) (F := (σ.2 11)) rfl) rfl (j_in5 (j_lo1 c1) (j_hi1 c2)) dX6_addCause_15 ?_
      refine j_iconst h (v := 1) dX6_addCause_16 (by decide) ?_
      refine j_iadd h dX6_addCause_17 ?_
      refine j_iast h 18 0 (fx_g18 (σ := σ) (F := (σ.2 11)) rfl) rfl (j_in5 (j_lo1 c1) (j_hi1 c2)) (w' := (fx a cI cZ (ar σ 11 (upd (σ.2 11) x1.toNatClampNeg (((σ.2 11) x1.toNatClampNeg) + 1))))) (fx_s18 _ _ _ σ _) dX6_addCause_18 ?_
      have E : fX6_addCause σ x1 = (ar σ 11 (upd (σ.2 11) x1.toNatClampNeg (((σ.2 11) x1.toNatClampNeg) + 1))) := j_ig c1 (j_ig c2 rfl)
      exact j_vreturn h hr (fun _ => 0) (congrArg (fx a cI cZ) E).symm dX6_addCause_19
theorem fr_fX6_addCause (σ : St) (x1 : Int32) : Fr (fX6_addCause σ x1) σ := by
  by_cases c0 : x1 < 0
  ·
    have E : fX6_addCause σ x1 = σ := j_ip c0 rfl
    rw [E]
    exact (Fr.rf _)
  ·
    by_cases c1 : 5 ≤ x1
    ·
      have E : fX6_addCause σ x1 = σ := j_ig c0 (j_ip c1 rfl)
      rw [E]
      exact (Fr.rf _)
    ·
      have E : fX6_addCause σ x1 = (ar σ 11 (upd (σ.2 11) x1.toNatClampNeg (((σ.2 11) x1.toNatClampNeg) + 1))) := j_ig c0 (j_ig c1 rfl)
      rw [E]
      exact (Fr.tr Fr.ar (Fr.rf _))
def fX6_cyclesWith (σ : St) (x1 : Int32) : Int32 := (if x1 < 0 then 0 else (if 5 ≤ x1 then 0 else ((σ.2 11) x1.toNatClampNeg)))
def rmX6_cyclesWith : Room := { frames := 0, cells := 0, slots := 0, locals := 0 }
set_option maxRecDepth 100000 in
set_option maxHeartbeats 4000000 in
theorem kX6_cyclesWith (l : Launch) (D : va_G) (a : Nat → Nat) (cI cZ : ClassId) (σ : St) (x1 : Int32) : Ci l yX6_cyclesWith cX6_cyclesWith 2 (some .int) TB rmX6_cyclesWith D vwCl [(cI, .int), (cZ, .boolean)] [.ref (a 17), .int x1] (fx a cI cZ σ) (fx a cI cZ σ) (fX6_cyclesWith σ x1) := by
  refine Ci_of (cc := cX6_cyclesWith) (maxL := 2) (ret := (some .int)) (by decide +kernel) TBg (Nat.le_of_ble_eq_true rfl) ?_
  intro p e s m args below meth c A h hr
  refine j_iload_n h 1 dX6_cyclesWith_0 rfl rfl ?_
  refine j_if_lt h dX6_cyclesWith_1 (tgt := 18) (by decide) (fun c1 => ?_) (fun c1 => ?_)
  ·
    refine j_iconst h (v := 0) dX6_cyclesWith_18 (by decide) ?_
    have E : fX6_cyclesWith σ x1 = 0 := j_ip c1 rfl
    exact j_ireturn h hr E.symm rfl dX6_cyclesWith_19
  ·
    refine j_iload_n h 1 dX6_cyclesWith_4 rfl rfl ?_
    refine j_iconst h (v := 5) dX6_cyclesWith_5 (by decide) ?_
    refine j_icmp_ge h dX6_cyclesWith_6 (tgt := 18) (by decide) (fun c2 => ?_) (fun c2 => ?_)
    ·
      refine j_iconst h (v := 0) dX6_cyclesWith_18 (by decide) ?_
      have E : fX6_cyclesWith σ x1 = 0 := j_ig c1 (j_ip c2 rfl)
      exact j_ireturn h hr E.symm rfl dX6_cyclesWith_19
    ·
      refine j_aload_n h 0 dX6_cyclesWith_9 rfl rfl ?_
      refine j_get h iX6 17 (fx_c17 _ _ _ σ) rfl 0 (by decide) tb1_147 rfl (v := .ref (a 18)) rfl dX6_cyclesWith_10 ?_
      refine j_iload_n h 1 dX6_cyclesWith_13 rfl rfl ?_
      refine j_iald h 18 0 (fx_g18 (σ := σ) (F := (σ.2 11)) rfl) rfl (j_in5 (j_lo1 c1) (j_hi1 c2)) dX6_cyclesWith_14 ?_
      refine j_goto h dX6_cyclesWith_15 (tgt := 19) (by decide) ?_
      have E : fX6_cyclesWith σ x1 = ((σ.2 11) x1.toNatClampNeg) := j_ig c1 (j_ig c2 rfl)
      exact j_ireturn h hr E.symm rfl dX6_cyclesWith_19
