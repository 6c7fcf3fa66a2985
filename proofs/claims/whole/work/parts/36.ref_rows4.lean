def rmX8_fetch : Room := { frames := 2, cells := 0, slots := 0, locals := 44 }
set_option maxRecDepth 100000 in
set_option maxHeartbeats 4000000 in
theorem kX8_fetch (l : Launch) (D : va_G) (a : Nat → Nat) (cI cZ : ClassId) (σ : St) {K : Nat} (hb : mB σ) (hv : mV K σ) : Cv l yX8_fetch cX8_fetch 2 none TB rmX8_fetch D vwCl [(cI, .int), (cZ, .boolean)] [.ref (a 0)] (mx a cI cZ σ) (fun _ => (mx a cI cZ (fX8_fetch σ))) 0 0 := by
  refine Cv_of (cc := cX8_fetch) (maxL := 2) (ret := none) (by decide +kernel) TBg (Nat.le_of_ble_eq_true rfl) ?_
  intro p e s m args below meth c A h hr hname
  refine j_aload_n h 0 dX8_fetch_0 rfl rfl ?_
  refine j_get h iX8 0 (mx_c0 _ _ _ σ) rfl 30 (by decide) tb3_234 rfl (v := .int (σ.1 21)) rfl dX8_fetch_1 ?_
  refine j_if_eq h dX8_fetch_4 (tgt := 23) (by decide) (fun c1 => ?_) (fun c1 => ?_)
  ·
    have E : fX8_fetch σ = σ := j_ip c1 rfl
    exact j_vreturn h hr (fun _ => 0) (congrArg (mx a cI cZ) E).symm dX8_fetch_23
  ·
    refine j_aload_n h 0 dX8_fetch_7 rfl rfl ?_
    refine j_get h iX8 0 (mx_c0 _ _ _ σ) rfl 15 (by decide) tb3_219 rfl (v := .ref (a 6)) rfl dX8_fetch_8 ?_
    refine j_iconst h (v := 0) dX8_fetch_11 (by decide) ?_
    refine j_iald h 6 0 (mx_g6 (σ := σ) (F := (σ.2 5)) rfl) rfl (vp_in_nI (n := 0) (N := 8) (by decide) (by decide)) dX8_fetch_12 ?_
    refine j_if_ge h dX8_fetch_13 (tgt := 23) (by decide) (fun c2 => ?_) (fun c2 => ?_)
    ·
      have E : fX8_fetch σ = σ := j_ig c1 (j_ip c2 rfl)
      exact j_vreturn h hr (fun _ => 0) (congrArg (mx a cI cZ) E).symm dX8_fetch_23
    ·
      refine j_aload_n h 0 dX8_fetch_16 rfl rfl ?_
      refine j_get h iX8 0 (mx_c0 _ _ _ σ) rfl 28 (by decide) tb3_232 rfl (v := .int (σ.1 20)) rfl dX8_fetch_17 ?_
      refine j_if_eq h dX8_fetch_20 (tgt := 24) (by decide) (fun c3 => ?_) (fun c3 => ?_)
      ·
        refine j_aload_n h 0 dX8_fetch_24 rfl rfl ?_
        refine j_get h iX8 0 (mx_c0 _ _ _ σ) rfl 26 (by decide) tb3_230 rfl (v := .int (σ.1 18)) rfl dX8_fetch_25 ?_
        refine j_istore_n h (lv' := [(1, .int (σ.1 18)), (0, .ref (a 0))]) dX8_fetch_28 rfl (by decide) rfl ?_
        refine j_aload_n h 1 dX8_fetch_29 rfl rfl ?_
        refine j_aload_n h 1 dX8_fetch_30 rfl rfl ?_
        refine j_get h iX8 0 (mx_c0 _ _ _ σ) rfl 26 (by decide) tb3_230 rfl (v := .int (σ.1 18)) rfl dX8_fetch_31 ?_
        refine j_iconst h (v := 1) dX8_fetch_34 (by decide) ?_
        refine j_iadd h dX8_fetch_35 ?_
        refine j_aload_n h 1 dX8_fetch_36 rfl rfl ?_
        refine j_get h iX8 0 (mx_c0 _ _ _ σ) rfl 9 (by decide) tb3_213 rfl (v := .int (σ.1 6)) rfl dX8_fetch_37 ?_
        refine j_irem h dX8_fetch_40 hb.w0 ?_
        refine j_put h iX8 tyX8 tyX8_ok nmX8 0 (mx_c0 _ _ _ σ) rfl 26 (by decide) tb3_230 rfl rfl rfl rfl (Nat.le_of_ble_eq_true rfl) (w' := (mx a cI cZ (sg σ 18 (((σ.1 18) + 1) - ((σ.1 18) + 1) / (σ.1 6) * (σ.1 6))))) (mx_p0_26 _ _ _ σ _) dX8_fetch_41 ?_
        refine j_aload_n h 1 dX8_fetch_44 rfl rfl ?_
        refine j_dup h dX8_fetch_45 rfl ?_
        refine j_get h iX8 0 (mx_c0 _ _ _ (sg σ 18 (((σ.1 18) + 1) - ((σ.1 18) + 1) / (σ.1 6) * (σ.1 6)))) rfl 33 (by decide) tb3_237 rfl (v := .int (σ.1 11)) rfl dX8_fetch_46 ?_
        refine j_iconst h (v := 1) dX8_fetch_49 (by decide) ?_
        refine j_iadd h dX8_fetch_50 ?_
        refine j_put h iX8 tyX8 tyX8_ok nmX8 0 (mx_c0 _ _ _ (sg σ 18 (((σ.1 18) + 1) - ((σ.1 18) + 1) / (σ.1 6) * (σ.1 6)))) rfl 33 (by decide) tb3_237 rfl rfl rfl rfl (Nat.le_of_ble_eq_true rfl) (w' := (mx a cI cZ (sg (sg σ 18 (((σ.1 18) + 1) - ((σ.1 18) + 1) / (σ.1 6) * (σ.1 6))) 11 ((σ.1 11) + 1)))) (mx_p0_33 _ _ _ (sg σ 18 (((σ.1 18) + 1) - ((σ.1 18) + 1) / (σ.1 6) * (σ.1 6))) _) dX8_fetch_51 ?_
        refine j_aload_n h 1 dX8_fetch_54 rfl rfl ?_
        refine j_get h iX8 0 (mx_c0 _ _ _ (sg (sg σ 18 (((σ.1 18) + 1) - ((σ.1 18) + 1) / (σ.1 6) * (σ.1 6))) 11 ((σ.1 11) + 1))) rfl 15 (by decide) tb3_219 rfl (v := .ref (a 6)) rfl dX8_fetch_55 ?_
        refine j_iconst h (v := 0) dX8_fetch_58 (by decide) ?_
        refine j_iload_n h 0 dX8_fetch_59 rfl rfl ?_
        refine j_iast h 6 0 (mx_g6 (σ := (sg (sg σ 18 (((σ.1 18) + 1) - ((σ.1 18) + 1) / (σ.1 6) * (σ.1 6))) 11 ((σ.1 11) + 1))) (F := (σ.2 5)) rfl) rfl (vp_in_nI (n := 0) (N := 8) (by decide) (by decide)) (w' := (mx a cI cZ (ar (sg (sg σ 18 (((σ.1 18) + 1) - ((σ.1 18) + 1) / (σ.1 6) * (σ.1 6))) 11 ((σ.1 11) + 1)) 5 (upd (σ.2 5) (0 : Int32).toNatClampNeg (σ.1 18))))) (mx_s6 _ _ _ (sg (sg σ 18 (((σ.1 18) + 1) - ((σ.1 18) + 1) / (σ.1 6) * (σ.1 6))) 11 ((σ.1 11) + 1)) _) dX8_fetch_60 ?_
        refine j_aload_n h 1 dX8_fetch_61 rfl rfl ?_
        refine j_get h iX8 0 (mx_c0 _ _ _ (ar (sg (sg σ 18 (((σ.1 18) + 1) - ((σ.1 18) + 1) / (σ.1 6) * (σ.1 6))) 11 ((σ.1 11) + 1)) 5 (upd (σ.2 5) (0 : Int32).toNatClampNeg (σ.1 18)))) rfl 16 (by decide) tb3_220 rfl (v := .ref (a 7)) rfl dX8_fetch_62 ?_
        refine j_iconst h (v := 0) dX8_fetch_65 (by decide) ?_
        refine j_aload_n h 1 dX8_fetch_66 rfl rfl ?_
        refine j_get h iX8 0 (mx_c0 _ _ _ (ar (sg (sg σ 18 (((σ.1 18) + 1) - ((σ.1 18) + 1) / (σ.1 6) * (σ.1 6))) 11 ((σ.1 11) + 1)) 5 (upd (σ.2 5) (0 : Int32).toNatClampNeg (σ.1 18)))) rfl 27 (by decide) tb3_231 rfl (v := .int (σ.1 19)) rfl dX8_fetch_67 ?_
        refine j_if_ne h dX8_fetch_70 (tgt := 77) (by decide) (fun c4 => ?_) (fun c4 => ?_)
        ·
          refine j_iconst h (v := 0) dX8_fetch_77 (by decide) ?_
          refine j_zast h 7 1 (mx_g7 (σ := (ar (sg (sg σ 18 (((σ.1 18) + 1) - ((σ.1 18) + 1) / (σ.1 6) * (σ.1 6))) 11 ((σ.1 11) + 1)) 5 (upd (σ.2 5) (0 : Int32).toNatClampNeg (σ.1 18)))) (F := (σ.2 6)) rfl) rfl (vp_in_nI (n := 0) (N := 8) (by decide) (by decide)) (w' := (mx a cI cZ (ar (ar (sg (sg σ 18 (((σ.1 18) + 1) - ((σ.1 18) + 1) / (σ.1 6) * (σ.1 6))) 11 ((σ.1 11) + 1)) 5 (upd (σ.2 5) (0 : Int32).toNatClampNeg (σ.1 18))) 6 (upd (σ.2 6) (0 : Int32).toNatClampNeg (vp_nar .boolean 0))))) (mx_s7 _ _ _ (ar (sg (sg σ 18 (((σ.1 18) + 1) - ((σ.1 18) + 1) / (σ.1 6) * (σ.1 6))) 11 ((σ.1 11) + 1)) 5 (upd (σ.2 5) (0 : Int32).toNatClampNeg (σ.1 18))) _) dX8_fetch_78 ?_
          refine j_aload_n h 1 dX8_fetch_79 rfl rfl ?_
          refine j_get h iX8 0 (mx_c0 _ _ _ (ar (ar (sg (sg σ 18 (((σ.1 18) + 1) - ((σ.1 18) + 1) / (σ.1 6) * (σ.1 6))) 11 ((σ.1 11) + 1)) 5 (upd (σ.2 5) (0 : Int32).toNatClampNeg (σ.1 18))) 6 (upd (σ.2 6) (0 : Int32).toNatClampNeg (vp_nar .boolean 0)))) rfl 17 (by decide) tb3_221 rfl (v := .ref (a 8)) rfl dX8_fetch_80 ?_
          refine j_iconst h (v := 0) dX8_fetch_83 (by decide) ?_
          refine j_iconst h (v := 0) dX8_fetch_84 (by decide) ?_
          refine j_zast h 8 1 (mx_g8 (σ := (ar (ar (sg (sg σ 18 (((σ.1 18) + 1) - ((σ.1 18) + 1) / (σ.1 6) * (σ.1 6))) 11 ((σ.1 11) + 1)) 5 (upd (σ.2 5) (0 : Int32).toNatClampNeg (σ.1 18))) 6 (upd (σ.2 6) (0 : Int32).toNatClampNeg (vp_nar .boolean 0)))) (F := (σ.2 7)) rfl) rfl (vp_in_nI (n := 0) (N := 8) (by decide) (by decide)) (w' := (mx a cI cZ (ar (ar (ar (sg (sg σ 18 (((σ.1 18) + 1) - ((σ.1 18) + 1) / (σ.1 6) * (σ.1 6))) 11 ((σ.1 11) + 1)) 5 (upd (σ.2 5) (0 : Int32).toNatClampNeg (σ.1 18))) 6 (upd (σ.2 6) (0 : Int32).toNatClampNeg (vp_nar .boolean 0))) 7 (upd (σ.2 7) (0 : Int32).toNatClampNeg (vp_nar .boolean 0))))) (mx_s8 _ _ _ (ar (ar (sg (sg σ 18 (((σ.1 18) + 1) - ((σ.1 18) + 1) / (σ.1 6) * (σ.1 6))) 11 ((σ.1 11) + 1)) 5 (upd (σ.2 5) (0 : Int32).toNatClampNeg (σ.1 18))) 6 (upd (σ.2 6) (0 : Int32).toNatClampNeg (vp_nar .boolean 0))) _) dX8_fetch_85 ?_
          refine j_aload_n h 1 dX8_fetch_86 rfl rfl ?_
          refine j_get h iX8 0 (mx_c0 _ _ _ (ar (ar (ar (sg (sg σ 18 (((σ.1 18) + 1) - ((σ.1 18) + 1) / (σ.1 6) * (σ.1 6))) 11 ((σ.1 11) + 1)) 5 (upd (σ.2 5) (0 : Int32).toNatClampNeg (σ.1 18))) 6 (upd (σ.2 6) (0 : Int32).toNatClampNeg (vp_nar .boolean 0))) 7 (upd (σ.2 7) (0 : Int32).toNatClampNeg (vp_nar .boolean 0)))) rfl 18 (by decide) tb3_222 rfl (v := .ref (a 9)) rfl dX8_fetch_87 ?_
          refine j_iconst h (v := 0) dX8_fetch_90 (by decide) ?_
          refine j_iconst h (v := 0) dX8_fetch_91 (by decide) ?_
          refine j_iast h 9 0 (mx_g9 (σ := (ar (ar (ar (sg (sg σ 18 (((σ.1 18) + 1) - ((σ.1 18) + 1) / (σ.1 6) * (σ.1 6))) 11 ((σ.1 11) + 1)) 5 (upd (σ.2 5) (0 : Int32).toNatClampNeg (σ.1 18))) 6 (upd (σ.2 6) (0 : Int32).toNatClampNeg (vp_nar .boolean 0))) 7 (upd (σ.2 7) (0 : Int32).toNatClampNeg (vp_nar .boolean 0)))) (F := (σ.2 16)) rfl) rfl (vp_in_nI (n := 0) (N := 8) (by decide) (by decide)) (w' := (mx a cI cZ (ar (ar (ar (ar (sg (sg σ 18 (((σ.1 18) + 1) - ((σ.1 18) + 1) / (σ.1 6) * (σ.1 6))) 11 ((σ.1 11) + 1)) 5 (upd (σ.2 5) (0 : Int32).toNatClampNeg (σ.1 18))) 6 (upd (σ.2 6) (0 : Int32).toNatClampNeg (vp_nar .boolean 0))) 7 (upd (σ.2 7) (0 : Int32).toNatClampNeg (vp_nar .boolean 0))) 16 (upd (σ.2 16) (0 : Int32).toNatClampNeg 0)))) (mx_s9 _ _ _ (ar (ar (ar (sg (sg σ 18 (((σ.1 18) + 1) - ((σ.1 18) + 1) / (σ.1 6) * (σ.1 6))) 11 ((σ.1 11) + 1)) 5 (upd (σ.2 5) (0 : Int32).toNatClampNeg (σ.1 18))) 6 (upd (σ.2 6) (0 : Int32).toNatClampNeg (vp_nar .boolean 0))) 7 (upd (σ.2 7) (0 : Int32).toNatClampNeg (vp_nar .boolean 0))) _) dX8_fetch_92 ?_
          refine j_aload_n h 1 dX8_fetch_93 rfl rfl ?_
          refine j_get h iX8 0 (mx_c0 _ _ _ (ar (ar (ar (ar (sg (sg σ 18 (((σ.1 18) + 1) - ((σ.1 18) + 1) / (σ.1 6) * (σ.1 6))) 11 ((σ.1 11) + 1)) 5 (upd (σ.2 5) (0 : Int32).toNatClampNeg (σ.1 18))) 6 (upd (σ.2 6) (0 : Int32).toNatClampNeg (vp_nar .boolean 0))) 7 (upd (σ.2 7) (0 : Int32).toNatClampNeg (vp_nar .boolean 0))) 16 (upd (σ.2 16) (0 : Int32).toNatClampNeg 0))) rfl 16 (by decide) tb3_220 rfl (v := .ref (a 7)) rfl dX8_fetch_94 ?_
          refine j_iconst h (v := 0) dX8_fetch_97 (by decide) ?_
          refine j_zald h 7 1 (mx_g7 (σ := (ar (ar (ar (ar (sg (sg σ 18 (((σ.1 18) + 1) - ((σ.1 18) + 1) / (σ.1 6) * (σ.1 6))) 11 ((σ.1 11) + 1)) 5 (upd (σ.2 5) (0 : Int32).toNatClampNeg (σ.1 18))) 6 (upd (σ.2 6) (0 : Int32).toNatClampNeg (vp_nar .boolean 0))) 7 (upd (σ.2 7) (0 : Int32).toNatClampNeg (vp_nar .boolean 0))) 16 (upd (σ.2 16) (0 : Int32).toNatClampNeg 0))) (F := (upd (σ.2 6) (0 : Int32).toNatClampNeg (vp_nar .boolean 0))) rfl) rfl (vp_in_nI (n := 0) (N := 8) (by decide) (by decide)) dX8_fetch_98 ?_
          refine j_eqi (v' := 0) (pk_us.trans (by decide)) ?_
          refine j_if_eq h dX8_fetch_99 (tgt := 107) (by decide) (fun c5 => ?_) (fun c5 => ?_)
          ·
            have E : fX8_fetch σ = (ar (ar (ar (ar (sg (sg σ 18 (((σ.1 18) + 1) - ((σ.1 18) + 1) / (σ.1 6) * (σ.1 6))) 11 ((σ.1 11) + 1)) 5 (upd (σ.2 5) (0 : Int32).toNatClampNeg (σ.1 18))) 6 (upd (σ.2 6) (0 : Int32).toNatClampNeg (vp_nar .boolean 0))) 7 (upd (σ.2 7) (0 : Int32).toNatClampNeg (vp_nar .boolean 0))) 16 (upd (σ.2 16) (0 : Int32).toNatClampNeg 0)) := j_ig c1 (j_ig c2 (j_ip c3 (j_ig c4 rfl)))
            exact j_vreturn h hr (fun _ => 0) (congrArg (mx a cI cZ) E).symm dX8_fetch_107
          ·
            exact absurd c5 (by decide)
        ·
          refine j_iconst h (v := 1) dX8_fetch_73 (by decide) ?_
          refine j_goto h dX8_fetch_74 (tgt := 78) (by decide) ?_
          refine j_zast h 7 1 (mx_g7 (σ := (ar (sg (sg σ 18 (((σ.1 18) + 1) - ((σ.1 18) + 1) / (σ.1 6) * (σ.1 6))) 11 ((σ.1 11) + 1)) 5 (upd (σ.2 5) (0 : Int32).toNatClampNeg (σ.1 18)))) (F := (σ.2 6)) rfl) rfl (vp_in_nI (n := 0) (N := 8) (by decide) (by decide)) (w' := (mx a cI cZ (ar (ar (sg (sg σ 18 (((σ.1 18) + 1) - ((σ.1 18) + 1) / (σ.1 6) * (σ.1 6))) 11 ((σ.1 11) + 1)) 5 (upd (σ.2 5) (0 : Int32).toNatClampNeg (σ.1 18))) 6 (upd (σ.2 6) (0 : Int32).toNatClampNeg (vp_nar .boolean 1))))) (mx_s7 _ _ _ (ar (sg (sg σ 18 (((σ.1 18) + 1) - ((σ.1 18) + 1) / (σ.1 6) * (σ.1 6))) 11 ((σ.1 11) + 1)) 5 (upd (σ.2 5) (0 : Int32).toNatClampNeg (σ.1 18))) _) dX8_fetch_78 ?_
          refine j_aload_n h 1 dX8_fetch_79 rfl rfl ?_
          refine j_get h iX8 0 (mx_c0 _ _ _ (ar (ar (sg (sg σ 18 (((σ.1 18) + 1) - ((σ.1 18) + 1) / (σ.1 6) * (σ.1 6))) 11 ((σ.1 11) + 1)) 5 (upd (σ.2 5) (0 : Int32).toNatClampNeg (σ.1 18))) 6 (upd (σ.2 6) (0 : Int32).toNatClampNeg (vp_nar .boolean 1)))) rfl 17 (by decide) tb3_221 rfl (v := .ref (a 8)) rfl dX8_fetch_80 ?_
          refine j_iconst h (v := 0) dX8_fetch_83 (by decide) ?_
          refine j_iconst h (v := 0) dX8_fetch_84 (by decide) ?_
          refine j_zast h 8 1 (mx_g8 (σ := (ar (ar (sg (sg σ 18 (((σ.1 18) + 1) - ((σ.1 18) + 1) / (σ.1 6) * (σ.1 6))) 11 ((σ.1 11) + 1)) 5 (upd (σ.2 5) (0 : Int32).toNatClampNeg (σ.1 18))) 6 (upd (σ.2 6) (0 : Int32).toNatClampNeg (vp_nar .boolean 1)))) (F := (σ.2 7)) rfl) rfl (vp_in_nI (n := 0) (N := 8) (by decide) (by decide)) (w' := (mx a cI cZ (ar (ar (ar (sg (sg σ 18 (((σ.1 18) + 1) - ((σ.1 18) + 1) / (σ.1 6) * (σ.1 6))) 11 ((σ.1 11) + 1)) 5 (upd (σ.2 5) (0 : Int32).toNatClampNeg (σ.1 18))) 6 (upd (σ.2 6) (0 : Int32).toNatClampNeg (vp_nar .boolean 1))) 7 (upd (σ.2 7) (0 : Int32).toNatClampNeg (vp_nar .boolean 0))))) (mx_s8 _ _ _ (ar (ar (sg (sg σ 18 (((σ.1 18) + 1) - ((σ.1 18) + 1) / (σ.1 6) * (σ.1 6))) 11 ((σ.1 11) + 1)) 5 (upd (σ.2 5) (0 : Int32).toNatClampNeg (σ.1 18))) 6 (upd (σ.2 6) (0 : Int32).toNatClampNeg (vp_nar .boolean 1))) _) dX8_fetch_85 ?_
          refine j_aload_n h 1 dX8_fetch_86 rfl rfl ?_
          refine j_get h iX8 0 (mx_c0 _ _ _ (ar (ar (ar (sg (sg σ 18 (((σ.1 18) + 1) - ((σ.1 18) + 1) / (σ.1 6) * (σ.1 6))) 11 ((σ.1 11) + 1)) 5 (upd (σ.2 5) (0 : Int32).toNatClampNeg (σ.1 18))) 6 (upd (σ.2 6) (0 : Int32).toNatClampNeg (vp_nar .boolean 1))) 7 (upd (σ.2 7) (0 : Int32).toNatClampNeg (vp_nar .boolean 0)))) rfl 18 (by decide) tb3_222 rfl (v := .ref (a 9)) rfl dX8_fetch_87 ?_
          refine j_iconst h (v := 0) dX8_fetch_90 (by decide) ?_
          refine j_iconst h (v := 0) dX8_fetch_91 (by decide) ?_
          refine j_iast h 9 0 (mx_g9 (σ := (ar (ar (ar (sg (sg σ 18 (((σ.1 18) + 1) - ((σ.1 18) + 1) / (σ.1 6) * (σ.1 6))) 11 ((σ.1 11) + 1)) 5 (upd (σ.2 5) (0 : Int32).toNatClampNeg (σ.1 18))) 6 (upd (σ.2 6) (0 : Int32).toNatClampNeg (vp_nar .boolean 1))) 7 (upd (σ.2 7) (0 : Int32).toNatClampNeg (vp_nar .boolean 0)))) (F := (σ.2 16)) rfl) rfl (vp_in_nI (n := 0) (N := 8) (by decide) (by decide)) (w' := (mx a cI cZ (ar (ar (ar (ar (sg (sg σ 18 (((σ.1 18) + 1) - ((σ.1 18) + 1) / (σ.1 6) * (σ.1 6))) 11 ((σ.1 11) + 1)) 5 (upd (σ.2 5) (0 : Int32).toNatClampNeg (σ.1 18))) 6 (upd (σ.2 6) (0 : Int32).toNatClampNeg (vp_nar .boolean 1))) 7 (upd (σ.2 7) (0 : Int32).toNatClampNeg (vp_nar .boolean 0))) 16 (upd (σ.2 16) (0 : Int32).toNatClampNeg 0)))) (mx_s9 _ _ _ (ar (ar (ar (sg (sg σ 18 (((σ.1 18) + 1) - ((σ.1 18) + 1) / (σ.1 6) * (σ.1 6))) 11 ((σ.1 11) + 1)) 5 (upd (σ.2 5) (0 : Int32).toNatClampNeg (σ.1 18))) 6 (upd (σ.2 6) (0 : Int32).toNatClampNeg (vp_nar .boolean 1))) 7 (upd (σ.2 7) (0 : Int32).toNatClampNeg (vp_nar .boolean 0))) _) dX8_fetch_92 ?_
          refine j_aload_n h 1 dX8_fetch_93 rfl rfl ?_
          refine j_get h iX8 0 (mx_c0 _ _ _ (ar (ar (ar (ar (sg (sg σ 18 (((σ.1 18) + 1) - ((σ.1 18) + 1) / (σ.1 6) * (σ.1 6))) 11 ((σ.1 11) + 1)) 5 (upd (σ.2 5) (0 : Int32).toNatClampNeg (σ.1 18))) 6 (upd (σ.2 6) (0 : Int32).toNatClampNeg (vp_nar .boolean 1))) 7 (upd (σ.2 7) (0 : Int32).toNatClampNeg (vp_nar .boolean 0))) 16 (upd (σ.2 16) (0 : Int32).toNatClampNeg 0))) rfl 16 (by decide) tb3_220 rfl (v := .ref (a 7)) rfl dX8_fetch_94 ?_
          refine j_iconst h (v := 0) dX8_fetch_97 (by decide) ?_
          refine j_zald h 7 1 (mx_g7 (σ := (ar (ar (ar (ar (sg (sg σ 18 (((σ.1 18) + 1) - ((σ.1 18) + 1) / (σ.1 6) * (σ.1 6))) 11 ((σ.1 11) + 1)) 5 (upd (σ.2 5) (0 : Int32).toNatClampNeg (σ.1 18))) 6 (upd (σ.2 6) (0 : Int32).toNatClampNeg (vp_nar .boolean 1))) 7 (upd (σ.2 7) (0 : Int32).toNatClampNeg (vp_nar .boolean 0))) 16 (upd (σ.2 16) (0 : Int32).toNatClampNeg 0))) (F := (upd (σ.2 6) (0 : Int32).toNatClampNeg (vp_nar .boolean 1))) rfl) rfl (vp_in_nI (n := 0) (N := 8) (by decide) (by decide)) dX8_fetch_98 ?_
          refine j_eqi (v' := 1) (pk_us.trans (by decide)) ?_
          refine j_if_eq h dX8_fetch_99 (tgt := 107) (by decide) (fun c6 => ?_) (fun c6 => ?_)
          ·
            exact absurd c6 (by decide)
          ·
            refine j_aload_n h 1 dX8_fetch_102 rfl rfl ?_
            refine j_iload_n h 0 dX8_fetch_103 rfl rfl ?_
            refine j_callVv h (kX8_plainRun l D a cI cZ (ar (ar (ar (ar (sg (sg σ 18 (((σ.1 18) + 1) - ((σ.1 18) + 1) / (σ.1 6) * (σ.1 6))) 11 ((σ.1 11) + 1)) 5 (upd (σ.2 5) (0 : Int32).toNatClampNeg (σ.1 18))) 6 (upd (σ.2 6) (0 : Int32).toNatClampNeg (vp_nar .boolean 1))) 7 (upd (σ.2 7) (0 : Int32).toNatClampNeg (vp_nar .boolean 0))) 16 (upd (σ.2 16) (0 : Int32).toNatClampNeg 0)) (σ.1 18) (m_s hv.2.2.1.1 hv.2.2.1.2) hb.2.1 hb.w0) tb4_182 tb4_184 tp_30 tb1_11 tb4_185 ⟨rfl, rfl⟩ (n := 1) (by decide +kernel) ⟨Nat.le_of_ble_eq_true rfl, Nat.le_of_ble_eq_true rfl⟩ (As := [.int (σ.1 18)]) rfl (ci := 8) (q0 := 0) rfl (mx_c0 _ _ _ (ar (ar (ar (ar (sg (sg σ 18 (((σ.1 18) + 1) - ((σ.1 18) + 1) / (σ.1 6) * (σ.1 6))) 11 ((σ.1 11) + 1)) 5 (upd (σ.2 5) (0 : Int32).toNatClampNeg (σ.1 18))) 6 (upd (σ.2 6) (0 : Int32).toNatClampNeg (vp_nar .boolean 1))) 7 (upd (σ.2 7) (0 : Int32).toNatClampNeg (vp_nar .boolean 0))) 16 (upd (σ.2 16) (0 : Int32).toNatClampNeg 0))) (st := []) rfl (Nat.le_of_ble_eq_true rfl) dX8_fetch_104 ⟨Nat.zero_le _, Nat.zero_le _⟩ ?_
            generalize hq7 : (fX8_plainRun (ar (ar (ar (ar (sg (sg σ 18 (((σ.1 18) + 1) - ((σ.1 18) + 1) / (σ.1 6) * (σ.1 6))) 11 ((σ.1 11) + 1)) 5 (upd (σ.2 5) (0 : Int32).toNatClampNeg (σ.1 18))) 6 (upd (σ.2 6) (0 : Int32).toNatClampNeg (vp_nar .boolean 1))) 7 (upd (σ.2 7) (0 : Int32).toNatClampNeg (vp_nar .boolean 0))) 16 (upd (σ.2 16) (0 : Int32).toNatClampNeg 0)) (σ.1 18)) = q7
            subst hq7
            have E : fX8_fetch σ = (fX8_plainRun (ar (ar (ar (ar (sg (sg σ 18 (((σ.1 18) + 1) - ((σ.1 18) + 1) / (σ.1 6) * (σ.1 6))) 11 ((σ.1 11) + 1)) 5 (upd (σ.2 5) (0 : Int32).toNatClampNeg (σ.1 18))) 6 (upd (σ.2 6) (0 : Int32).toNatClampNeg (vp_nar .boolean 1))) 7 (upd (σ.2 7) (0 : Int32).toNatClampNeg (vp_nar .boolean 0))) 16 (upd (σ.2 16) (0 : Int32).toNatClampNeg 0)) (σ.1 18)) := j_ig c1 (j_ig c2 (j_ip c3 (j_ip c4 rfl)))
            exact j_vreturn h hr (fun _ => 0) (congrArg (mx a cI cZ) E).symm dX8_fetch_107
      ·
        have E : fX8_fetch σ = σ := j_ig c1 (j_ig c2 (j_ig c3 rfl))
        exact j_vreturn h hr (fun _ => 0) (congrArg (mx a cI cZ) E).symm dX8_fetch_23
def rmX8_cycle : Room := { frames := 5, cells := 0, slots := 0, locals := 109 }
set_option maxRecDepth 100000 in
set_option maxHeartbeats 4000000 in
theorem kX8_cycle (l : Launch) (D : va_G) (a : Nat → Nat) (cI cZ : ClassId) (σ : St) {K : Nat} (hb : mB σ) (hv : mV K σ) (hK : K < 2 ^ 30) : Cv l yX8_cycle cX8_cycle 3 none TB rmX8_cycle D vwCl [(cI, .int), (cZ, .boolean)] [.ref (a 0)] (mx a cI cZ σ) (fun _ => (mx a cI cZ (fX8_cycle σ))) 0 0 := by
  refine Cv_of (cc := cX8_cycle) (maxL := 3) (ret := none) (by decide +kernel) TBg (Nat.le_of_ble_eq_true rfl) ?_
  intro p e s m args below meth c A h hr hname
  refine j_aload_n h 0 dX8_cycle_0 rfl rfl ?_
  refine j_dup h dX8_cycle_1 rfl ?_
  refine j_get h iX8 0 (mx_c0 _ _ _ σ) rfl 31 (by decide) tb3_235 rfl (v := .int (σ.1 9)) rfl dX8_cycle_2 ?_
  refine j_iconst h (v := 1) dX8_cycle_5 (by decide) ?_
  refine j_iadd h dX8_cycle_6 ?_
  refine j_put h iX8 tyX8 tyX8_ok nmX8 0 (mx_c0 _ _ _ σ) rfl 31 (by decide) tb3_235 rfl rfl rfl rfl (Nat.le_of_ble_eq_true rfl) (w' := (mx a cI cZ (sg σ 9 ((σ.1 9) + 1)))) (mx_p0_31 _ _ _ σ _) dX8_cycle_7 ?_
  refine j_aload_n h 0 dX8_cycle_10 rfl rfl ?_
  refine j_iconst h (v := 1) dX8_cycle_11 (by decide) ?_
  refine j_put h iX8 tyX8 tyX8_ok nmX8 0 (mx_c0 _ _ _ (sg σ 9 ((σ.1 9) + 1))) rfl 30 (by decide) tb3_234 rfl rfl rfl rfl (Nat.le_of_ble_eq_true rfl) (w' := (mx a cI cZ (sg (sg σ 9 ((σ.1 9) + 1)) 21 1))) (mx_p0_30 _ _ _ (sg σ 9 ((σ.1 9) + 1)) _) dX8_cycle_12 ?_
  refine j_aload_n h 0 dX8_cycle_15 rfl rfl ?_
  refine j_callVi h (kX8_leave l D a cI cZ (sg (sg σ 9 ((σ.1 9) + 1)) 21 1) (mB.fq (mB.fq hb (Fq.sg (by decide))) (Fq.sg (by decide))) (mV_sg (mV_sg hv (by decide)) (by decide))) tb4_122 tb4_124 tp_15 tb1_11 tb4_125 ⟨rfl, rfl⟩ (n := 0) (by decide +kernel) ⟨Nat.le_of_ble_eq_true rfl, Nat.le_of_ble_eq_true rfl⟩ (As := []) rfl (ci := 8) (q0 := 0) rfl (mx_c0 _ _ _ (sg (sg σ 9 ((σ.1 9) + 1)) 21 1)) (st := []) rfl (Nat.le_of_ble_eq_true rfl) dX8_cycle_16 ⟨Nat.zero_le _, Nat.zero_le _⟩ ?_
  generalize hq1 : (fX8_leave (sg (sg σ 9 ((σ.1 9) + 1)) 21 1)) = q1
  refine j_istore_n h (lv' := [(1, .int q1.1), (0, .ref (a 0))]) dX8_cycle_19 rfl (by decide) rfl ?_
  refine j_aload_n h 1 dX8_cycle_20 rfl rfl ?_
  refine j_get h iX8 0 (mx_c0 _ _ _ q1.2) rfl 29 (by decide) tb3_233 rfl (v := .int (q1.2.1 15)) rfl dX8_cycle_21 ?_
  refine j_if_ne h dX8_cycle_24 (tgt := 47) (by decide) (fun c2 => ?_) (fun c2 => ?_)
  ·
    refine j_aload_n h 1 dX8_cycle_47 rfl rfl ?_
    refine j_get h iX8 0 (mx_c0 _ _ _ q1.2) rfl 37 (by decide) tb4_1 rfl (v := .ref (a 17)) rfl dX8_cycle_48 ?_
    refine j_iload_n h 0 dX8_cycle_51 rfl rfl ?_
    refine j_dup2 h dX8_cycle_52 rfl rfl ?_
    refine j_iald h 17 0 (mx_g17 (σ := q1.2) (F := (q1.2.2 11)) rfl) rfl (by rw [← hq1]; exact leave_r _) dX8_cycle_53 ?_
    refine j_iconst h (v := 1) dX8_cycle_54 (by decide) ?_
    refine j_iadd h dX8_cycle_55 ?_
    refine j_iast h 17 0 (mx_g17 (σ := q1.2) (F := (q1.2.2 11)) rfl) rfl (by rw [← hq1]; exact leave_r _) (w' := (mx a cI cZ (ar q1.2 11 (upd (q1.2.2 11) q1.1.toNatClampNeg (((q1.2.2 11) q1.1.toNatClampNeg) + 1))))) (mx_s17 _ _ _ q1.2 _) dX8_cycle_56 ?_
    subst hq1
    have E : fX8_cycle σ = (ar (fX8_leave (sg (sg σ 9 ((σ.1 9) + 1)) 21 1)).2 11 (upd ((fX8_leave (sg (sg σ 9 ((σ.1 9) + 1)) 21 1)).2.2 11) (fX8_leave (sg (sg σ 9 ((σ.1 9) + 1)) 21 1)).1.toNatClampNeg ((((fX8_leave (sg (sg σ 9 ((σ.1 9) + 1)) 21 1)).2.2 11) (fX8_leave (sg (sg σ 9 ((σ.1 9) + 1)) 21 1)).1.toNatClampNeg) + 1))) := j_ig c2 rfl
    exact j_vreturn h hr (fun _ => 0) (congrArg (mx a cI cZ) E).symm dX8_cycle_57
  ·
    refine j_aload_n h 1 dX8_cycle_27 rfl rfl ?_
    refine j_callVi h (kX8_goOn l D a cI cZ q1.2 (by rw [← hq1]; exact (mB.fq (mB.fq (mB.fq hb (Fq.sg (by decide))) (Fq.sg (by decide))) (fr_fX8_leave _))) (by rw [← hq1]; exact (mv_fX8_leave (mB.fq (mB.fq hb (Fq.sg (by decide))) (Fq.sg (by decide))) (mV_sg (mV_sg hv (by decide)) (by decide)) hK))) tb4_142 tb4_144 tp_20 tb1_11 tb4_145 ⟨rfl, rfl⟩ (n := 0) (by decide +kernel) ⟨Nat.le_of_ble_eq_true rfl, Nat.le_of_ble_eq_true rfl⟩ (As := []) rfl (ci := 8) (q0 := 0) rfl (mx_c0 _ _ _ q1.2) (st := []) rfl (Nat.le_of_ble_eq_true rfl) dX8_cycle_28 ⟨Nat.zero_le _, Nat.zero_le _⟩ ?_
    generalize hq3 : (fX8_goOn q1.2) = q3
    refine j_istore_n h (lv' := [(2, .int q3.1), (1, .int q1.1), (0, .ref (a 0))]) dX8_cycle_31 rfl (by decide) rfl ?_
    refine j_iload_n h 1 dX8_cycle_32 rfl rfl ?_
    refine j_iconst h (v := 4) dX8_cycle_33 (by decide) ?_
    refine j_icmp_ge h dX8_cycle_34 (tgt := 41) (by decide) (fun c4 => ?_) (fun c4 => ?_)
    ·
      refine j_iload_n h 0 dX8_cycle_41 rfl rfl ?_
      refine j_istore_n h (lv' := [(1, .int q3.1), (2, .int q3.1), (0, .ref (a 0))]) dX8_cycle_42 rfl (by decide) rfl ?_
      refine j_aload_n h 2 dX8_cycle_43 rfl rfl ?_
      refine j_callVv h (kX8_fetch l D a cI cZ q3.2 (by rw [← hq3]; exact (mB.fq (by rw [← hq1]; exact (mB.fq (mB.fq (mB.fq hb (Fq.sg (by decide))) (Fq.sg (by decide))) (fr_fX8_leave _))) (fr_fX8_goOn _))) (by rw [← hq3]; exact (mv_fX8_goOn (by rw [← hq1]; exact (mB.fq (mB.fq (mB.fq hb (Fq.sg (by decide))) (Fq.sg (by decide))) (fr_fX8_leave _))) (by rw [← hq1]; exact (mv_fX8_leave (mB.fq (mB.fq hb (Fq.sg (by decide))) (Fq.sg (by decide))) (mV_sg (mV_sg hv (by decide)) (by decide)) hK))))) tb4_178 tb4_180 tp_29 tb1_11 tb4_181 ⟨rfl, rfl⟩ (n := 0) (by decide +kernel) ⟨Nat.le_of_ble_eq_true rfl, Nat.le_of_ble_eq_true rfl⟩ (As := []) rfl (ci := 8) (q0 := 0) rfl (mx_c0 _ _ _ q3.2) (st := []) rfl (Nat.le_of_ble_eq_true rfl) dX8_cycle_44 ⟨Nat.zero_le _, Nat.zero_le _⟩ ?_
      generalize hq5 : (fX8_fetch q3.2) = q5
      refine j_aload_n h 2 dX8_cycle_47 rfl rfl ?_
      refine j_get h iX8 0 (mx_c0 _ _ _ q5) rfl 37 (by decide) tb4_1 rfl (v := .ref (a 17)) rfl dX8_cycle_48 ?_
      refine j_iload_n h 0 dX8_cycle_51 rfl rfl ?_
      refine j_dup2 h dX8_cycle_52 rfl rfl ?_
      refine j_iald h 17 0 (mx_g17 (σ := q5) (F := (q5.2 11)) rfl) rfl (by rw [← hq3]; exact goOn_r _) dX8_cycle_53 ?_
      refine j_iconst h (v := 1) dX8_cycle_54 (by decide) ?_
      refine j_iadd h dX8_cycle_55 ?_
      refine j_iast h 17 0 (mx_g17 (σ := q5) (F := (q5.2 11)) rfl) rfl (by rw [← hq3]; exact goOn_r _) (w' := (mx a cI cZ (ar q5 11 (upd (q5.2 11) q3.1.toNatClampNeg (((q5.2 11) q3.1.toNatClampNeg) + 1))))) (mx_s17 _ _ _ q5 _) dX8_cycle_56 ?_
      subst hq1 hq3 hq5
      have E : fX8_cycle σ = (ar (fX8_fetch (fX8_goOn (fX8_leave (sg (sg σ 9 ((σ.1 9) + 1)) 21 1)).2).2) 11 (upd ((fX8_fetch (fX8_goOn (fX8_leave (sg (sg σ 9 ((σ.1 9) + 1)) 21 1)).2).2).2 11) (fX8_goOn (fX8_leave (sg (sg σ 9 ((σ.1 9) + 1)) 21 1)).2).1.toNatClampNeg ((((fX8_fetch (fX8_goOn (fX8_leave (sg (sg σ 9 ((σ.1 9) + 1)) 21 1)).2).2).2 11) (fX8_goOn (fX8_leave (sg (sg σ 9 ((σ.1 9) + 1)) 21 1)).2).1.toNatClampNeg) + 1))) := j_ip c2 (j_ip c4 rfl)
      exact j_vreturn h hr (fun _ => 0) (congrArg (mx a cI cZ) E).symm dX8_cycle_57
    ·
      refine j_iload_n h 1 dX8_cycle_37 rfl rfl ?_
      refine j_goto h dX8_cycle_38 (tgt := 42) (by decide) ?_
      refine j_istore_n h (lv' := [(1, .int q1.1), (2, .int q3.1), (0, .ref (a 0))]) dX8_cycle_42 rfl (by decide) rfl ?_
      refine j_aload_n h 2 dX8_cycle_43 rfl rfl ?_
      refine j_callVv h (kX8_fetch l D a cI cZ q3.2 (by rw [← hq3]; exact (mB.fq (by rw [← hq1]; exact (mB.fq (mB.fq (mB.fq hb (Fq.sg (by decide))) (Fq.sg (by decide))) (fr_fX8_leave _))) (fr_fX8_goOn _))) (by rw [← hq3]; exact (mv_fX8_goOn (by rw [← hq1]; exact (mB.fq (mB.fq (mB.fq hb (Fq.sg (by decide))) (Fq.sg (by decide))) (fr_fX8_leave _))) (by rw [← hq1]; exact (mv_fX8_leave (mB.fq (mB.fq hb (Fq.sg (by decide))) (Fq.sg (by decide))) (mV_sg (mV_sg hv (by decide)) (by decide)) hK))))) tb4_178 tb4_180 tp_29 tb1_11 tb4_181 ⟨rfl, rfl⟩ (n := 0) (by decide +kernel) ⟨Nat.le_of_ble_eq_true rfl, Nat.le_of_ble_eq_true rfl⟩ (As := []) rfl (ci := 8) (q0 := 0) rfl (mx_c0 _ _ _ q3.2) (st := []) rfl (Nat.le_of_ble_eq_true rfl) dX8_cycle_44 ⟨Nat.zero_le _, Nat.zero_le _⟩ ?_
      generalize hq6 : (fX8_fetch q3.2) = q6
      refine j_aload_n h 2 dX8_cycle_47 rfl rfl ?_
      refine j_get h iX8 0 (mx_c0 _ _ _ q6) rfl 37 (by decide) tb4_1 rfl (v := .ref (a 17)) rfl dX8_cycle_48 ?_
      refine j_iload_n h 0 dX8_cycle_51 rfl rfl ?_
      refine j_dup2 h dX8_cycle_52 rfl rfl ?_
      refine j_iald h 17 0 (mx_g17 (σ := q6) (F := (q6.2 11)) rfl) rfl (by rw [← hq1]; exact leave_r _) dX8_cycle_53 ?_
      refine j_iconst h (v := 1) dX8_cycle_54 (by decide) ?_
      refine j_iadd h dX8_cycle_55 ?_
      refine j_iast h 17 0 (mx_g17 (σ := q6) (F := (q6.2 11)) rfl) rfl (by rw [← hq1]; exact leave_r _) (w' := (mx a cI cZ (ar q6 11 (upd (q6.2 11) q1.1.toNatClampNeg (((q6.2 11) q1.1.toNatClampNeg) + 1))))) (mx_s17 _ _ _ q6 _) dX8_cycle_56 ?_
      subst hq1 hq3 hq6
      have E : fX8_cycle σ = (ar (fX8_fetch (fX8_goOn (fX8_leave (sg (sg σ 9 ((σ.1 9) + 1)) 21 1)).2).2) 11 (upd ((fX8_fetch (fX8_goOn (fX8_leave (sg (sg σ 9 ((σ.1 9) + 1)) 21 1)).2).2).2 11) (fX8_leave (sg (sg σ 9 ((σ.1 9) + 1)) 21 1)).1.toNatClampNeg ((((fX8_fetch (fX8_goOn (fX8_leave (sg (sg σ 9 ((σ.1 9) + 1)) 21 1)).2).2).2 11) (fX8_leave (sg (sg σ 9 ((σ.1 9) + 1)) 21 1)).1.toNatClampNeg) + 1))) := j_ip c2 (j_ig c4 rfl)
      exact j_vreturn h hr (fun _ => 0) (congrArg (mx a cI cZ) E).symm dX8_cycle_57
