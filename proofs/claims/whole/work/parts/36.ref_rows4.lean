def rmX8_fetch : Room := { frames := 2, cells := 0, slots := 0, locals := 44 }
set_option maxRecDepth 100000 in
set_option maxHeartbeats 4000000 in
theorem kX8_fetch (l : Launch) (D : va_G) (a : Nat → Nat) (cI cZ : ClassId) (σ : St) {K : Nat} (hb : mB σ) (hv : mV K σ) : Cv l yX8_fetch cX8_fetch 2 none TB rmX8_fetch D vwCl [(cI, .int), (cZ, .boolean)] [.ref (a 0)] (mx a cI cZ σ) (fun _ => (mx a cI cZ (fX8_fetch σ))) 0 0 := by
  refine Cv_of (cc := cX8_fetch) (maxL := 2) (ret := none) (by decide +kernel) TBg (Nat.le_of_ble_eq_true rfl) ?_
  intro p e s m args below meth c A h hr hname
  refine j_aload_n h 0 dX8_fetch_0 rfl rfl ?_
  refine j_get h iX8 0 (mx_c0 _ _ _ σ) rfl 30 (by decide) tb3_234 rfl (v := .int (σ.1 21)) rfl dX8_fetch_1 ?_
  refine j_if_eq h dX8_fetch_4 (tgt := 23) (by decide) (fun c1 => ?_) (fun c1 => ?_)
  ·
    have E : fX8_fetch σ = σ := j_ip c1 rfl
    exact j_vreturn h hr (fun _ => 0) (congrArg (mx a cI cZ) E).symm dX8_fetch_23
  ·
    refine j_aload_n h 0 dX8_fetch_7 rfl rfl ?_
    refine j_get h iX8 0 (mx_c0 _ _ _ σ) rfl 15 (by decide) tb3_219 rfl (v := .ref (a 6)) rfl dX8_fetch_8 ?_
    refine j_iconst h (v := 0) dX8_fetch_11 (by decide) ?_
    refine j_iald h 6 0 (mx_g6 (σ := σ) (F := (σ.2 5)) rfl) rfl (vp_in_nI (n := 0) (N := 8) (by decide) (by decide)) dX8_fetch_12 ?_
    refine j_if_ge h dX8_fetch_13 (tgt := 23) (by decide) (fun c2 => ?_) (fun c2 => ?_)
    ·
      have E : fX8_fetch σ = σ := j_ig c1 (j_ip c2 rfl)
      exact j_vreturn h hr (fun _ => 0) (congrArg (mx a cI cZ) E).symm dX8_fetch_23
    ·
      refine j_aload_n h 0 dX8_fetch_16 rfl rfl ?_
      refine j_get h iX8 0 (mx_c0 _ _ _ σ) rfl 28 (by decide) tb3_232 rfl (v := .int (σ.1 20)) rfl dX8_fetch_17 ?_
      refine j_if_eq h dX8_fetch_20 (tgt := 24) (by decide) (fun c3 => ?_) (fun c3 => ?_)
      ·
        refine j_aload_n h 0 dX8_fetch_24 rfl rfl ?_
        refine j_get h iX8 0 (mx_c0 _ _ _ σ) rfl 26 (by decide) tb3_230 rfl (v := .int (σ.1 18)) rfl dX8_fetch_25 ?_
        refine j_istore_n h (lv' := [(1, .int (σ.1 18)), (0, .ref (a 0))]) dX8_fetch_28 rfl (by decide) rfl ?_
        refine j_aload_n h 1 dX8_fetch_29 rfl rfl ?_
        refine j_aload_n h 1 dX8_fetch_30 rfl rfl ?_
        refine j_get h iX8 0 (mx_c0 _ _ _ σ) rfl 26 (by decide) tb3_230 rfl (v := .int (σ.1 18)) rfl dX8_fetch_31 ?_
        refine j_iconst h (v := 1) dX8_fetch_34 (by decide) ?_
        refine j_iadd h dX8_fetch_35 ?_
        refine j_aload_n h 1 dX8_fetch_36 rfl rfl ?_
        refine j_get h iX8 0 (mx_c0 _ _ _ σ) rfl 9 (by decide) tb3_213 rfl (v := .int (σ.1 6)) rfl dX8_fetch_37 ?_
        refine j_irem h dX8_fetch_40 hb.w0 ?_
        refine j_put h iX8 tyX8 tyX8_ok nmX8 0 (mx_c0 _ _ _ σ) rfl 26 (by decide) tb3_230 rfl rfl rfl rfl (Nat.le_of_ble_eq_true rfl) (w' := (mx a cI cZ (sg σ 18 (((σ.1 18) + 1) - ((σ.1 18) + 1) / (σ.1 6) * (σ.1 6))))) (mx_p0_26 _ _ _ σ _) dX8_fetch_41 ?_
        refine j_aload_n h 1 dX8_fetch_44 rfl rfl ?_
        refine j_dup h dX8_fetch_45 rfl ?_
        refine j_get h iX8 0 (mx_c0 _ _ _ (sg σ 18 (((σ.1 18) + 1) - ((σ.1 18) + 1) / (σ.1 6) * (σ.1 6)))) rfl 33 (by decide) tb3_237 rfl (v := .int (σ.1 11)) rfl dX8_fetch_46 ?_
        refine j_iconst h (v := 1) dX8_fetch_49 (by decide) ?_
        refine j_iadd h dX8_fetch_50 ?_
        refine j_put h iX8 tyX8 tyX8_ok nmX8 0 (mx_c0 _ _ _ (sg σ 18 (((σ.1 18) + 1) - ((σ.1 18) + 1) / (σ.1 6) * (σ.1 6)))) rfl 33 (by decide) tb3_237 rfl rfl rfl rfl (Nat.le_of_ble_eq_true rfl) (w' := (mx a cI cZ (sg (sg σ 18 (((σ.1 18) + 1) - ((σ.1 18) + 1) / (σ.1 6) * (σ.1 6))) 11 ((σ.1 11) + 1)))) (mx_p0_33 _ _ _ (sg σ 18 (((σ.1 18) + 1) - ((σ.1 18) + 1) / (σ.1 6) * (σ.1 6))) _) dX8_fetch_51 ?_
        refine j_aload_n h 1 dX8_fetch_54 rfl rfl ?_
        refine j_get h iX8 0 (mx_c0 _ _ _ (sg (sg σ 18 (((σ.1 18) + 1) - ((σ.1 18) + 1) / (σ.1 6) * (σ.1 6))) 11 ((σ.1 11) + 1))) rfl 15 (by decide) tb3_219 rfl (v := .ref (a 6)) rfl dX8_fetch_55 ?_
        refine j_iconst h (v := 0) dX8_fetch_58 (by decide) ?_
        refine j_iload_n h 0 dX8_fetch_59 rfl rfl ?_
        refine j_iast h 6 0 (mx_g6 (σ := (sg (sg σ 18 (((σ.1 18) + 1) - ((σ.1 18) + 1) / (σ.1 6) * (σ.1 6))) 11 ((σ.1 11) + 1))) (F := (σ.2 5)) rfl) rfl (vp_in_nI (n := 0) (N := 8) (by decide) (by decide)) (w' := (mx a cI cZ (ar (sg (sg σ 18 (((σ.1 18) + 1) - ((σ.1 18) + 1) / (σ.1 6) * (σ.1 6))) 11 ((σ.1 11) + 1)) 5 (upd (σ.2 5) (0 : Int32).toNatClampNeg (σ.1 18))))) (mx_s6 _ _ _ (sg (sg σ 18 (((σ.1 18) + 1) - ((σ.1 18) + 1) / (σ.1 6) * (σ.1 6))) 11 ((σ.1 11) + 1)) _) dX8_fetch_60 ?_
        refine j_aload_n h 1 dX8_fetch_61 rfl rfl ?_
        refine j_get h iX8 0 (mx_c0 _ _ _ (ar (sg (sg σ 18 (((σ.1 18) + 1) - ((σ.1 18) + 1) / (σ.1 6) * (σ.1 6))) 11 ((σ.1 11) + 1)) 5 (upd (σ.2 5) (0 : Int32).toNatClampNeg (σ.1 18)))) rfl 16 (by decide) tb3_220 rfl (v := .ref (a 7)) rfl dX8_fetch_62 ?_
        refine j_iconst h (v := 0) dX8_fetch_65 (by decide) ?_
        refine j_aload_n h 1 dX8_fetch_66 rfl rfl ?_
        refine j_get h iX8 0 (mx_c0 _ _ _ (ar (sg (sg σ 18 (((σ.1 18) + 1) - ((σ.1 18) + 1) / (σ.1 6) * (σ.1 6))) 11 ((σ.1 11) + 1)) 5 (upd (σ.2 5) (0 : Int32).toNatClampNeg (σ.1 18)))) rfl 27 (by decide) tb3_231 rfl (v := .int (σ.1 19)) rfl dX8_fetch_67 ?_
        refine j_if_ne h dX8_fetch_70 (tgt := 77) (by decide) (fun c4 => ?_) (fun c4 => ?_)
        ·
          refine j_iconst h (v := 0) dX8_fetch_77 (by decide) ?_
          refine j_zast h 7 1 (mx_g7 (σ := (ar (sg (sg σ 18 (((σ.1 18) + 1) - ((σ.1 18) + 1) / (σ.1 6) * (σ.1 6))) 11 ((σ.1 11) + 1)) 5 (upd (σ.2 5) (0 : Int32).toNatClampNeg (σ.1 18)))) (F := (σ.2 6)) rfl) rfl (vp_in_nI (n := 0) (N := 8) (by decide) (by decide)) (w' := (mx a cI cZ (ar (ar (sg (sg σ 18 (((σ.1 18) + 1) - ((σ.1 18) + 1) / (σ.1 6) * (σ.1 6))) 11 ((σ.1 11) + 1)) 5 (upd (σ.2 5) (0 : Int32).toNatClampNeg (σ.1 18))) 6 (upd (σ.2 6) (0 : Int32).toNatClampNeg (vp_nar .boolean 0))))) (mx_s7 _ _ _ (ar (sg (sg σ 18 (((σ.1 18) + 1) - ((σ.1 18) + 1) / (σ.1 6) * (σ.1 6))) 11 ((σ.1 11) + 1)) 5 (upd (σ.2 5) (0 : Int32).toNatClampNeg (σ.1 18))) _) dX8_fetch_78 ?_
          refine j_aload_n h 1 dX8_fetch_79 rfl rfl ?_
          refine j_get h iX8 0 (mx_c0 _ _ _ (ar (ar (sg (sg σ 18 (((σ.1 18) + 1) - ((σ.1 18) + 1) / (σ.1 6) * (σ.1 6))) 11 ((σ.1 11) + 1)) 5 (upd (σ.2 5) (0 : Int32).toNatClampNeg (σ.1 18))) 6 (upd (σ.2 6) (0 : Int32).toNatClampNeg (vp_nar .boolean 0)))) rfl 17 (by decide) tb3_221 rfl (v := .ref (a 8)) rfl dX8_fetch_80 ?_
          refine j_iconst h (v := 0) dX8_fetch_83 (by decide) ?_
          refine j_iconst h (v := 0) dX8_fetch_84 (by decide) ?_
          refine j_zast h 8 1 (mx_g8 (σ := (ar (ar (sg (sg σ 18 (((σ.1 18) + 1) - ((σ.1 18) + 1) / (σ.1 6) * (σ.1 6))) 11 ((σ.1 11) + 1)) 5 (upd (σ.2 5) (0 : Int32).toNatClampNeg (σ.1 18))) 6 (upd (σ.2 6) (0 : Int32).toNatClampNeg (vp_nar .boolean 0)))) (F := (σ.2 7)) rfl) rfl (vp_in_nI (n := 0) (N := 8) (by decide) (by decide)) (w' := (mx a cI cZ (ar (ar (ar (sg (sg σ 18 (((σ.1 18) + 1) - ((σ.1 18) + 1) / (σ.1 6) * (σ.1 6))) 11 ((σ.1 11) + 1)) 5 (upd (σ.2 5) (0 : Int32).toNatClampNeg (σ.1 18))) 6 (upd (σ.2 6) (0 : Int32).toNatClampNeg (vp_nar .boolean 0))) 7 (upd (σ.2 7) (0 : Int32).toNatClampNeg (vp_nar .boolean 0))))) (mx_s8 _ _ _ (ar (ar (sg (sg σ 18 (((σ.1 18) + 1) - ((σ.1 18) + 1) / (σ.1 6) * (σ.1 6))) 11 ((σ.1 11) + 1)) 5 (upd (σ.2 5) (0 : Int32).toNatClampNeg (σ.1 18))) 6 (upd (σ.2 6) (0 : Int32).toNatClampNeg (vp_nar .boolean 0))) _) dX8_fetch_85 ?_
          refine j_aload_n h 1 dX8_fetch_86 rfl rfl ?_
          refine j_get h iX8 0 (mx_c0 _ _ _ (ar (ar (ar (sg (sg σ 18 (((σ.1 18) + 1) - ((σ.1 18) + 1) / (σ.1 6) * (σ.1 6))) 11 ((σ.1 11) + 1)) 5 (upd (σ.2 5) (0 : Int32).toNatClampNeg (σ.1 18))) 6 (upd (σ.2 6) (0 : Int32).toNatClampNeg (vp_nar .boolean 0))) 7 (upd (σ.2 7) (0 : Int32).toNatClampNeg (vp_nar .boolean 0)))) rfl 18 (by decide) tb3_222 rfl (v := .ref (a 9)) rfl dX8_fetch_87 ?_
          refine j_iconst h (v := 0) dX8_fetch_90 (by decide) ?_
          refine j_iconst h (v := 0) dX8_fetch_91 (by decide) ?_
          refine j_iast h 9 0 (mx_g9 (σ := (ar (ar (ar (sg (sg σ 18 (((σ.1 18) + 1) - ((σ.1 18) + 1) / (σ.1 6) * (σ.1 6))) 11 ((σ.1 11) + 1)) 5 (upd (σ.2 5) (0 : Int32).toNatClampNeg (σ.1 18))) 6 (upd (σ.2 6) (0 : Int32).toNatClampNeg (vp_nar .boolean 0))) 7 (upd (σ.2 7) (0 : Int32).toNatClampNeg (vp_nar .boolean 0)))) (F := (σ.2 16)) rfl) rfl (vp_in_nI (n := 0) (N := 8) (by decide) (by decide)) (w' := (mx a cI cZ (ar (ar (ar (ar (sg (sg σ 18 (((σ.1 18) + 1) - ((σ.1 18) + 1) / (σ.1 6) * (σ.1 6))) 11 ((σ.1 11) + 1)) 5 (upd (σ.2 5) (0 : Int32).toNatClampNeg (σ.1 18))) 6 (upd (σ.2 6) (0 : Int32).toNatClampNeg (vp_nar .boolean 0))) 7 (upd (σ.2 7) (0 : Int32).toNatClampNeg (vp_nar .boolean 0))) 16 (upd (σ.2 16) (0 : Int32).toNatClampNeg 0)))) (mx_s9 _ _ _ (ar (ar (ar (sg (sg σ 18 (((σ.1 18) + 1) - ((σ.1 18) + 1) / (σ.1 6) * (σ.1 6))) 11 ((σ.1 11) + 1)) 5 (upd (σ.2 5) (0 : Int32).toNatClampNeg (σ.1 18))) 6 (upd (σ.2 6) (0 : Int32).toNatClampNeg (vp_nar .boolean 0))) 7 (upd (σ.2 7) (0 : Int32).toNatClampNeg (vp_nar .boolean 0))) _) dX8_fetch_92 ?_
          refine j_aload_n h 1 dX8_fetch_93 rfl rfl ?_
          refine j_get h iX8 0 (mx_c0 _ _ _ (ar (ar (ar (ar (sg (sg σ 18 (((σ.1 18) + 1) - ((σ.1 18) + 1) / (σ.1 6) * (σ.1 6))) 11 ((σ.1 11) + 1)) 5 (upd (σ.2 5) (0 : Int32).toNatClampNeg (σ.1 18))) 6 (upd (σ.2 6) (0 : Int32).toNatClampNeg (vp_nar .boolean 0))) 7 (upd (σ.2 7) (0 : Int32).toNatClampNeg (vp_nar .boolean 0))) 16 (upd (σ.2 16) (0 : Int32).toNatClampNeg 0))) rfl 16 (by decide) tb3_220 rfl (v := .ref (a 7)) rfl dX8_fetch_94 ?_
          refine j_iconst h (v := 0) dX8_fetch_97 (by decide) ?_
          refine j_zald h 7 1 (mx_g7 (σ := (ar (ar (ar (ar (sg (sg σ 18 (((σ.1 18) + 1) - ((σ.1 18) + 1) / (σ.1 6) * (σ.1 6))) 11 ((σ.1 11) + 1)) 5 (upd (σ.2 5) (0 : Int32).toNatClampNeg (σ.1 18))) 6 (upd (σ.2 6) (0 : Int32).toNatClampNeg (vp_nar .boolean 0))) 7 (upd (σ.2 7) (0 : Int32).toNatClampNeg (vp_nar .boolean 0))) 16 (upd (σ.2 16) (0 : Int32).toNatClampNeg 0))) (F := (upd (σ.2 6) (0 : Int32).toNatClampNeg (vp_nar .boolean 0))) rfl) rfl (vp_in_nI (n := 0) (N := 8) (by decide) (by decide)) dX8_fetch_98 ?_
          refine j_eqi (v' := 0) (pk_us.trans (by decide)) ?_
          refine j_if_eq h dX8_fetch_99 (tgt := 107) (by decide) (fun c5 => ?_) (fun c5 => ?_)
          ·
            have E : fX8_fetch σ = (ar (ar (ar (ar (sg (sg σ 18 (((σ.1 18) + 1) - ((σ.1 18) + 1) / (σ.1 6) * (σ.1 6))) 11 ((σ.1 11) + 1)) 5 (upd (σ.2 5) (0 : Int32).toNatClampNeg (σ.1 18))) 6 (upd (σ.2 6) (0 : Int32).toNatClampNeg (vp_nar .boolean 0))) 7 (upd (σ.2 7) (0 : Int32).toNatClampNeg (vp_nar .boolean 0))) 16 (upd (σ.2 16) (0 : Int32).toNatClampNeg 0)) := j_ig c1 (j_ig c2 (j_ip c3 (j_ig c4 rfl)))
            exact j_vreturn h hr (fun _ => 0) (congrArg (mx a cI cZ) E).symm dX8_fetch_107
          ·
            exact absurd c5 (by decide)
        ·
          refine j_iconst h (v := 1) dX8_fetch_73 (by decide) ?_
          refine j_goto h dX8_fetch_74 (tgt := 78) (by decide) ?_
          refine j_zast h 7 1 (mx_g7 (σ := (ar (sg (sg σ 18 (((σ.1 18) + 1) - ((σ.1 18) + 1) / (σ.1 6) * (σ.1 6))) 11 ((σ.1 11) + 1)) 5 (upd (σ.2 5) (0 : Int32).toNatClampNeg (σ.1 18)))) (F := (σ.2 6)) rfl) rfl (vp_in_nI (n := 0) (N := 8) (by decide) (by decide)) (w' := (mx a cI cZ (ar (ar (sg (sg σ 18 (((σ.1 18) + 1) - ((σ.1 18) + 1) / (σ.1 6) * (σ.1 6))) 11 ((σ.1 11) + 1)) 5 (upd (σ.2 5) (0 : Int32).toNatClampNeg (σ.1 18))) 6 (upd (σ.2 6) (0 : Int32).toNatClampNeg (vp_nar .boolean 1))))) (mx_s7 _ _ _ (ar (sg (sg σ 18 (((σ.1 18) + 1) - ((σ.1 18) + 1) / (σ.1 6) * (σ.1 6))) 11 ((σ.1 11) + 1)) 5 (upd (σ.2 5) (0 : Int32).toNatClampNeg (σ.1 18))) _) dX8_fetch_78 ?_
          refine j_aload_n h 1 dX8_fetch_79 rfl rfl ?_
          refine j_get h iX8 0 (mx_c0 _ _ _ (ar (ar (sg (sg σ 18 (((σ.1 18) + 1) - ((σ.1 18) + 1) / (σ.1 6) * (σ.1 6))) 11 ((σ.1 11) + 1)) 5 (upd (σ.2 5) (0 : Int32).toNatClampNeg (σ.1 18))) 6 (upd (σ.2 6) (0 : Int32).toNatClampNeg (vp_nar .boolean 1)))) rfl 17 (by decide) tb3_221 rfl (v := .ref (a 8)) rfl dX8_fetch_80 ?_
          refine j_iconst h (v := 0) dX8_fetch_83 (by decide) ?_
          refine j_iconst h (v := 0) dX8_fetch_84 (by decide) ?_
          refine j_zast h 8 1 (mx_g8 (σ := (ar (ar (sg (sg σ 18 (((σ.1 18) + 1) - ((σ.1 18) + 1) / (σ.1 6) * (σ.1 6))) 11 ((σ.1 11) + 1)) 5 (upd (σ.2 5) (0 : Int32).toNatClampNeg (σ.1 18))) 6 (upd (σ.2 6) (0 : Int32).toNatClampNeg (vp_nar .boolean 1)))) (F := (σ.2 7)) rfl) rfl (vp_in_nI (n := 0) (N := 8) (by decide) (by decide)) (w' := (mx a cI cZ (ar (ar (ar (sg (sg σ 18 (((σ.1 18) + 1) - ((σ.1 18) + 1) / (σ.1 6) * (σ.1 6))) 11 ((σ.1 11) + 1)) 5 (upd (σ.2 5) (0 : Int32).toNatClampNeg (σ.1 18))) 6 (upd (σ.2 6) (0 : Int32).toNatClampNeg (vp_nar .boolean 1))) 7 (upd (σ.2 7) (0 : Int32).toNatClampNeg (vp_nar .boolean 0))))) (mx_s8 _ _ _ (ar (ar (sg (sg σ 18 (((σ.1 18) + 1) - ((σ.1 18) + 1) / (σ.1 6) * (σ.1 6))) 11 ((σ.1 11) + 1)) 5 (upd (σ.2 5) (0 : Int32).toNatClampNeg (σ.1 18))) 6 (upd (σ.2 6) (0 : Int32).toNatClampNeg (vp_nar .boolean 1))) _) dX8_fetch_85 ?_
          refine j_aload_n h 1 dX8_fetch_86 rfl rfl ?_
          refine j_get h iX8 0 (mx_c0 _ _ _ (ar (ar (ar (sg (sg σ 18 (((σ.1 18) + 1) - ((σ.1 18) + 1) / (σ.1 6) * (σ.1 6))) 11 ((σ.1 11) + 1)) 5 (upd (σ.2 5) (0 : Int32).toNatClampNeg (σ.1 18))) 6 (upd (σ.2 6) (0 : Int32).toNatClampNeg (vp_nar .boolean 1))) 7 (upd (σ.2 7) (0 : Int32).toNatClampNeg (vp_nar .boolean 0)))) rfl 18 (by decide) tb3_222 rfl (v := .ref (a 9)) rfl dX8_fetch_87 ?_
          refine j_iconst h (v := 0) dX8_fetch_90 (by decide) ?_
          refine j_iconst h (v := 0) dX8_fetch_91 (by decide) ?_
          refine j_iast h 9 0 (mx_g9 (σ := (ar (ar (ar (sg (sg σ 18 (((σ.1 18) + 1) - ((σ.1 18) + 1) / (σ.1 6) * (σ.1 6))) 11 ((σ.1 11) + 1)) 5 (upd (σ.2 5) (0 : Int32).toNatClampNeg (σ.1 18))) 6 (upd (σ.2 6) (0 : Int32).toNatClampNeg (vp_nar .boolean 1))) 7 (upd (σ.2 7) (0 : Int32).toNatClampNeg (vp_nar .boolean 0)))) (F := (σ.2 16)) rfl) rfl (vp_in_nI (n := 0) (N := 8) (by decide) (by decide)) (w' := (mx a cI cZ (ar (ar (ar (ar (sg (sg σ 18 (((σ.1 18) + 1) - ((σ.1 18) + 1) / (σ.1 6) * (σ.1 6))) 11 ((σ.1 11) + 1)) 5 (upd (σ.2 5) (0 : Int32).toNatClampNeg (σ.1 18))) 6 (upd (σ.2 6) (0 : Int32).toNatClampNeg (vp_nar .boolean 1))) 7 (upd (σ.2 7) (0 : Int32).toNatClampNeg (vp_nar .boolean 0))) 16 (upd (σ.2 16) (0 : Int32).toNatClampNeg 0)))) (mx_s9 _ _ _ (ar (ar (ar (sg (sg σ 18 (((σ.1 18) + 1) - ((σ.1 18) + 1) / (σ.1 6) * (σ.1 6))) 11 ((σ.1 11) + 1)) 5 (upd (σ.2 5) (0 : Int32).toNatClampNeg (σ.1 18))) 6 (upd (σ.2 6) (0 : Int32).toNatClampNeg (vp_nar .boolean 1))) 7 (upd (σ.2 7) (0 : Int32).toNatClampNeg (vp_nar .boolean 0))) _) dX8_fetch_92 ?_
          refine j_aload_n h 1 dX8_fetch_93 rfl rfl ?_
          refine j_get h iX8 0 (mx_c0 _ _ _ (ar (ar (ar (ar (sg (sg σ 18 (((σ.1 18) + 1) - ((σ.1 18) + 1) / (σ.1 6) * (σ.1 6))) 11 ((σ.1 11) + 1)) 5 (upd (σ.2 5) (0 : Int32).toNatClampNeg (σ.1 18))) 6 (upd (σ.2 6) (0 : Int32).toNatClampNeg (vp_nar .boolean 1))) 7 (upd (σ.2 7) (0 : Int32).toNatClampNeg (vp_nar .boolean 0))) 16 (upd (σ.2 16) (0 : Int32).toNatClampNeg 0))) rfl 16 (by decide) tb3_220 rfl (v := .ref (a 7)) rfl dX8_fetch_94 ?_
          refine j_iconst h (v := 0) dX8_fetch_97 (by decide) ?_
          refine j_zald h 7 1 (mx_g7 (σ := (ar (ar (ar (ar (sg (sg σ 18 (((σ.1 18) + 1) - ((σ.1 18) + 1) / (σ.1 6) * (σ.1 6))) 11 ((σ.1 11) + 1)) 5 (upd (σ.2 5) (0 : Int32).toNatClampNeg (σ.1 18))) 6 (upd (σ.2 6) (0 : Int32).toNatClampNeg (vp_nar .boolean 1))) 7 (upd (σ.2 7) (0 : Int32).toNatClampNeg (vp_nar .boolean 0))) 16 (upd (σ.2 16) (0 : Int32).toNatClampNeg 0))) (F := (upd (σ.2 6) (0 : Int32).toNatClampNeg (vp_nar .boolean 1))) rfl) rfl (vp_in_nI (n := 0) (N := 8) (by decide) (by decide)) dX8_fetch_98 ?_
          refine j_eqi (v' := 1) (pk_us.trans (by decide)) ?_
          refine j_if_eq h dX8_fetch_99 (tgt := 107) (by decide) (fun c6 => ?_) (fun c6 => ?_)
          ·
            exact absurd c6 (by decide)
          ·
            refine j_aload_n h 1 dX8_fetch_102 rfl rfl ?_
            refine j_iload_n h 0 dX8_fetch_103 rfl rfl ?_
            refine j_callVv h (kX8_plainRun l D a cI cZ (ar (ar (ar (ar (sg (sg σ 18 (((σ.1 18) + 1) - ((σ.1 18) + 1) / (σ.1 6) * (σ.1 6))) 11 ((σ.1 11) + 1)) 5 (upd (σ.2 5) (0 : Int32).toNatClampNeg (σ.1 18))) 6 (upd (σ.2 6) (0 : Int32).toNatClampNeg (vp_nar .boolean 1))) 7 (upd (σ.2 7) (0 : Int32).toNatClampNeg (vp_nar .boolean 0))) 16 (upd (σ.2 16) (0 : Int32).toNatClampNeg 0)) (σ.1 18) (m_s hv.2.2.1.1 hv.2.2.1.2) hb.2.1 hb.w0) tb4_182 tb4_184 tp_30 tb1_11 tb4_185 ⟨rfl, rfl⟩ (n := 1) (by decide +kernel) ⟨Nat.le_of_ble_eq_true rfl, Nat.le_of_ble_eq_true rfl⟩ (As := [.int (σ.1 18)]) rfl (ci := 8) (q0 := 0) rfl (mx_c0 _ _ _ (ar (ar (ar (ar (sg (sg σ 18 (((σ.1 18) + 1) - ((σ.1 18) + 1) / (σ.1 6) * (σ.1 6))) 11 ((σ.1 11) + 1)) 5 (upd (σ.2 5) (0 : Int32).toNatClampNeg (σ.1 18))) 6 (upd (σ.2 6) (0 : Int32).toNatClampNeg (vp_nar .boolean 1))) 7 (upd (σ.2 7) (0 : Int32).toNatClampNeg (vp_nar .boolean 0))) 16 (upd (σ.2 16) (0 : Int32).toNatClampNeg 0))) (st := []) rfl (Nat.le_of_ble_eq_true rfl) dX8_fetch_104 ⟨Nat.zero_le _, Nat.zero_le _⟩ ?_
            generalize hq7 : (fX8_plainRun (ar (ar (ar (ar (sg (sg σ 18 (((σ.1 18) + 1) - ((σ.1 18) + 1) / (σ.1 6) * (σ.1 6))) 11 ((σ.1 11) + 1)) 5 (upd (σ.2 5) (0 : Int32).toNatClampNeg (σ.1 18))) 6 (upd (σ.2 6) (0 : Int32).toNatClampNeg (vp_nar .boolean 1))) 7 (upd (σ.2 7) (0 : Int32).toNatClampNeg (vp_nar .boolean 0))) 16 (upd (σ.2 16) (0 : Int32).toNatClampNeg 0)) (σ.1 18)) = q7
            subst hq7
            have E : fX8_fetch σ = (fX8_plainRun (ar (ar (ar (ar (sg (sg σ 18 (((σ.1 18) + 1) - ((σ.1 18) + 1) / (σ.1 6) * (σ.1 6))) 11 ((σ.1 11) + 1)) 5 (upd (σ.2 5) (0 : Int32).toNatClampNeg (σ.1 18))) 6 (upd (σ.2 6) (0 : Int32).toNatClampNeg (vp_nar .boolean 1))) 7 (upd (σ.2 7) (0 : Int32).toNatClampNeg (vp_nar .boolean 0))) 16 (upd (σ.2 16) (0 : Int32).toNatClampNeg 0)) (σ.1 18)) := j_ig c1 (j_ig c2 (j_ip c3 (j_ip c4 rfl)))
            exact j_vreturn h hr (fun _ => 0) (congrArg (mx a cI cZ) E).symm dX8_fetch_107
      ·
        have E : fX8_fetch σ = σ := j_ig c1 (j_ig c2 (j_ig c3 rfl))
        exact j_vreturn h hr (fun _ => 0) (congrArg (mx a cI cZ) E).symm dX8_fetch_23
def rmX8_cycle : Room := { frames := 5, cells := 0, slots := 0, locals := 109 }
set_option maxRecDepth 100000 in
set_option maxHeartbeats 4000000 in
theorem kX8_cycle (l : Launch) (D : va_G) (a : Nat → Nat) (cI cZ : ClassId) (σ : St) {K : Nat} (hb : mB σ) (hv : mV K σ) (hK : K < 2 ^ 30) : Cv l yX8_cycle cX8_cycle 3 none TB rmX8_cycle D vwCl [(cI, .int), (cZ, .boolean)] [.ref (a 0)] (mx a cI cZ σ) (fun _ => (mx a cI cZ (fX8_cycle σ))) 0 0 := by
  refine Cv_of (cc := cX8_cycle) (maxL := 3) (ret := none) (by decide +kernel) TBg (Nat.le_of_ble_eq_true rfl) ?_
  intro p e s m args below meth c A h hr hname
  refine j_aload_n h 0 dX8_cycle_0 rfl rfl ?_
  refine j_dup h dX8_cycle_1 rfl ?_
  refine j_get h iX8 0 (mx_c0 _ _ _ σ) rfl 31 (by decide) tb3_235 rfl (v := .int (σ.1 9)) rfl dX8_cycle_2 ?_
  refine j_iconst h (v := 1) dX8_cycle_5 (by decide) ?_
  refine j_iadd h dX8_cycle_6 ?_
  refine j_put h iX8 tyX8 tyX8_ok nmX8 0 (mx_c0 _ _ _ σ) rfl 31 (by decide) tb3_235 rfl rfl rfl rfl (Nat.le_of_ble_eq_true rfl) (w' := (mx a cI cZ (sg σ 9 ((σ.1 9) + 1)))) (mx_p0_31 _ _ _ σ _) dX8_cycle_7 ?_
  refine j_aload_n h 0 dX8_cycle_10 rfl rfl ?_
  refine j_iconst h (v := 1) dX8_cycle_11 (by decide) ?_
  refine j_put h iX8 tyX8 tyX8_ok nmX8 0 (mx_c0 _ _ _ (sg σ 9 ((σ.1 9) + 1))) rfl 30 (by decide) tb3_234 rfl rfl rfl rfl (Nat.le_of_ble_eq_true rfl) (w' := (mx a cI cZ (sg (sg σ 9 ((σ.1 9) + 1)) 21 1))) (mx_p0_30 _ _ _ (sg σ 9 ((σ.1 9) + 1)) _) dX8_cycle_12 ?_
  refine j_aload_n h 0 dX8_cycle_15 rfl rfl ?_
  refine j_callVi h (kX8_leave l D a cI cZ (sg (sg σ 9 ((σ.1 9) + 1)) 21 1) (mB.fq (mB.fq hb (Fq.sg (by decide))) (Fq.sg (by decide))) (mV_sg (mV_sg hv (by decide)) (by decide))) tb4_122 tb4_124 tp_15 tb1_11 tb4_125 ⟨rfl, rfl⟩ (n := 0) (by decide +kernel) ⟨Nat.le_of_ble_eq_true rfl, Nat.le_of_ble_eq_true rfl⟩ (As := []) rfl (ci := 8) (q0 := 0) rfl (mx_c0 _ _ _ (sg (sg σ 9 ((σ.1 9) + 1)) 21 1)) (st := []) rfl (Nat.le_of_ble_eq_true rfl) dX8_cycle_16 ⟨Nat.zero_le _, Nat.zero_le _⟩ ?_
  generalize hq1 : (fX8_leave (sg (sg σ 9 ((σ.1 9) + 1)) 21 1)) = q1
  refine j_istore_n h (lv' := [(1, .int q1.1), (0, .ref (a 0))]) dX8_cycle_19 rfl (by decide) rfl ?_
  refine j_aload_n h 1 dX8_cycle_20 rfl rfl ?_
  refine j_get h iX8 0 (mx_c0 _ _ _ q1.2) rfl 29 (by decide) tb3_233 rfl (v := .int (q1.2.1 15)) rfl dX8_cycle_21 ?_
  refine j_if_ne h dX8_cycle_24 (tgt := 47) (by decide) (fun c2 => ?_) (fun c2 => ?_)
  ·
    refine j_aload_n h 1 dX8_cycle_47 rfl rfl ?_
    refine j_get h iX8 0 (mx_c0 _ _ _ q1.2) rfl 37 (by decide) tb4_1 rfl (v := .ref (a 17)) rfl dX8_cycle_48 ?_
    refine j_iload_n h 0 dX8_cycle_51 rfl rfl ?_
    refine j_dup2 h dX8_cycle_52 rfl rfl ?_
    refine j_iald h 17 0 (mx_g17 (σ := q1.2) (F := (q1.2.2 11)) rfl) rfl (by rw [← hq1]; exact leave_r _) dX8_cycle_53 ?_
    refine j_iconst h (v := 1) dX8_cycle_54 (by decide) ?_
    refine j_iadd h dX8_cycle_55 ?_
    refine j_iast h 17 0 (mx_g17 (σ := q1.2) (F := (q1.2.2 11)) rfl) rfl (by rw [← hq1]; exact leave_r _) (w' := (mx a cI cZ (ar q1.2 11 (upd (q1.2.2 11) q1.1.toNatClampNeg (((q1.2.2 11) q1.1.toNatClampNeg) + 1))))) (mx_s17 _ _ _ q1.2 _) dX8_cycle_56 ?_
    subst hq1
    have E : fX8_cycle σ = (ar (fX8_leave (sg (sg σ 9 ((σ.1 9) + 1)) 21 1)).2 11 (upd ((fX8_leave (sg (sg σ 9 ((σ.1 9) + 1)) 21 1)).2.2 11) (fX8_leave (sg (sg σ 9 ((σ.1 9) + 1)) 21 1)).1.toNatClampNeg ((((fX8_leave (sg (sg σ 9 ((σ.1 9) + 1)) 21 1)).2.2 11) (fX8_leave (sg (sg σ 9 ((σ.1 9) + 1)) 21 1)).1.toNatClampNeg) + 1))) := j_ig c2 rfl
    exact j_vreturn h hr (fun _ => 0) (congrArg (mx a cI cZ) E).symm dX8_cycle_57
  ·
    refine j_aload_n h 1 dX8_cycle_27 rfl rfl ?_
    refine j_callVi h (kX8_goOn l D a cI cZ q1.2 (by rw [← hq1]; exact (mB.fq (mB.fq (mB.fq hb (Fq.sg (by decide))) (Fq.sg (by decide))) (fr_fX8_leave _))) (by rw [← hq1]; exact (mv_fX8_leave (mB.fq (mB.fq hb (Fq.sg (by decide))) (Fq.sg (by decide))) (mV_sg (mV_sg hv (by decide)) (by decide)) hK))) tb4_142 tb4_144 tp_20 tb1_11 tb4_145 ⟨rfl, rfl⟩ (n := 0) (by decide +kernel) ⟨Nat.le_of_ble_eq_true rfl, Nat.le_of_ble_eq_true rfl⟩ (As := []) rfl (ci := 8) (q0 := 0) rfl (mx_c0 _ _ _ q1.2) (st := []) rfl (Nat.le_of_ble_eq_true rfl) dX8_cycle_28 ⟨Nat.zero_le _, Nat.zero_le _⟩ ?_
    generalize hq3 : (fX8_goOn q1.2) = q3
    refine j_istore_n h (lv' := [(2, .int q3.1), (1, .int q1.1), (0, .ref (a 0))]) dX8_cycle_31 rfl (by decide) rfl ?_
    refine j_iload_n h 1 dX8_cycle_32 rfl rfl ?_
    refine j_iconst h (v := 4) dX8_cycle_33 (by decide) ?_
    refine j_icmp_ge h dX8_cycle_34 (tgt := 41) (by decide) (fun c4 => ?_) (fun c4 => ?_)
    ·
      refine j_iload_n h 0 dX8_cycle_41 rfl rfl ?_
      refine j_istore_n h (lv' := [(1, .int q3.1), (2, .int q3.1), (0, .ref (a 0))]) dX8_cycle_42 rfl (by decide) rfl ?_
      refine j_aload_n h 2 dX8_cycle_43 rfl rfl ?_
      refine j_callVv h (kX8_fetch l D a cI cZ q3.2 (by rw [← hq3]; exact (mB.fq (by rw [← hq1]; exact (mB.fq (mB.fq (mB.fq hb (Fq.sg (by decide))) (Fq.sg (by decide))) (fr_fX8_leave _))) (fr_fX8_goOn _))) (by rw [← hq3]; exact (mv_fX8_goOn (by rw [← hq1]; exact (mB.fq (mB.fq (mB.fq hb (Fq.sg (by decide))) (Fq.sg (by decide))) (fr_fX8_leave _))) (by rw [← hq1]; exact (mv_fX8_leave (mB.fq (mB.fq hb (Fq.sg (by decide))) (Fq.sg (by decide))) (mV_sg (mV_sg hv (by decide)) (by decide)) hK))))) tb4_178 tb4_180 tp_29 tb1_11 tb4_181 ⟨rfl, rfl⟩ (n := 0) (by decide +kernel) ⟨Nat.le_of_ble_eq_true rfl, Nat.le_of_ble_eq_true rfl⟩ (As := []) rfl (ci := 8) (q0 := 0) rfl (mx_c0 _ _ _ q3.2) (st := []) rfl (Nat.le_of_ble_eq_true rfl) dX8_cycle_44 ⟨Nat.zero_le _, Nat.zero_le _⟩ ?_
      generalize hq5 : (fX8_fetch q3.2) = q5
      refine j_aload_n h 2 dX8_cycle_47 rfl rfl ?_
      refine j_get h iX8 0 (mx_c0 _ _ _ q5) rfl 37 (by decide) tb4_1 rfl (v := .ref (a 17)) rfl dX8_cycle_48 ?_
      refine j_iload_n h 0 dX8_cycle_51 rfl rfl ?_
      refine j_dup2 h dX8_cycle_52 rfl rfl ?_
      refine j_iald h 17 0 (mx_g17 (σ := q5) (F := (q5.2 11)) rfl) rfl (by rw [← hq3]; exact goOn_r _) dX8_cycle_53 ?_
      refine j_iconst h (v := 1) dX8_cycle_54 (by decide) ?_
      refine j_iadd h dX8_cycle_55 ?_
      refine j_iast h 17 0 (mx_g17 (σ := q5) (F := (q5.2 11)) rfl) rfl (by rw [← hq3]; exact goOn_r _) (w' := (mx a cI cZ (ar q5 11 (upd (q5.2 11) q3.1.toNatClampNeg (((q5.2 11) q3.1.toNatClampNeg) + 1))))) (mx_s17 _ _ _ q5 _) dX8_cycle_56 ?_
      subst hq1 hq3 hq5
      have E : fX8_cycle σ = (ar (fX8_fetch (fX8_goOn (fX8_leave (sg (sg σ 9 ((σ.1 9) + 1)) 21 1)).2).2) 11 (upd ((fX8_fetch (fX8_goOn (fX8_leave (sg (sg σ 9 ((σ.1 9) + 1)) 21 1)).2).2).2 11) (fX8_goOn (fX8_leave (sg (sg σ 9 ((σ.1 9) + 1)) 21 1)).2).1.toNatClampNeg ((((fX8_fetch (fX8_goOn (fX8_leave (sg (sg σ 9 ((σ.1 9) + 1)) 21 1)).2).2).2 11) (fX8_goOn (fX8_leave (sg (sg σ 9 ((σ.1 9) + 1)) 21 1)).2).1.toNatClampNeg) + 1))) := j_ip c2 (j_ip c4 rfl)
      exact j_vreturn h hr (fun _ => 0) (congrArg (mx a cI cZ) E).symm dX8_cycle_57
    ·
      refine j_iload_n h 1 dX8_cycle_37 rfl rfl ?_
      refine j_goto h dX8_cycle_38 (tgt := 42) (by decide) ?_
      refine j_istore_n h (lv' := [(1, .int q1.1), (2, .int q3.1), (0, .ref (a 0))]) dX8_cycle_42 rfl (by decide) rfl ?_
      refine j_aload_n h 2 dX8_cycle_43 rfl rfl ?_
      refine j_callVv h (kX8_fetch l D a cI cZ q3.2 (by rw [← hq3]; exact (mB.fq (by rw [← hq1]; exact (mB.fq (mB.fq (mB.fq hb (Fq.sg (by decide))) (Fq.sg (by decide))) (fr_fX8_leave _))) (fr_fX8_goOn _))) (by rw [← hq3]; exact (mv_fX8_goOn (by rw [← hq1]; exact (mB.fq (mB.fq (mB.fq hb (Fq.sg (by decide))) (Fq.sg (by decide))) (fr_fX8_leave _))) (by rw [← hq1]; exact (mv_fX8_leave (mB.fq (mB.fq hb (Fq.sg (by decide))) (Fq.sg (by decide))) (mV_sg (mV_sg hv (by decide)) (by decide)) hK))))) tb4_178 tb4_180 tp_29 tb1_11 tb4_181 ⟨rfl, rfl⟩ (n := 0) (by decide +kernel) ⟨Nat.le_of_ble_eq_true rfl, Nat.le_of_ble_eq_true rfl⟩ (As := []) rfl (ci := 8) (q0 := 0) rfl (mx_c0 _ _ _ q3.2) (st := []) rfl (Nat.le_of_ble_eq_true rfl) dX8_cycle_44 ⟨Nat.zero_le _, Nat.zero_le _⟩ ?_
      generalize hq6 : (fX8_fetch q3.2) = q6
      refine j_aload_n h 2 dX8_cycle_47 rfl rfl ?_
      refine j_get h iX8 0 (mx_c0 _ _ _ q6) rfl 37 (by decide) tb4_1 rfl (v := .ref (a 17)) rfl dX8_cycle_48 ?_
      refine j_iload_n h 0 dX8_cycle_51 rfl rfl ?_
      refine j_dup2 h dX8_cycle_52 rfl rfl ?_
      refine j_iald h 17 0 (mx_g17 (σ := q6) (F := (q6.2 11)) rfl) rfl (by rw [← hq1]; exact leave_r _) dX8_cycle_53 ?_
      refine j_iconst h (v := 1) dX8_cycle_54 (by decide) ?_
      refine j_iadd h dX8_cycle_55 ?_
      refine j_iast h 17 0 (mx_g17 (σ := q6) (F := (q6.2 11)) rfl) rfl (by rw [← hq1]; exact leave_r _) (w' := (mx a cI cZ (ar q6 11 (upd (q6.2 11) q1.1.toNatClampNeg (((q6.2 11) q1.1.toNatClampNeg) + 1))))) (mx_s17 _ _ _ q6 _) dX8_cycle_56 ?_
      subst hq1 hq3 hq6
      have E : fX8_cycle σ = (ar (fX8_fetch (fX8_goOn (fX8_leave (sg (sg σ 9 ((σ.1 9) + 1)) 21 1)).2).2) 11 (upd ((fX8_fetch (fX8_goOn (fX8_leave (sg (sg σ 9 ((σ.1 9) + 1)) 21 1)).2).2).2 11) (fX8_leave (sg (sg σ 9 ((σ.1 9) + 1)) 21 1)).1.toNatClampNeg ((((fX8_fetch (fX8_goOn (fX8_leave (sg (sg σ 9 ((σ.1 9) + 1)) 21 1)).2).2).2 11) (fX8_leave (sg (sg σ 9 ((σ.1 9) + 1)) 21 1)).1.toNatClampNeg) + 1))) := j_ip c2 (j_ig c4 rfl)
      exact j_vreturn h hr (fun _ => 0) (congrArg (mx a cI cZ) E).symm dX8_cycle_57
def rmX8_run : Room := { frames := 6, cells := 0, slots := 0, locals := 131 }
set_option maxRecDepth 100000 in
set_option maxHeartbeats 4000000 in
theorem kX8_run (l : Launch) (D : va_G) (a : Nat → Nat) (cI cZ : ClassId) (σ : St) (x1 : Int32) {K : Nat} (hb : ¬ (σ.1 6) = 0 → mB σ) (hv : mV K σ) (hK : K + 2001 < 2 ^ 30) : Ci l yX8_run cX8_run 3 (some .int) TB rmX8_run D vwCl [(cI, .int), (cZ, .boolean)] [.ref (a 0), .int x1] (mx a cI cZ σ) (mx a cI cZ (fX8_run σ x1).2) (fX8_run σ x1).1 := by
  refine Ci_of (cc := cX8_run) (maxL := 3) (ret := (some .int)) (by decide +kernel) TBg (Nat.le_of_ble_eq_true rfl) ?_
  intro p e s m args below meth c A h hr
  have loop : ∀ (n : Nat) (σ : St) (x2 : Int32), ∀ K : Nat, mB σ → mV K σ → K + n < 2 ^ 30 → 0 ≤ x2.toInt → x2.toInt ≤ x1.toInt → x1.toInt < x2.toInt + n → J p l e rmX8_run s m args below meth c D vwCl A 3 0 0 (MQ below (jEi D vwCl [(cI, .int), (cZ, .boolean)] A (mx a cI cZ (gfX8_run n σ x1 x2).2) (gfX8_run n σ x1 x2).1) args s 0 0 A) (mx a cI cZ σ) 37 [(2, .int x2), (0, .ref (a 0)), (1, .int x1)] [] := by
    intro n
    induction n with
    | zero => intro σ x2 K hb hv hK h3 h4 h5; exact absurd h5 (by omega)
    | succ n ih =>
      intro σ x2 K hb hv hK h3 h4 h5
      refine j_iload_n h 0 dX8_run_37 rfl rfl ?_
      refine j_iload_n h 2 dX8_run_38 rfl rfl ?_
      refine j_icmp_ge h dX8_run_39 (tgt := 59) (by decide) (fun c1001 => ?_) (fun c1001 => ?_)
      ·
        refine j_iload_n h 0 dX8_run_59 rfl rfl ?_
        have E : gfX8_run (n + 1) σ x1 x2 = (x2, σ) := j_ip c1001 rfl
        exact j_ireturn h hr (congrArg Prod.fst E).symm (congrArg (fun z => mx a cI cZ z.2) E).symm dX8_run_60
      ·
        refine j_aload_n h 1 dX8_run_42 rfl rfl ?_
        refine j_get h iX8 0 (mx_c0 _ _ _ σ) rfl 29 (by decide) tb3_233 rfl (v := .int (σ.1 15)) rfl dX8_run_43 ?_
        refine j_if_ne h dX8_run_46 (tgt := 59) (by decide) (fun c1002 => ?_) (fun c1002 => ?_)
        ·
          refine j_iload_n h 0 dX8_run_59 rfl rfl ?_
          have E : gfX8_run (n + 1) σ x1 x2 = (x2, σ) := j_ig c1001 (j_ig c1002 rfl)
          exact j_ireturn h hr (congrArg Prod.fst E).symm (congrArg (fun z => mx a cI cZ z.2) E).symm dX8_run_60
        ·
          refine j_aload_n h 1 dX8_run_49 rfl rfl ?_
          refine j_callVv h (kX8_cycle l D a cI cZ σ hb hv (by omega)) tb4_118 tb4_120 tp_14 tb1_11 tb4_121 ⟨rfl, rfl⟩ (n := 0) (by decide +kernel) ⟨Nat.le_of_ble_eq_true rfl, Nat.le_of_ble_eq_true rfl⟩ (As := []) rfl (ci := 8) (q0 := 0) rfl (mx_c0 _ _ _ σ) (st := []) rfl (Nat.le_of_ble_eq_true rfl) dX8_run_50 ⟨Nat.zero_le _, Nat.zero_le _⟩ ?_
          generalize hq1003 : (fX8_cycle σ) = q1003
          refine j_iinc h 0 (v := (x2 + 1)) (lv' := [(2, .int (x2 + 1)), (0, .ref (a 0)), (1, .int x1)]) dX8_run_53 rfl (rfl) (by decide) rfl ?_
          refine j_goto h dX8_run_56 (tgt := 37) (by decide) ?_
          have hi := j_inc (j_hi1 c1001)
          have hl := j_toLt c1001
          subst hq1003
          have E : gfX8_run (n + 1) σ x1 x2 = gfX8_run n (fX8_cycle σ) x1 (x2 + 1) := j_ig c1001 (j_ip c1002 rfl)
          rw [E]
          refine j_lv [0, 1, 2] rfl ?_
          exact ih (fX8_cycle σ) (x2 + 1) (K + 1) (mB.fq hb (fr_fX8_cycle _)) (mv_fX8_cycle hb hv (by omega)) (by omega) (by omega) (by omega) (by omega)
  refine j_aload_n h 0 dX8_run_0 rfl rfl ?_
  refine j_iconst h (v := 0) dX8_run_1 (by decide) ?_
  refine j_put h iX8 tyX8 tyX8_ok nmX8 0 (mx_c0 _ _ _ σ) rfl 0 (by decide) tb3_204 rfl rfl rfl rfl (Nat.le_of_ble_eq_true rfl) (w' := (mx a cI cZ (sg σ 22 0))) (mx_p0_0 _ _ _ σ _) dX8_run_2 ?_
  refine j_iload_n h 1 dX8_run_5 rfl rfl ?_
  refine j_iconst h (v := 1) dX8_run_6 (by decide) ?_
  refine j_sipush h (v := 2000) dX8_run_7 (by decide) ?_
  refine j_callSi0 h (kX8_within l D cI cZ x1 1 2000) tb4_96 tb4_97 tb1_11 tb4_98 ⟨rfl, rfl⟩ (n := 3) (by decide +kernel) ⟨Nat.le_of_ble_eq_true rfl, Nat.le_of_ble_eq_true rfl⟩ (As := [.int x1, .int 1, .int 2000]) rfl (st := []) rfl (Nat.le_of_ble_eq_true rfl) dX8_run_10 ⟨Nat.zero_le _, Nat.zero_le _⟩ ?_
  generalize hq1 : (fX8_within x1 1 2000) = q1
  refine j_if_ne h dX8_run_13 (tgt := 22) (by decide) (fun c2 => ?_) (fun c2 => ?_)
  ·
    refine j_aload_n h 0 dX8_run_22 rfl rfl ?_
    refine j_get h iX8 0 (mx_c0 _ _ _ (sg σ 22 0)) rfl 9 (by decide) tb3_213 rfl (v := .int (σ.1 6)) rfl dX8_run_23 ?_
    refine j_if_ne h dX8_run_26 (tgt := 35) (by decide) (fun c3 => ?_) (fun c3 => ?_)
    ·
      refine j_iconst h (v := 0) dX8_run_35 (by decide) ?_
      refine j_istore_n h (lv' := [(2, .int 0), (0, .ref (a 0)), (1, .int x1)]) dX8_run_36 rfl (by decide) rfl ?_
      subst hq1
      have E : fX8_run σ x1 = gfX8_run 2001 (sg σ 22 0) x1 0 := j_ig c2 (j_ig c3 rfl)
      rw [E]
      refine j_lv [0, 1, 2] rfl ?_
      exact loop 2001 (sg σ 22 0) 0 K (mB.fq (hb c3) (Fq.sg (by decide))) (mV_sg hv (by decide)) hK (by decide) (m_run c2).1 (m_run c2).2
    ·
      refine j_aload_n h 0 dX8_run_29 rfl rfl ?_
      refine j_iconst h (v := 2) dX8_run_30 (by decide) ?_
      refine j_callVi h (kX8_fail l D a cI cZ (sg σ 22 0) 2) tb4_102 tb4_104 tp_13 tb1_11 tb4_105 ⟨rfl, rfl⟩ (n := 1) (by decide +kernel) ⟨Nat.le_of_ble_eq_true rfl, Nat.le_of_ble_eq_true rfl⟩ (As := [.int 2]) rfl (ci := 8) (q0 := 0) rfl (mx_c0 _ _ _ (sg σ 22 0)) (st := []) rfl (Nat.le_of_ble_eq_true rfl) dX8_run_31 ⟨Nat.zero_le _, Nat.zero_le _⟩ ?_
      generalize hq4 : (fX8_fail (sg σ 22 0) 2) = q4
      subst hq1 hq4
      have E : fX8_run σ x1 = ((fX8_fail (sg σ 22 0) 2).1, (fX8_fail (sg σ 22 0) 2).2) := j_ig c2 (j_ip c3 rfl)
      exact j_ireturn h hr (congrArg Prod.fst E).symm (congrArg (fun z => mx a cI cZ z.2) E).symm dX8_run_34
  ·
    refine j_aload_n h 0 dX8_run_16 rfl rfl ?_
    refine j_iconst h (v := 1) dX8_run_17 (by decide) ?_
    refine j_callVi h (kX8_fail l D a cI cZ (sg σ 22 0) 1) tb4_102 tb4_104 tp_13 tb1_11 tb4_105 ⟨rfl, rfl⟩ (n := 1) (by decide +kernel) ⟨Nat.le_of_ble_eq_true rfl, Nat.le_of_ble_eq_true rfl⟩ (As := [.int 1]) rfl (ci := 8) (q0 := 0) rfl (mx_c0 _ _ _ (sg σ 22 0)) (st := []) rfl (Nat.le_of_ble_eq_true rfl) dX8_run_18 ⟨Nat.zero_le _, Nat.zero_le _⟩ ?_
    generalize hq5 : (fX8_fail (sg σ 22 0) 1) = q5
    subst hq1 hq5
    have E : fX8_run σ x1 = ((fX8_fail (sg σ 22 0) 1).1, (fX8_fail (sg σ 22 0) 1).2) := j_ip c2 rfl
    exact j_ireturn h hr (congrArg Prod.fst E).symm (congrArg (fun z => mx a cI cZ z.2) E).symm dX8_run_21
def rmX8_stage : Room := { frames := 1, cells := 0, slots := 0, locals := 22 }
set_option maxRecDepth 100000 in
set_option maxHeartbeats 4000000 in
theorem kX8_stage (l : Launch) (D : va_G) (a : Nat → Nat) (cI cZ : ClassId) (σ : St) (x1 x2 : Int32) (hs : shp σ) : Ci l yX8_stage cX8_stage 3 (some .int) TB rmX8_stage D vwCl [(cI, .int), (cZ, .boolean)] [.ref (a 0), .int x1, .int x2] (mx a cI cZ σ) (mx a cI cZ (fX8_stage σ x1 x2).2) (fX8_stage σ x1 x2).1 := by
  refine Ci_of (cc := cX8_stage) (maxL := 3) (ret := (some .int)) (by decide +kernel) TBg (Nat.le_of_ble_eq_true rfl) ?_
  intro p e s m args below meth c A h hr
  refine j_aload_n h 0 dX8_stage_0 rfl rfl ?_
  refine j_iconst h (v := 0) dX8_stage_1 (by decide) ?_
  refine j_put h iX8 tyX8 tyX8_ok nmX8 0 (mx_c0 _ _ _ σ) rfl 0 (by decide) tb3_204 rfl rfl rfl rfl (Nat.le_of_ble_eq_true rfl) (w' := (mx a cI cZ (sg σ 22 0))) (mx_p0_0 _ _ _ σ _) dX8_stage_2 ?_
  refine j_iload_n h 1 dX8_stage_5 rfl rfl ?_
  refine j_iconst h (v := 0) dX8_stage_6 (by decide) ?_
  refine j_aload_n h 0 dX8_stage_7 rfl rfl ?_
  refine j_get h iX8 0 (mx_c0 _ _ _ (sg σ 22 0)) rfl 1 (by decide) tb3_205 rfl (v := .int (σ.1 0)) rfl dX8_stage_8 ?_
  refine j_iconst h (v := 1) dX8_stage_11 (by decide) ?_
  refine j_isub h dX8_stage_12 ?_
  refine j_callSi0 h (kX8_within l D cI cZ x1 0 ((σ.1 0) - 1)) tb4_96 tb4_97 tb1_11 tb4_98 ⟨rfl, rfl⟩ (n := 3) (by decide +kernel) ⟨Nat.le_of_ble_eq_true rfl, Nat.le_of_ble_eq_true rfl⟩ (As := [.int x1, .int 0, .int ((σ.1 0) - 1)]) rfl (st := []) rfl (Nat.le_of_ble_eq_true rfl) dX8_stage_13 ⟨Nat.zero_le _, Nat.zero_le _⟩ ?_
  generalize hq1 : (fX8_within x1 0 ((σ.1 0) - 1)) = q1
  refine j_if_eq h dX8_stage_16 (tgt := 28) (by decide) (fun c2 => ?_) (fun c2 => ?_)
  ·
    refine j_aload_n h 0 dX8_stage_28 rfl rfl ?_
    refine j_iconst h (v := 1) dX8_stage_29 (by decide) ?_
    refine j_callVi h (kX8_fail l D a cI cZ (sg σ 22 0) 1) tb4_102 tb4_104 tp_13 tb1_11 tb4_105 ⟨rfl, rfl⟩ (n := 1) (by decide +kernel) ⟨Nat.le_of_ble_eq_true rfl, Nat.le_of_ble_eq_true rfl⟩ (As := [.int 1]) rfl (ci := 8) (q0 := 0) rfl (mx_c0 _ _ _ (sg σ 22 0)) (st := []) rfl (Nat.le_of_ble_eq_true rfl) dX8_stage_30 ⟨Nat.zero_le _, Nat.zero_le _⟩ ?_
    generalize hq3 : (fX8_fail (sg σ 22 0) 1) = q3
    subst hq1 hq3
    have E : fX8_stage σ x1 x2 = ((fX8_fail (sg σ 22 0) 1).1, (fX8_fail (sg σ 22 0) 1).2) := j_ip c2 rfl
    exact j_ireturn h hr (congrArg Prod.fst E).symm (congrArg (fun z => mx a cI cZ z.2) E).symm dX8_stage_33
  ·
    refine j_iload_n h 2 dX8_stage_19 rfl rfl ?_
    refine j_iconst h (v := 0) dX8_stage_20 (by decide) ?_
    refine j_iconst h (v := 1) dX8_stage_21 (by decide) ?_
    refine j_callSi0 h (kX8_within l D cI cZ x2 0 1) tb4_96 tb4_97 tb1_11 tb4_98 ⟨rfl, rfl⟩ (n := 3) (by decide +kernel) ⟨Nat.le_of_ble_eq_true rfl, Nat.le_of_ble_eq_true rfl⟩ (As := [.int x2, .int 0, .int 1]) rfl (st := []) rfl (Nat.le_of_ble_eq_true rfl) dX8_stage_22 ⟨Nat.zero_le _, Nat.zero_le _⟩ ?_
    generalize hq4 : (fX8_within x2 0 1) = q4
    refine j_if_ne h dX8_stage_25 (tgt := 34) (by decide) (fun c5 => ?_) (fun c5 => ?_)
    ·
      refine j_iload_n h 2 dX8_stage_34 rfl rfl ?_
      refine j_if_ne h dX8_stage_35 (tgt := 47) (by decide) (fun c6 => ?_) (fun c6 => ?_)
      ·
        refine j_aload_n h 0 dX8_stage_47 rfl rfl ?_
        refine j_get h iX8 0 (mx_c0 _ _ _ (sg σ 22 0)) rfl 15 (by decide) tb3_219 rfl (v := .ref (a 6)) rfl dX8_stage_48 ?_
        refine j_iload_n h 1 dX8_stage_51 rfl rfl ?_
        refine j_iald h 6 0 (mx_g6 (σ := (sg σ 22 0)) (F := (σ.2 5)) rfl) rfl (m_st hs (by rw [hq1]; exact c2)) dX8_stage_52 ?_
        refine j_if_lt h dX8_stage_53 (tgt := 69) (by decide) (fun c7 => ?_) (fun c7 => ?_)
        ·
          refine j_iconst h (v := 0) dX8_stage_69 (by decide) ?_
          subst hq1 hq4
          have E : fX8_stage σ x1 x2 = (0, (sg σ 22 0)) := j_ig c2 (j_ig c5 (j_ig c6 (j_ip c7 rfl)))
          exact j_ireturn h hr (congrArg Prod.fst E).symm (congrArg (fun z => mx a cI cZ z.2) E).symm dX8_stage_70
        ·
          refine j_aload_n h 0 dX8_stage_56 rfl rfl ?_
          refine j_get h iX8 0 (mx_c0 _ _ _ (sg σ 22 0)) rfl 16 (by decide) tb3_220 rfl (v := .ref (a 7)) rfl dX8_stage_57 ?_
          refine j_iload_n h 1 dX8_stage_60 rfl rfl ?_
          refine j_zald h 7 1 (mx_g7 (σ := (sg σ 22 0)) (F := (σ.2 6)) rfl) rfl (m_st hs (by rw [hq1]; exact c2)) dX8_stage_61 ?_
          refine j_if_eq h dX8_stage_62 (tgt := 69) (by decide) (fun c8 => ?_) (fun c8 => ?_)
          ·
            refine j_iconst h (v := 0) dX8_stage_69 (by decide) ?_
            subst hq1 hq4
            have E : fX8_stage σ x1 x2 = (0, (sg σ 22 0)) := j_ig c2 (j_ig c5 (j_ig c6 (j_ig c7 (j_ip c8 rfl))))
            exact j_ireturn h hr (congrArg Prod.fst E).symm (congrArg (fun z => mx a cI cZ z.2) E).symm dX8_stage_70
          ·
            refine j_iconst h (v := 1) dX8_stage_65 (by decide) ?_
            refine j_goto h dX8_stage_66 (tgt := 70) (by decide) ?_
            subst hq1 hq4
            have E : fX8_stage σ x1 x2 = (1, (sg σ 22 0)) := j_ig c2 (j_ig c5 (j_ig c6 (j_ig c7 (j_ig c8 rfl))))
            exact j_ireturn h hr (congrArg Prod.fst E).symm (congrArg (fun z => mx a cI cZ z.2) E).symm dX8_stage_70
      ·
        refine j_aload_n h 0 dX8_stage_38 rfl rfl ?_
        refine j_get h iX8 0 (mx_c0 _ _ _ (sg σ 22 0)) rfl 15 (by decide) tb3_219 rfl (v := .ref (a 6)) rfl dX8_stage_39 ?_
        refine j_iload_n h 1 dX8_stage_42 rfl rfl ?_
        refine j_iald h 6 0 (mx_g6 (σ := (sg σ 22 0)) (F := (σ.2 5)) rfl) rfl (m_st hs (by rw [hq1]; exact c2)) dX8_stage_43 ?_
        refine j_goto h dX8_stage_44 (tgt := 70) (by decide) ?_
        subst hq1 hq4
        have E : fX8_stage σ x1 x2 = (((σ.2 5) x1.toNatClampNeg), (sg σ 22 0)) := j_ig c2 (j_ig c5 (j_ip c6 rfl))
        exact j_ireturn h hr (congrArg Prod.fst E).symm (congrArg (fun z => mx a cI cZ z.2) E).symm dX8_stage_70
    ·
      refine j_aload_n h 0 dX8_stage_28 rfl rfl ?_
      refine j_iconst h (v := 1) dX8_stage_29 (by decide) ?_
      refine j_callVi h (kX8_fail l D a cI cZ (sg σ 22 0) 1) tb4_102 tb4_104 tp_13 tb1_11 tb4_105 ⟨rfl, rfl⟩ (n := 1) (by decide +kernel) ⟨Nat.le_of_ble_eq_true rfl, Nat.le_of_ble_eq_true rfl⟩ (As := [.int 1]) rfl (ci := 8) (q0 := 0) rfl (mx_c0 _ _ _ (sg σ 22 0)) (st := []) rfl (Nat.le_of_ble_eq_true rfl) dX8_stage_30 ⟨Nat.zero_le _, Nat.zero_le _⟩ ?_
      generalize hq9 : (fX8_fail (sg σ 22 0) 1) = q9
      subst hq1 hq4 hq9
      have E : fX8_stage σ x1 x2 = ((fX8_fail (sg σ 22 0) 1).1, (fX8_fail (sg σ 22 0) 1).2) := j_ig c2 (j_ip c5 rfl)
      exact j_ireturn h hr (congrArg Prod.fst E).symm (congrArg (fun z => mx a cI cZ z.2) E).symm dX8_stage_33
def rmX8_committed : Room := { frames := 1, cells := 0, slots := 0, locals := 22 }
set_option maxRecDepth 100000 in
set_option maxHeartbeats 4000000 in
theorem kX8_committed (l : Launch) (D : va_G) (a : Nat → Nat) (cI cZ : ClassId) (σ : St) (x1 x2 : Int32) (hc : 0 ≤ (σ.1 10).toInt ∧ (σ.1 10).toInt < 2 ^ 30) : Ci l yX8_committed cX8_committed 5 (some .int) TB rmX8_committed D vwCl [(cI, .int), (cZ, .boolean)] [.ref (a 0), .int x1, .int x2] (mx a cI cZ σ) (mx a cI cZ (fX8_committed σ x1 x2).2) (fX8_committed σ x1 x2).1 := by
  refine Ci_of (cc := cX8_committed) (maxL := 5) (ret := (some .int)) (by decide +kernel) TBg (Nat.le_of_ble_eq_true rfl) ?_
  intro p e s m args below meth c A h hr
  refine j_aload_n h 0 dX8_committed_0 rfl rfl ?_
  refine j_iconst h (v := 0) dX8_committed_1 (by decide) ?_
  refine j_put h iX8 tyX8 tyX8_ok nmX8 0 (mx_c0 _ _ _ σ) rfl 0 (by decide) tb3_204 rfl rfl rfl rfl (Nat.le_of_ble_eq_true rfl) (w' := (mx a cI cZ (sg σ 22 0))) (mx_p0_0 _ _ _ σ _) dX8_committed_2 ?_
  refine j_aload_n h 0 dX8_committed_5 rfl rfl ?_
  refine j_get h iX8 0 (mx_c0 _ _ _ (sg σ 22 0)) rfl 32 (by decide) tb3_236 rfl (v := .int (σ.1 10)) rfl dX8_committed_6 ?_
  refine j_sipush h (v := 400) dX8_committed_9 (by decide) ?_
  refine j_icmp_ge h dX8_committed_12 (tgt := 22) (by decide) (fun c1 => ?_) (fun c1 => ?_)
  ·
    refine j_sipush h (v := 400) dX8_committed_22 (by decide) ?_
    refine j_istore_n h (lv' := [(3, .int 400), (0, .ref (a 0)), (1, .int x1), (2, .int x2)]) dX8_committed_25 rfl (by decide) rfl ?_
    refine j_iload_n h 2 dX8_committed_26 rfl rfl ?_
    refine j_iconst h (v := 0) dX8_committed_27 (by decide) ?_
    refine j_iload_n h 0 dX8_committed_28 rfl rfl ?_
    refine j_iconst h (v := 1) dX8_committed_29 (by decide) ?_
    refine j_isub h dX8_committed_30 ?_
    refine j_callSi0 h (kX8_within l D cI cZ x1 0 (400 - 1)) tb4_96 tb4_97 tb1_11 tb4_98 ⟨rfl, rfl⟩ (n := 3) (by decide +kernel) ⟨Nat.le_of_ble_eq_true rfl, Nat.le_of_ble_eq_true rfl⟩ (As := [.int x1, .int 0, .int (400 - 1)]) rfl (st := []) rfl (Nat.le_of_ble_eq_true rfl) dX8_committed_31 ⟨Nat.zero_le _, Nat.zero_le _⟩ ?_
    generalize hq2 : (fX8_within x1 0 (400 - 1)) = q2
    refine j_if_eq h dX8_committed_34 (tgt := 46) (by decide) (fun c3 => ?_) (fun c3 => ?_)
    ·
      refine j_aload_n h 1 dX8_committed_46 rfl rfl ?_
      refine j_iconst h (v := 1) dX8_committed_47 (by decide) ?_
      refine j_callVi h (kX8_fail l D a cI cZ (sg σ 22 0) 1) tb4_102 tb4_104 tp_13 tb1_11 tb4_105 ⟨rfl, rfl⟩ (n := 1) (by decide +kernel) ⟨Nat.le_of_ble_eq_true rfl, Nat.le_of_ble_eq_true rfl⟩ (As := [.int 1]) rfl (ci := 8) (q0 := 0) rfl (mx_c0 _ _ _ (sg σ 22 0)) (st := []) rfl (Nat.le_of_ble_eq_true rfl) dX8_committed_48 ⟨Nat.zero_le _, Nat.zero_le _⟩ ?_
      generalize hq4 : (fX8_fail (sg σ 22 0) 1) = q4
      subst hq2 hq4
      have E : fX8_committed σ x1 x2 = ((fX8_fail (sg σ 22 0) 1).1, (fX8_fail (sg σ 22 0) 1).2) := j_ip c1 (j_ip c3 rfl)
      exact j_ireturn h hr (congrArg Prod.fst E).symm (congrArg (fun z => mx a cI cZ z.2) E).symm dX8_committed_51
    ·
      refine j_iload_n h 3 dX8_committed_37 rfl rfl ?_
      refine j_iconst h (v := 0) dX8_committed_38 (by decide) ?_
      refine j_iconst h (v := 2) dX8_committed_39 (by decide) ?_
      refine j_callSi0 h (kX8_within l D cI cZ x2 0 2) tb4_96 tb4_97 tb1_11 tb4_98 ⟨rfl, rfl⟩ (n := 3) (by decide +kernel) ⟨Nat.le_of_ble_eq_true rfl, Nat.le_of_ble_eq_true rfl⟩ (As := [.int x2, .int 0, .int 2]) rfl (st := []) rfl (Nat.le_of_ble_eq_true rfl) dX8_committed_40 ⟨Nat.zero_le _, Nat.zero_le _⟩ ?_
      generalize hq5 : (fX8_within x2 0 2) = q5
      refine j_if_ne h dX8_committed_43 (tgt := 52) (by decide) (fun c6 => ?_) (fun c6 => ?_)
      ·
        refine j_aload_n h 1 dX8_committed_52 rfl rfl ?_
        refine j_get h iX8 0 (mx_c0 _ _ _ (sg σ 22 0)) rfl 32 (by decide) tb3_236 rfl (v := .int (σ.1 10)) rfl dX8_committed_53 ?_
        refine j_iload_n h 0 dX8_committed_56 rfl rfl ?_
        refine j_isub h dX8_committed_57 ?_
        refine j_iload_n h 2 dX8_committed_58 rfl rfl ?_
        refine j_iadd h dX8_committed_59 ?_
        refine j_sipush h (v := 400) dX8_committed_60 (by decide) ?_
        refine j_irem h dX8_committed_63 (by decide) ?_
        refine j_istore h (lv' := [(4, .int ((((σ.1 10) - 400) + x1) - (((σ.1 10) - 400) + x1) / 400 * 400)), (3, .int 400), (0, .ref (a 0)), (1, .int x1), (2, .int x2)]) dX8_committed_64 (by decide) rfl ?_
        refine j_iload_n h 4 dX8_committed_66 rfl rfl ?_
        refine j_if_ne h dX8_committed_67 (tgt := 80) (by decide) (fun c7 => ?_) (fun c7 => ?_)
        ·
          refine j_iload_n h 4 dX8_committed_80 rfl rfl ?_
          refine j_iconst h (v := 1) dX8_committed_81 (by decide) ?_
          refine j_icmp_ne h dX8_committed_82 (tgt := 95) (by decide) (fun c8 => ?_) (fun c8 => ?_)
          ·
            refine j_aload_n h 2 dX8_committed_95 rfl rfl ?_
            refine j_get h iX8 0 (mx_c0 _ _ _ (sg σ 22 0)) rfl 40 (by decide) tb4_4 rfl (v := .ref (a 20)) rfl dX8_committed_96 ?_
            refine j_iload h 0 dX8_committed_99 rfl ?_
            refine j_iald h 20 0 (mx_g20 (σ := (sg σ 22 0)) (F := (σ.2 10)) rfl) rfl (m_rem400 (m_cm1 hc c1 (by rw [hq2]; exact c3))) dX8_committed_101 ?_
            subst hq2 hq5
            have E : fX8_committed σ x1 x2 = (((σ.2 10) ((((σ.1 10) - 400) + x1) - (((σ.1 10) - 400) + x1) / 400 * 400).toNatClampNeg), (sg σ 22 0)) := j_ip c1 (j_ig c3 (j_ig c6 (j_ig c7 (j_ig c8 rfl))))
            exact j_ireturn h hr (congrArg Prod.fst E).symm (congrArg (fun z => mx a cI cZ z.2) E).symm dX8_committed_102
          ·
            refine j_aload_n h 2 dX8_committed_85 rfl rfl ?_
            refine j_get h iX8 0 (mx_c0 _ _ _ (sg σ 22 0)) rfl 39 (by decide) tb4_3 rfl (v := .ref (a 19)) rfl dX8_committed_86 ?_
            refine j_iload h 0 dX8_committed_89 rfl ?_
            refine j_iald h 19 0 (mx_g19 (σ := (sg σ 22 0)) (F := (σ.2 9)) rfl) rfl (m_rem400 (m_cm1 hc c1 (by rw [hq2]; exact c3))) dX8_committed_91 ?_
            refine j_goto h dX8_committed_92 (tgt := 102) (by decide) ?_
            subst hq2 hq5
            have E : fX8_committed σ x1 x2 = (((σ.2 9) ((((σ.1 10) - 400) + x1) - (((σ.1 10) - 400) + x1) / 400 * 400).toNatClampNeg), (sg σ 22 0)) := j_ip c1 (j_ig c3 (j_ig c6 (j_ig c7 (j_ip c8 rfl))))
            exact j_ireturn h hr (congrArg Prod.fst E).symm (congrArg (fun z => mx a cI cZ z.2) E).symm dX8_committed_102
        ·
          refine j_aload_n h 2 dX8_committed_70 rfl rfl ?_
          refine j_get h iX8 0 (mx_c0 _ _ _ (sg σ 22 0)) rfl 38 (by decide) tb4_2 rfl (v := .ref (a 18)) rfl dX8_committed_71 ?_
          refine j_iload h 0 dX8_committed_74 rfl ?_
          refine j_iald h 18 0 (mx_g18 (σ := (sg σ 22 0)) (F := (σ.2 8)) rfl) rfl (m_rem400 (m_cm1 hc c1 (by rw [hq2]; exact c3))) dX8_committed_76 ?_
          refine j_goto h dX8_committed_77 (tgt := 102) (by decide) ?_
          subst hq2 hq5
          have E : fX8_committed σ x1 x2 = (((σ.2 8) ((((σ.1 10) - 400) + x1) - (((σ.1 10) - 400) + x1) / 400 * 400).toNatClampNeg), (sg σ 22 0)) := j_ip c1 (j_ig c3 (j_ig c6 (j_ip c7 rfl)))
          exact j_ireturn h hr (congrArg Prod.fst E).symm (congrArg (fun z => mx a cI cZ z.2) E).symm dX8_committed_102
      ·
        refine j_aload_n h 1 dX8_committed_46 rfl rfl ?_
        refine j_iconst h (v := 1) dX8_committed_47 (by decide) ?_
        refine j_callVi h (kX8_fail l D a cI cZ (sg σ 22 0) 1) tb4_102 tb4_104 tp_13 tb1_11 tb4_105 ⟨rfl, rfl⟩ (n := 1) (by decide +kernel) ⟨Nat.le_of_ble_eq_true rfl, Nat.le_of_ble_eq_true rfl⟩ (As := [.int 1]) rfl (ci := 8) (q0 := 0) rfl (mx_c0 _ _ _ (sg σ 22 0)) (st := []) rfl (Nat.le_of_ble_eq_true rfl) dX8_committed_48 ⟨Nat.zero_le _, Nat.zero_le _⟩ ?_
        generalize hq9 : (fX8_fail (sg σ 22 0) 1) = q9
        subst hq2 hq5 hq9
        have E : fX8_committed σ x1 x2 = ((fX8_fail (sg σ 22 0) 1).1, (fX8_fail (sg σ 22 0) 1).2) := j_ip c1 (j_ig c3 (j_ip c6 rfl))
        exact j_ireturn h hr (congrArg Prod.fst E).symm (congrArg (fun z => mx a cI cZ z.2) E).symm dX8_committed_51
  ·
    refine j_aload_n h 0 dX8_committed_15 rfl rfl ?_
    refine j_get h iX8 0 (mx_c0 _ _ _ (sg σ 22 0)) rfl 32 (by decide) tb3_236 rfl (v := .int (σ.1 10)) rfl dX8_committed_16 ?_
    refine j_goto h dX8_committed_19 (tgt := 25) (by decide) ?_
    refine j_istore_n h (lv' := [(3, .int (σ.1 10)), (0, .ref (a 0)), (1, .int x1), (2, .int x2)]) dX8_committed_25 rfl (by decide) rfl ?_
    refine j_iload_n h 2 dX8_committed_26 rfl rfl ?_
    refine j_iconst h (v := 0) dX8_committed_27 (by decide) ?_
    refine j_iload_n h 0 dX8_committed_28 rfl rfl ?_
    refine j_iconst h (v := 1) dX8_committed_29 (by decide) ?_
    refine j_isub h dX8_committed_30 ?_
    refine j_callSi0 h (kX8_within l D cI cZ x1 0 ((σ.1 10) - 1)) tb4_96 tb4_97 tb1_11 tb4_98 ⟨rfl, rfl⟩ (n := 3) (by decide +kernel) ⟨Nat.le_of_ble_eq_true rfl, Nat.le_of_ble_eq_true rfl⟩ (As := [.int x1, .int 0, .int ((σ.1 10) - 1)]) rfl (st := []) rfl (Nat.le_of_ble_eq_true rfl) dX8_committed_31 ⟨Nat.zero_le _, Nat.zero_le _⟩ ?_
    generalize hq10 : (fX8_within x1 0 ((σ.1 10) - 1)) = q10
    refine j_if_eq h dX8_committed_34 (tgt := 46) (by decide) (fun c11 => ?_) (fun c11 => ?_)
    ·
      refine j_aload_n h 1 dX8_committed_46 rfl rfl ?_
      refine j_iconst h (v := 1) dX8_committed_47 (by decide) ?_
      refine j_callVi h (kX8_fail l D a cI cZ (sg σ 22 0) 1) tb4_102 tb4_104 tp_13 tb1_11 tb4_105 ⟨rfl, rfl⟩ (n := 1) (by decide +kernel) ⟨Nat.le_of_ble_eq_true rfl, Nat.le_of_ble_eq_true rfl⟩ (As := [.int 1]) rfl (ci := 8) (q0 := 0) rfl (mx_c0 _ _ _ (sg σ 22 0)) (st := []) rfl (Nat.le_of_ble_eq_true rfl) dX8_committed_48 ⟨Nat.zero_le _, Nat.zero_le _⟩ ?_
      generalize hq12 : (fX8_fail (sg σ 22 0) 1) = q12
      subst hq10 hq12
      have E : fX8_committed σ x1 x2 = ((fX8_fail (sg σ 22 0) 1).1, (fX8_fail (sg σ 22 0) 1).2) := j_ig c1 (j_ip c11 rfl)
      exact j_ireturn h hr (congrArg Prod.fst E).symm (congrArg (fun z => mx a cI cZ z.2) E).symm dX8_committed_51
    ·
      refine j_iload_n h 3 dX8_committed_37 rfl rfl ?_
      refine j_iconst h (v := 0) dX8_committed_38 (by decide) ?_
      refine j_iconst h (v := 2) dX8_committed_39 (by decide) ?_
      refine j_callSi0 h (kX8_within l D cI cZ x2 0 2) tb4_96 tb4_97 tb1_11 tb4_98 ⟨rfl, rfl⟩ (n := 3) (by decide +kernel) ⟨Nat.le_of_ble_eq_true rfl, Nat.le_of_ble_eq_true rfl⟩ (As := [.int x2, .int 0, .int 2]) rfl (st := []) rfl (Nat.le_of_ble_eq_true rfl) dX8_committed_40 ⟨Nat.zero_le _, Nat.zero_le _⟩ ?_
      generalize hq13 : (fX8_within x2 0 2) = q13
      refine j_if_ne h dX8_committed_43 (tgt := 52) (by decide) (fun c14 => ?_) (fun c14 => ?_)
      ·
        refine j_aload_n h 1 dX8_committed_52 rfl rfl ?_
        refine j_get h iX8 0 (mx_c0 _ _ _ (sg σ 22 0)) rfl 32 (by decide) tb3_236 rfl (v := .int (σ.1 10)) rfl dX8_committed_53 ?_
        refine j_iload_n h 0 dX8_committed_56 rfl rfl ?_
        refine j_isub h dX8_committed_57 ?_
        refine j_iload_n h 2 dX8_committed_58 rfl rfl ?_
        refine j_iadd h dX8_committed_59 ?_
        refine j_sipush h (v := 400) dX8_committed_60 (by decide) ?_
        refine j_irem h dX8_committed_63 (by decide) ?_
        refine j_istore h (lv' := [(4, .int ((((σ.1 10) - (σ.1 10)) + x1) - (((σ.1 10) - (σ.1 10)) + x1) / 400 * 400)), (3, .int (σ.1 10)), (0, .ref (a 0)), (1, .int x1), (2, .int x2)]) dX8_committed_64 (by decide) rfl ?_
        refine j_iload_n h 4 dX8_committed_66 rfl rfl ?_
        refine j_if_ne h dX8_committed_67 (tgt := 80) (by decide) (fun c15 => ?_) (fun c15 => ?_)
        ·
          refine j_iload_n h 4 dX8_committed_80 rfl rfl ?_
          refine j_iconst h (v := 1) dX8_committed_81 (by decide) ?_
          refine j_icmp_ne h dX8_committed_82 (tgt := 95) (by decide) (fun c16 => ?_) (fun c16 => ?_)
          ·
            refine j_aload_n h 2 dX8_committed_95 rfl rfl ?_
            refine j_get h iX8 0 (mx_c0 _ _ _ (sg σ 22 0)) rfl 40 (by decide) tb4_4 rfl (v := .ref (a 20)) rfl dX8_committed_96 ?_
            refine j_iload h 0 dX8_committed_99 rfl ?_
            refine j_iald h 20 0 (mx_g20 (σ := (sg σ 22 0)) (F := (σ.2 10)) rfl) rfl (m_rem400 (m_cm2 hc (by rw [hq10]; exact c11))) dX8_committed_101 ?_
            subst hq10 hq13
            have E : fX8_committed σ x1 x2 = (((σ.2 10) ((((σ.1 10) - (σ.1 10)) + x1) - (((σ.1 10) - (σ.1 10)) + x1) / 400 * 400).toNatClampNeg), (sg σ 22 0)) := j_ig c1 (j_ig c11 (j_ig c14 (j_ig c15 (j_ig c16 rfl))))
            exact j_ireturn h hr (congrArg Prod.fst E).symm (congrArg (fun z => mx a cI cZ z.2) E).symm dX8_committed_102
          ·
            refine j_aload_n h 2 dX8_committed_85 rfl rfl ?_
            refine j_get h iX8 0 (mx_c0 _ _ _ (sg σ 22 0)) rfl 39 (by decide) tb4_3 rfl (v := .ref (a 19)) rfl dX8_committed_86 ?_
            refine j_iload h 0 dX8_committed_89 rfl ?_
            refine j_iald h 19 0 (mx_g19 (σ := (sg σ 22 0)) (F := (σ.2 9)) rfl) rfl (m_rem400 (m_cm2 hc (by rw [hq10]; exact c11))) dX8_committed_91 ?_
            refine j_goto h dX8_committed_92 (tgt := 102) (by decide) ?_
            subst hq10 hq13
            have E : fX8_committed σ x1 x2 = (((σ.2 9) ((((σ.1 10) - (σ.1 10)) + x1) - (((σ.1 10) - (σ.1 10)) + x1) / 400 * 400).toNatClampNeg), (sg σ 22 0)) := j_ig c1 (j_ig c11 (j_ig c14 (j_ig c15 (j_ip c16 rfl))))
            exact j_ireturn h hr (congrArg Prod.fst E).symm (congrArg (fun z => mx a cI cZ z.2) E).symm dX8_committed_102
        ·
          refine j_aload_n h 2 dX8_committed_70 rfl rfl ?_
          refine j_get h iX8 0 (mx_c0 _ _ _ (sg σ 22 0)) rfl 38 (by decide) tb4_2 rfl (v := .ref (a 18)) rfl dX8_committed_71 ?_
          refine j_iload h 0 dX8_committed_74 rfl ?_
          refine j_iald h 18 0 (mx_g18 (σ := (sg σ 22 0)) (F := (σ.2 8)) rfl) rfl (m_rem400 (m_cm2 hc (by rw [hq10]; exact c11))) dX8_committed_76 ?_
          refine j_goto h dX8_committed_77 (tgt := 102) (by decide) ?_
          subst hq10 hq13
          have E : fX8_committed σ x1 x2 = (((σ.2 8) ((((σ.1 10) - (σ.1 10)) + x1) - (((σ.1 10) - (σ.1 10)) + x1) / 400 * 400).toNatClampNeg), (sg σ 22 0)) := j_ig c1 (j_ig c11 (j_ig c14 (j_ip c15 rfl)))
          exact j_ireturn h hr (congrArg Prod.fst E).symm (congrArg (fun z => mx a cI cZ z.2) E).symm dX8_committed_102
      ·
        refine j_aload_n h 1 dX8_committed_46 rfl rfl ?_
        refine j_iconst h (v := 1) dX8_committed_47 (by decide) ?_
        refine j_callVi h (kX8_fail l D a cI cZ (sg σ 22 0) 1) tb4_102 tb4_104 tp_13 tb1_11 tb4_105 ⟨rfl, rfl⟩ (n := 1) (by decide +kernel) ⟨Nat.le_of_ble_eq_true rfl, Nat.le_of_ble_eq_true rfl⟩ (As := [.int 1]) rfl (ci := 8) (q0 := 0) rfl (mx_c0 _ _ _ (sg σ 22 0)) (st := []) rfl (Nat.le_of_ble_eq_true rfl) dX8_committed_48 ⟨Nat.zero_le _, Nat.zero_le _⟩ ?_
        generalize hq17 : (fX8_fail (sg σ 22 0) 1) = q17
        subst hq10 hq13 hq17
        have E : fX8_committed σ x1 x2 = ((fX8_fail (sg σ 22 0) 1).1, (fX8_fail (sg σ 22 0) 1).2) := j_ig c1 (j_ig c11 (j_ip c14 rfl))
        exact j_ireturn h hr (congrArg Prod.fst E).symm (congrArg (fun z => mx a cI cZ z.2) E).symm dX8_committed_51
def rmX8_register : Room := { frames := 2, cells := 0, slots := 0, locals := 42 }
set_option maxRecDepth 100000 in
set_option maxHeartbeats 4000000 in
theorem kX8_register (l : Launch) (D : va_G) (a : Nat → Nat) (cI cZ : ClassId) (σ : St) (x1 : Int32) : Ci l yX8_register cX8_register 2 (some .int) TB rmX8_register D vwCl [(cI, .int), (cZ, .boolean)] [.ref (a 0), .int x1] (mx a cI cZ σ) (mx a cI cZ (fX8_register σ x1).2) (fX8_register σ x1).1 := by
  refine Ci_of (cc := cX8_register) (maxL := 2) (ret := (some .int)) (by decide +kernel) TBg (Nat.le_of_ble_eq_true rfl) ?_
  intro p e s m args below meth c A h hr
  refine j_aload_n h 0 dX8_register_0 rfl rfl ?_
  refine j_iconst h (v := 0) dX8_register_1 (by decide) ?_
  refine j_put h iX8 tyX8 tyX8_ok nmX8 0 (mx_c0 _ _ _ σ) rfl 0 (by decide) tb3_204 rfl rfl rfl rfl (Nat.le_of_ble_eq_true rfl) (w' := (mx a cI cZ (sg σ 22 0))) (mx_p0_0 _ _ _ σ _) dX8_register_2 ?_
  refine j_iload_n h 1 dX8_register_5 rfl rfl ?_
  refine j_callSi0 h (kX8_isRegister l D cI cZ x1) tb4_99 tb4_100 tb1_11 tb4_101 ⟨rfl, rfl⟩ (n := 1) (by decide +kernel) ⟨Nat.le_of_ble_eq_true rfl, Nat.le_of_ble_eq_true rfl⟩ (As := [.int x1]) rfl (st := []) rfl (Nat.le_of_ble_eq_true rfl) dX8_register_6 ⟨Nat.zero_le _, Nat.zero_le _⟩ ?_
  generalize hq1 : (fX8_isRegister x1) = q1
  refine j_if_eq h dX8_register_9 (tgt := 21) (by decide) (fun c2 => ?_) (fun c2 => ?_)
  ·
    refine j_aload_n h 0 dX8_register_21 rfl rfl ?_
    refine j_iconst h (v := 1) dX8_register_22 (by decide) ?_
    refine j_callVi h (kX8_fail l D a cI cZ (sg σ 22 0) 1) tb4_102 tb4_104 tp_13 tb1_11 tb4_105 ⟨rfl, rfl⟩ (n := 1) (by decide +kernel) ⟨Nat.le_of_ble_eq_true rfl, Nat.le_of_ble_eq_true rfl⟩ (As := [.int 1]) rfl (ci := 8) (q0 := 0) rfl (mx_c0 _ _ _ (sg σ 22 0)) (st := []) rfl (Nat.le_of_ble_eq_true rfl) dX8_register_23 ⟨Nat.zero_le _, Nat.zero_le _⟩ ?_
    generalize hq3 : (fX8_fail (sg σ 22 0) 1) = q3
    subst hq1 hq3
    have E : fX8_register σ x1 = ((fX8_fail (sg σ 22 0) 1).1, (fX8_fail (sg σ 22 0) 1).2) := j_ip c2 rfl
    exact j_ireturn h hr (congrArg Prod.fst E).symm (congrArg (fun z => mx a cI cZ z.2) E).symm dX8_register_26
  ·
    refine j_aload_n h 0 dX8_register_12 rfl rfl ?_
    refine j_get h iX8 0 (mx_c0 _ _ _ (sg σ 22 0)) rfl 24 (by decide) tb3_228 rfl (v := .ref (a 15)) rfl dX8_register_13 ?_
    refine j_iload_n h 1 dX8_register_16 rfl rfl ?_
    refine j_iald h 15 0 (mx_g15 (σ := (sg σ 22 0)) (F := (σ.2 14)) rfl) rfl (m_wi 8 (y := 7) (m_isr (by rw [hq1]; exact c2)) (by decide)) dX8_register_17 ?_
    refine j_goto h dX8_register_18 (tgt := 26) (by decide) ?_
    subst hq1
    have E : fX8_register σ x1 = (((σ.2 14) x1.toNatClampNeg), (sg σ 22 0)) := j_ig c2 rfl
    exact j_ireturn h hr (congrArg Prod.fst E).symm (congrArg (fun z => mx a cI cZ z.2) E).symm dX8_register_26
def rmX8_memory : Room := { frames := 1, cells := 0, slots := 0, locals := 22 }
set_option maxRecDepth 100000 in
set_option maxHeartbeats 4000000 in
theorem kX8_memory (l : Launch) (D : va_G) (a : Nat → Nat) (cI cZ : ClassId) (σ : St) (x1 : Int32) : Ci l yX8_memory cX8_memory 2 (some .int) TB rmX8_memory D vwCl [(cI, .int), (cZ, .boolean)] [.ref (a 0), .int x1] (mx a cI cZ σ) (mx a cI cZ (fX8_memory σ x1).2) (fX8_memory σ x1).1 := by
  refine Ci_of (cc := cX8_memory) (maxL := 2) (ret := (some .int)) (by decide +kernel) TBg (Nat.le_of_ble_eq_true rfl) ?_
  intro p e s m args below meth c A h hr
  refine j_aload_n h 0 dX8_memory_0 rfl rfl ?_
  refine j_iconst h (v := 0) dX8_memory_1 (by decide) ?_
  refine j_put h iX8 tyX8 tyX8_ok nmX8 0 (mx_c0 _ _ _ σ) rfl 0 (by decide) tb3_204 rfl rfl rfl rfl (Nat.le_of_ble_eq_true rfl) (w' := (mx a cI cZ (sg σ 22 0))) (mx_p0_0 _ _ _ σ _) dX8_memory_2 ?_
  refine j_iload_n h 1 dX8_memory_5 rfl rfl ?_
  refine j_iconst h (v := 0) dX8_memory_6 (by decide) ?_
  refine j_bipush h (v := 63) dX8_memory_7 (by decide) ?_
  refine j_callSi0 h (kX8_within l D cI cZ x1 0 63) tb4_96 tb4_97 tb1_11 tb4_98 ⟨rfl, rfl⟩ (n := 3) (by decide +kernel) ⟨Nat.le_of_ble_eq_true rfl, Nat.le_of_ble_eq_true rfl⟩ (As := [.int x1, .int 0, .int 63]) rfl (st := []) rfl (Nat.le_of_ble_eq_true rfl) dX8_memory_9 ⟨Nat.zero_le _, Nat.zero_le _⟩ ?_
  generalize hq1 : (fX8_within x1 0 63) = q1
  refine j_if_eq h dX8_memory_12 (tgt := 24) (by decide) (fun c2 => ?_) (fun c2 => ?_)
  ·
    refine j_aload_n h 0 dX8_memory_24 rfl rfl ?_
    refine j_iconst h (v := 1) dX8_memory_25 (by decide) ?_
    refine j_callVi h (kX8_fail l D a cI cZ (sg σ 22 0) 1) tb4_102 tb4_104 tp_13 tb1_11 tb4_105 ⟨rfl, rfl⟩ (n := 1) (by decide +kernel) ⟨Nat.le_of_ble_eq_true rfl, Nat.le_of_ble_eq_true rfl⟩ (As := [.int 1]) rfl (ci := 8) (q0 := 0) rfl (mx_c0 _ _ _ (sg σ 22 0)) (st := []) rfl (Nat.le_of_ble_eq_true rfl) dX8_memory_26 ⟨Nat.zero_le _, Nat.zero_le _⟩ ?_
    generalize hq3 : (fX8_fail (sg σ 22 0) 1) = q3
    subst hq1 hq3
    have E : fX8_memory σ x1 = ((fX8_fail (sg σ 22 0) 1).1, (fX8_fail (sg σ 22 0) 1).2) := j_ip c2 rfl
    exact j_ireturn h hr (congrArg Prod.fst E).symm (congrArg (fun z => mx a cI cZ z.2) E).symm dX8_memory_29
  ·
    refine j_aload_n h 0 dX8_memory_15 rfl rfl ?_
    refine j_get h iX8 0 (mx_c0 _ _ _ (sg σ 22 0)) rfl 25 (by decide) tb3_229 rfl (v := .ref (a 16)) rfl dX8_memory_16 ?_
    refine j_iload_n h 1 dX8_memory_19 rfl rfl ?_
    refine j_iald h 16 0 (mx_g16 (σ := (sg σ 22 0)) (F := (σ.2 15)) rfl) rfl (m_wi 64 (y := 63) (by first | exact (by rw [hq1]; exact c2) | exact c2) (by decide)) dX8_memory_20 ?_
    refine j_goto h dX8_memory_21 (tgt := 29) (by decide) ?_
    subst hq1
    have E : fX8_memory σ x1 = (((σ.2 15) x1.toNatClampNeg), (sg σ 22 0)) := j_ig c2 rfl
    exact j_ireturn h hr (congrArg Prod.fst E).symm (congrArg (fun z => mx a cI cZ z.2) E).symm dX8_memory_29
