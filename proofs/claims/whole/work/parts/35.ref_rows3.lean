def rmX8_plainRun : Room := { frames := 1, cells := 0, slots := 0, locals := 21 }
set_option maxRecDepth 100000 in
set_option maxHeartbeats 4000000 in
theorem kX8_plainRun (l : Launch) (D : va_G) (a : Nat → Nat) (cI cZ : ClassId) (σ : St) (x1 : Int32) (h1 : vp_in x1 64) (hR : mR σ) (h6 : ¬ (σ.1 6) = 0) : Cv l yX8_plainRun cX8_plainRun 4 none TB rmX8_plainRun D vwCl [(cI, .int), (cZ, .boolean)] [.ref (a 0), .int x1] (mx a cI cZ σ) (fun _ => (mx a cI cZ (fX8_plainRun σ x1))) 0 0 := by
  refine Cv_of (cc := cX8_plainRun) (maxL := 4) (ret := none) (by decide +kernel) TBg (Nat.le_of_ble_eq_true rfl) ?_
  intro p e s m args below meth c A h hr hname
  refine j_aload_n h 0 dX8_plainRun_0 rfl rfl ?_
  refine j_get h iX8 0 (mx_c0 _ _ _ σ) rfl 22 (by decide) tb3_226 rfl (v := .ref (a 13)) rfl dX8_plainRun_1 ?_
  refine j_aload_n h 0 dX8_plainRun_4 rfl rfl ?_
  refine j_get h iX8 0 (mx_c0 _ _ _ σ) rfl 12 (by decide) tb3_216 rfl (v := .ref (a 3)) rfl dX8_plainRun_5 ?_
  refine j_iload_n h 1 dX8_plainRun_8 rfl rfl ?_
  refine j_iald h 3 0 (mx_g3 (σ := σ) (F := (σ.2 2)) rfl) rfl h1 dX8_plainRun_9 ?_
  refine j_iald h 13 0 (mx_g13 (σ := σ) (F := (σ.2 12)) rfl) rfl (hR _ (m_cl h1 (by decide))).2.1 dX8_plainRun_10 ?_
  refine j_istore_n h (lv' := [(2, .int ((σ.2 12) ((σ.2 2) x1.toNatClampNeg).toNatClampNeg)), (0, .ref (a 0)), (1, .int x1)]) dX8_plainRun_11 rfl (by decide) rfl ?_
  refine j_aload_n h 1 dX8_plainRun_12 rfl rfl ?_
  refine j_get h iX8 0 (mx_c0 _ _ _ σ) rfl 22 (by decide) tb3_226 rfl (v := .ref (a 13)) rfl dX8_plainRun_13 ?_
  refine j_aload_n h 1 dX8_plainRun_16 rfl rfl ?_
  refine j_get h iX8 0 (mx_c0 _ _ _ σ) rfl 13 (by decide) tb3_217 rfl (v := .ref (a 4)) rfl dX8_plainRun_17 ?_
  refine j_iload_n h 2 dX8_plainRun_20 rfl rfl ?_
  refine j_iald h 4 0 (mx_g4 (σ := σ) (F := (σ.2 3)) rfl) rfl h1 dX8_plainRun_21 ?_
  refine j_iald h 13 0 (mx_g13 (σ := σ) (F := (σ.2 12)) rfl) rfl (hR _ (m_cl h1 (by decide))).2.2 dX8_plainRun_22 ?_
  refine j_istore_n h (lv' := [(3, .int ((σ.2 12) ((σ.2 3) x1.toNatClampNeg).toNatClampNeg)), (2, .int ((σ.2 12) ((σ.2 2) x1.toNatClampNeg).toNatClampNeg)), (0, .ref (a 0)), (1, .int x1)]) dX8_plainRun_23 rfl (by decide) rfl ?_
  refine j_aload_n h 2 dX8_plainRun_24 rfl rfl ?_
  refine j_get h iX8 0 (mx_c0 _ _ _ σ) rfl 19 (by decide) tb3_223 rfl (v := .ref (a 10)) rfl dX8_plainRun_25 ?_
  refine j_iconst h (v := 0) dX8_plainRun_28 (by decide) ?_
  refine j_iconst h (v := 0) dX8_plainRun_29 (by decide) ?_
  refine j_iast h 10 0 (mx_g10 (σ := σ) (F := (σ.2 17)) rfl) rfl (vp_in_nI (n := 0) (N := 8) (by decide) (by decide)) (w' := (mx a cI cZ (ar σ 17 (upd (σ.2 17) (0 : Int32).toNatClampNeg 0)))) (mx_s10 _ _ _ σ _) dX8_plainRun_30 ?_
  refine j_aload_n h 2 dX8_plainRun_31 rfl rfl ?_
  refine j_get h iX8 0 (mx_c0 _ _ _ (ar σ 17 (upd (σ.2 17) (0 : Int32).toNatClampNeg 0))) rfl 20 (by decide) tb3_224 rfl (v := .ref (a 11)) rfl dX8_plainRun_32 ?_
  refine j_iconst h (v := 0) dX8_plainRun_35 (by decide) ?_
  refine j_iload_n h 1 dX8_plainRun_36 rfl rfl ?_
  refine j_bipush h (v := 64) dX8_plainRun_37 (by decide) ?_
  refine j_callSi0 h (kX8_modulo l D cI cZ ((σ.2 12) ((σ.2 2) x1.toNatClampNeg).toNatClampNeg) 64 (by decide)) tb3_197 tb3_198 tb1_11 tb3_199 ⟨rfl, rfl⟩ (n := 2) (by decide +kernel) ⟨Nat.le_of_ble_eq_true rfl, Nat.le_of_ble_eq_true rfl⟩ (As := [.int ((σ.2 12) ((σ.2 2) x1.toNatClampNeg).toNatClampNeg), .int 64]) rfl (st := [.int 0, .ref (a 11)]) rfl (Nat.le_of_ble_eq_true rfl) dX8_plainRun_39 ⟨Nat.zero_le _, Nat.zero_le _⟩ ?_
  refine j_iast h 11 0 (mx_g11 (σ := (ar σ 17 (upd (σ.2 17) (0 : Int32).toNatClampNeg 0))) (F := (σ.2 18)) rfl) rfl (vp_in_nI (n := 0) (N := 8) (by decide) (by decide)) (w' := (mx a cI cZ (ar (ar σ 17 (upd (σ.2 17) (0 : Int32).toNatClampNeg 0)) 18 (upd (σ.2 18) (0 : Int32).toNatClampNeg (fX8_modulo ((σ.2 12) ((σ.2 2) x1.toNatClampNeg).toNatClampNeg) 64))))) (mx_s11 _ _ _ (ar σ 17 (upd (σ.2 17) (0 : Int32).toNatClampNeg 0)) _) dX8_plainRun_42 ?_
  refine j_aload_n h 2 dX8_plainRun_43 rfl rfl ?_
  refine j_get h iX8 0 (mx_c0 _ _ _ (ar (ar σ 17 (upd (σ.2 17) (0 : Int32).toNatClampNeg 0)) 18 (upd (σ.2 18) (0 : Int32).toNatClampNeg (fX8_modulo ((σ.2 12) ((σ.2 2) x1.toNatClampNeg).toNatClampNeg) 64)))) rfl 21 (by decide) tb3_225 rfl (v := .ref (a 12)) rfl dX8_plainRun_44 ?_
  refine j_iconst h (v := 0) dX8_plainRun_47 (by decide) ?_
  refine j_iconst h (v := (-1)) dX8_plainRun_48 (by decide) ?_
  refine j_iast h 12 0 (mx_g12 (σ := (ar (ar σ 17 (upd (σ.2 17) (0 : Int32).toNatClampNeg 0)) 18 (upd (σ.2 18) (0 : Int32).toNatClampNeg (fX8_modulo ((σ.2 12) ((σ.2 2) x1.toNatClampNeg).toNatClampNeg) 64)))) (F := (σ.2 19)) rfl) rfl (vp_in_nI (n := 0) (N := 8) (by decide) (by decide)) (w' := (mx a cI cZ (ar (ar (ar σ 17 (upd (σ.2 17) (0 : Int32).toNatClampNeg 0)) 18 (upd (σ.2 18) (0 : Int32).toNatClampNeg (fX8_modulo ((σ.2 12) ((σ.2 2) x1.toNatClampNeg).toNatClampNeg) 64))) 19 (upd (σ.2 19) (0 : Int32).toNatClampNeg (-1))))) (mx_s12 _ _ _ (ar (ar σ 17 (upd (σ.2 17) (0 : Int32).toNatClampNeg 0)) 18 (upd (σ.2 18) (0 : Int32).toNatClampNeg (fX8_modulo ((σ.2 12) ((σ.2 2) x1.toNatClampNeg).toNatClampNeg) 64))) _) dX8_plainRun_49 ?_
  refine j_aload_n h 2 dX8_plainRun_50 rfl rfl ?_
  refine j_get h iX8 0 (mx_c0 _ _ _ (ar (ar (ar σ 17 (upd (σ.2 17) (0 : Int32).toNatClampNeg 0)) 18 (upd (σ.2 18) (0 : Int32).toNatClampNeg (fX8_modulo ((σ.2 12) ((σ.2 2) x1.toNatClampNeg).toNatClampNeg) 64))) 19 (upd (σ.2 19) (0 : Int32).toNatClampNeg (-1)))) rfl 10 (by decide) tb3_214 rfl (v := .ref (a 1)) rfl dX8_plainRun_51 ?_
  refine j_iload_n h 3 dX8_plainRun_54 rfl rfl ?_
  refine j_iald h 1 0 (mx_g1 (σ := (ar (ar (ar σ 17 (upd (σ.2 17) (0 : Int32).toNatClampNeg 0)) 18 (upd (σ.2 18) (0 : Int32).toNatClampNeg (fX8_modulo ((σ.2 12) ((σ.2 2) x1.toNatClampNeg).toNatClampNeg) 64))) 19 (upd (σ.2 19) (0 : Int32).toNatClampNeg (-1)))) (F := (σ.2 0)) rfl) rfl h1 dX8_plainRun_55 ?_
  refine j_if_ne h dX8_plainRun_56 (tgt := 75) (by decide) (fun c1 => ?_) (fun c1 => ?_)
  ·
    refine j_aload_n h 2 dX8_plainRun_75 rfl rfl ?_
    refine j_get h iX8 0 (mx_c0 _ _ _ (ar (ar (ar σ 17 (upd (σ.2 17) (0 : Int32).toNatClampNeg 0)) 18 (upd (σ.2 18) (0 : Int32).toNatClampNeg (fX8_modulo ((σ.2 12) ((σ.2 2) x1.toNatClampNeg).toNatClampNeg) 64))) 19 (upd (σ.2 19) (0 : Int32).toNatClampNeg (-1)))) rfl 10 (by decide) tb3_214 rfl (v := .ref (a 1)) rfl dX8_plainRun_76 ?_
    refine j_iload_n h 3 dX8_plainRun_79 rfl rfl ?_
    refine j_iald h 1 0 (mx_g1 (σ := (ar (ar (ar σ 17 (upd (σ.2 17) (0 : Int32).toNatClampNeg 0)) 18 (upd (σ.2 18) (0 : Int32).toNatClampNeg (fX8_modulo ((σ.2 12) ((σ.2 2) x1.toNatClampNeg).toNatClampNeg) 64))) 19 (upd (σ.2 19) (0 : Int32).toNatClampNeg (-1)))) (F := (σ.2 0)) rfl) rfl h1 dX8_plainRun_80 ?_
    refine j_iconst h (v := 1) dX8_plainRun_81 (by decide) ?_
    refine j_icmp_ne h dX8_plainRun_82 (tgt := 102) (by decide) (fun c2 => ?_) (fun c2 => ?_)
    ·
      refine j_aload_n h 2 dX8_plainRun_102 rfl rfl ?_
      refine j_get h iX8 0 (mx_c0 _ _ _ (ar (ar (ar σ 17 (upd (σ.2 17) (0 : Int32).toNatClampNeg 0)) 18 (upd (σ.2 18) (0 : Int32).toNatClampNeg (fX8_modulo ((σ.2 12) ((σ.2 2) x1.toNatClampNeg).toNatClampNeg) 64))) 19 (upd (σ.2 19) (0 : Int32).toNatClampNeg (-1)))) rfl 10 (by decide) tb3_214 rfl (v := .ref (a 1)) rfl dX8_plainRun_103 ?_
      refine j_iload_n h 3 dX8_plainRun_106 rfl rfl ?_
      refine j_iald h 1 0 (mx_g1 (σ := (ar (ar (ar σ 17 (upd (σ.2 17) (0 : Int32).toNatClampNeg 0)) 18 (upd (σ.2 18) (0 : Int32).toNatClampNeg (fX8_modulo ((σ.2 12) ((σ.2 2) x1.toNatClampNeg).toNatClampNeg) 64))) 19 (upd (σ.2 19) (0 : Int32).toNatClampNeg (-1)))) (F := (σ.2 0)) rfl) rfl h1 dX8_plainRun_107 ?_
      refine j_iconst h (v := 3) dX8_plainRun_108 (by decide) ?_
      refine j_icmp_ne h dX8_plainRun_109 (tgt := 121) (by decide) (fun c3 => ?_) (fun c3 => ?_)
      ·
        refine j_aload_n h 2 dX8_plainRun_121 rfl rfl ?_
        refine j_get h iX8 0 (mx_c0 _ _ _ (ar (ar (ar σ 17 (upd (σ.2 17) (0 : Int32).toNatClampNeg 0)) 18 (upd (σ.2 18) (0 : Int32).toNatClampNeg (fX8_modulo ((σ.2 12) ((σ.2 2) x1.toNatClampNeg).toNatClampNeg) 64))) 19 (upd (σ.2 19) (0 : Int32).toNatClampNeg (-1)))) rfl 10 (by decide) tb3_214 rfl (v := .ref (a 1)) rfl dX8_plainRun_122 ?_
        refine j_iload_n h 3 dX8_plainRun_125 rfl rfl ?_
        refine j_iald h 1 0 (mx_g1 (σ := (ar (ar (ar σ 17 (upd (σ.2 17) (0 : Int32).toNatClampNeg 0)) 18 (upd (σ.2 18) (0 : Int32).toNatClampNeg (fX8_modulo ((σ.2 12) ((σ.2 2) x1.toNatClampNeg).toNatClampNeg) 64))) 19 (upd (σ.2 19) (0 : Int32).toNatClampNeg (-1)))) (F := (σ.2 0)) rfl) rfl h1 dX8_plainRun_126 ?_
        refine j_bipush h (v := 7) dX8_plainRun_127 (by decide) ?_
        refine j_icmp_ne h dX8_plainRun_129 (tgt := 144) (by decide) (fun c4 => ?_) (fun c4 => ?_)
        ·
          refine j_aload_n h 2 dX8_plainRun_144 rfl rfl ?_
          refine j_get h iX8 0 (mx_c0 _ _ _ (ar (ar (ar σ 17 (upd (σ.2 17) (0 : Int32).toNatClampNeg 0)) 18 (upd (σ.2 18) (0 : Int32).toNatClampNeg (fX8_modulo ((σ.2 12) ((σ.2 2) x1.toNatClampNeg).toNatClampNeg) 64))) 19 (upd (σ.2 19) (0 : Int32).toNatClampNeg (-1)))) rfl 10 (by decide) tb3_214 rfl (v := .ref (a 1)) rfl dX8_plainRun_145 ?_
          refine j_iload_n h 3 dX8_plainRun_148 rfl rfl ?_
          refine j_iald h 1 0 (mx_g1 (σ := (ar (ar (ar σ 17 (upd (σ.2 17) (0 : Int32).toNatClampNeg 0)) 18 (upd (σ.2 18) (0 : Int32).toNatClampNeg (fX8_modulo ((σ.2 12) ((σ.2 2) x1.toNatClampNeg).toNatClampNeg) 64))) 19 (upd (σ.2 19) (0 : Int32).toNatClampNeg (-1)))) (F := (σ.2 0)) rfl) rfl h1 dX8_plainRun_149 ?_
          refine j_iconst h (v := 2) dX8_plainRun_150 (by decide) ?_
          refine j_icmp_ne h dX8_plainRun_151 (tgt := 173) (by decide) (fun c5 => ?_) (fun c5 => ?_)
          ·
            refine j_aload_n h 2 dX8_plainRun_173 rfl rfl ?_
            refine j_iload_n h 3 dX8_plainRun_174 rfl rfl ?_
            refine j_callVi h (kX8_writes l D a cI cZ (ar (ar (ar σ 17 (upd (σ.2 17) (0 : Int32).toNatClampNeg 0)) 18 (upd (σ.2 18) (0 : Int32).toNatClampNeg (fX8_modulo ((σ.2 12) ((σ.2 2) x1.toNatClampNeg).toNatClampNeg) 64))) 19 (upd (σ.2 19) (0 : Int32).toNatClampNeg (-1))) x1 h1) tb4_134 tb4_136 tp_18 tb1_11 tb4_137 ⟨rfl, rfl⟩ (n := 1) (by decide +kernel) ⟨Nat.le_of_ble_eq_true rfl, Nat.le_of_ble_eq_true rfl⟩ (As := [.int x1]) rfl (ci := 8) (q0 := 0) rfl (mx_c0 _ _ _ (ar (ar (ar σ 17 (upd (σ.2 17) (0 : Int32).toNatClampNeg 0)) 18 (upd (σ.2 18) (0 : Int32).toNatClampNeg (fX8_modulo ((σ.2 12) ((σ.2 2) x1.toNatClampNeg).toNatClampNeg) 64))) 19 (upd (σ.2 19) (0 : Int32).toNatClampNeg (-1)))) (st := []) rfl (Nat.le_of_ble_eq_true rfl) dX8_plainRun_175 ⟨Nat.zero_le _, Nat.zero_le _⟩ ?_
            generalize hq6 : (fX8_writes (ar (ar (ar σ 17 (upd (σ.2 17) (0 : Int32).toNatClampNeg 0)) 18 (upd (σ.2 18) (0 : Int32).toNatClampNeg (fX8_modulo ((σ.2 12) ((σ.2 2) x1.toNatClampNeg).toNatClampNeg) 64))) 19 (upd (σ.2 19) (0 : Int32).toNatClampNeg (-1))) x1) = q6
            refine j_if_eq h dX8_plainRun_178 (tgt := 198) (by decide) (fun c7 => ?_) (fun c7 => ?_)
            ·
              refine j_aload_n h 2 dX8_plainRun_198 rfl rfl ?_
              refine j_get h iX8 0 (mx_c0 _ _ _ (ar (ar (ar σ 17 (upd (σ.2 17) (0 : Int32).toNatClampNeg 0)) 18 (upd (σ.2 18) (0 : Int32).toNatClampNeg (fX8_modulo ((σ.2 12) ((σ.2 2) x1.toNatClampNeg).toNatClampNeg) 64))) 19 (upd (σ.2 19) (0 : Int32).toNatClampNeg (-1)))) rfl 10 (by decide) tb3_214 rfl (v := .ref (a 1)) rfl dX8_plainRun_199 ?_
              refine j_iload_n h 3 dX8_plainRun_202 rfl rfl ?_
              refine j_iald h 1 0 (mx_g1 (σ := (ar (ar (ar σ 17 (upd (σ.2 17) (0 : Int32).toNatClampNeg 0)) 18 (upd (σ.2 18) (0 : Int32).toNatClampNeg (fX8_modulo ((σ.2 12) ((σ.2 2) x1.toNatClampNeg).toNatClampNeg) 64))) 19 (upd (σ.2 19) (0 : Int32).toNatClampNeg (-1)))) (F := (σ.2 0)) rfl) rfl h1 dX8_plainRun_203 ?_
              refine j_iconst h (v := 4) dX8_plainRun_204 (by decide) ?_
              refine j_icmp_ne h dX8_plainRun_205 (tgt := 231) (by decide) (fun c8 => ?_) (fun c8 => ?_)
              ·
                refine j_aload_n h 2 dX8_plainRun_231 rfl rfl ?_
                refine j_get h iX8 0 (mx_c0 _ _ _ (ar (ar (ar σ 17 (upd (σ.2 17) (0 : Int32).toNatClampNeg 0)) 18 (upd (σ.2 18) (0 : Int32).toNatClampNeg (fX8_modulo ((σ.2 12) ((σ.2 2) x1.toNatClampNeg).toNatClampNeg) 64))) 19 (upd (σ.2 19) (0 : Int32).toNatClampNeg (-1)))) rfl 10 (by decide) tb3_214 rfl (v := .ref (a 1)) rfl dX8_plainRun_232 ?_
                refine j_iload_n h 3 dX8_plainRun_235 rfl rfl ?_
                refine j_iald h 1 0 (mx_g1 (σ := (ar (ar (ar σ 17 (upd (σ.2 17) (0 : Int32).toNatClampNeg 0)) 18 (upd (σ.2 18) (0 : Int32).toNatClampNeg (fX8_modulo ((σ.2 12) ((σ.2 2) x1.toNatClampNeg).toNatClampNeg) 64))) 19 (upd (σ.2 19) (0 : Int32).toNatClampNeg (-1)))) (F := (σ.2 0)) rfl) rfl h1 dX8_plainRun_236 ?_
                refine j_bipush h (v := 6) dX8_plainRun_237 (by decide) ?_
                refine j_icmp_ne h dX8_plainRun_239 (tgt := 247) (by decide) (fun c9 => ?_) (fun c9 => ?_)
                ·
                  refine j_aload_n h 2 dX8_plainRun_247 rfl rfl ?_
                  refine j_get h iX8 0 (mx_c0 _ _ _ (ar (ar (ar σ 17 (upd (σ.2 17) (0 : Int32).toNatClampNeg 0)) 18 (upd (σ.2 18) (0 : Int32).toNatClampNeg (fX8_modulo ((σ.2 12) ((σ.2 2) x1.toNatClampNeg).toNatClampNeg) 64))) 19 (upd (σ.2 19) (0 : Int32).toNatClampNeg (-1)))) rfl 10 (by decide) tb3_214 rfl (v := .ref (a 1)) rfl dX8_plainRun_248 ?_
                  refine j_iload_n h 3 dX8_plainRun_251 rfl rfl ?_
                  refine j_iald h 1 0 (mx_g1 (σ := (ar (ar (ar σ 17 (upd (σ.2 17) (0 : Int32).toNatClampNeg 0)) 18 (upd (σ.2 18) (0 : Int32).toNatClampNeg (fX8_modulo ((σ.2 12) ((σ.2 2) x1.toNatClampNeg).toNatClampNeg) 64))) 19 (upd (σ.2 19) (0 : Int32).toNatClampNeg (-1)))) (F := (σ.2 0)) rfl) rfl h1 dX8_plainRun_252 ?_
                  refine j_iconst h (v := 5) dX8_plainRun_253 (by decide) ?_
                  refine j_icmp_eq h dX8_plainRun_254 (tgt := 266) (by decide) (fun c10 => ?_) (fun c10 => ?_)
                  ·
                    refine j_aload_n h 2 dX8_plainRun_266 rfl rfl ?_
                    refine j_iconst h (v := 1) dX8_plainRun_267 (by decide) ?_
                    refine j_put h iX8 tyX8 tyX8_ok nmX8 0 (mx_c0 _ _ _ (ar (ar (ar σ 17 (upd (σ.2 17) (0 : Int32).toNatClampNeg 0)) 18 (upd (σ.2 18) (0 : Int32).toNatClampNeg (fX8_modulo ((σ.2 12) ((σ.2 2) x1.toNatClampNeg).toNatClampNeg) 64))) 19 (upd (σ.2 19) (0 : Int32).toNatClampNeg (-1)))) rfl 27 (by decide) tb3_231 rfl rfl rfl rfl (Nat.le_of_ble_eq_true rfl) (w' := (mx a cI cZ (sg (ar (ar (ar σ 17 (upd (σ.2 17) (0 : Int32).toNatClampNeg 0)) 18 (upd (σ.2 18) (0 : Int32).toNatClampNeg (fX8_modulo ((σ.2 12) ((σ.2 2) x1.toNatClampNeg).toNatClampNeg) 64))) 19 (upd (σ.2 19) (0 : Int32).toNatClampNeg (-1))) 19 1))) (mx_p0_27 _ _ _ (ar (ar (ar σ 17 (upd (σ.2 17) (0 : Int32).toNatClampNeg 0)) 18 (upd (σ.2 18) (0 : Int32).toNatClampNeg (fX8_modulo ((σ.2 12) ((σ.2 2) x1.toNatClampNeg).toNatClampNeg) 64))) 19 (upd (σ.2 19) (0 : Int32).toNatClampNeg (-1))) _) dX8_plainRun_268 ?_
                    subst hq6
                    have E : fX8_plainRun σ x1 = (sg (ar (ar (ar σ 17 (upd (σ.2 17) (0 : Int32).toNatClampNeg 0)) 18 (upd (σ.2 18) (0 : Int32).toNatClampNeg (fX8_modulo ((σ.2 12) ((σ.2 2) x1.toNatClampNeg).toNatClampNeg) 64))) 19 (upd (σ.2 19) (0 : Int32).toNatClampNeg (-1))) 19 1) := j_ig c1 (j_ig c2 (j_ig c3 (j_ig c4 (j_ig c5 (j_ip c7 (j_ig c8 (j_ig c9 (j_ip c10 rfl))))))))
                    exact j_vreturn h hr (fun _ => 0) (congrArg (mx a cI cZ) E).symm dX8_plainRun_271
                  ·
                    refine j_aload_n h 2 dX8_plainRun_257 rfl rfl ?_
                    refine j_get h iX8 0 (mx_c0 _ _ _ (ar (ar (ar σ 17 (upd (σ.2 17) (0 : Int32).toNatClampNeg 0)) 18 (upd (σ.2 18) (0 : Int32).toNatClampNeg (fX8_modulo ((σ.2 12) ((σ.2 2) x1.toNatClampNeg).toNatClampNeg) 64))) 19 (upd (σ.2 19) (0 : Int32).toNatClampNeg (-1)))) rfl 21 (by decide) tb3_225 rfl (v := .ref (a 12)) rfl dX8_plainRun_258 ?_
                    refine j_iconst h (v := 0) dX8_plainRun_261 (by decide) ?_
                    refine j_iald h 12 0 (mx_g12 (σ := (ar (ar (ar σ 17 (upd (σ.2 17) (0 : Int32).toNatClampNeg 0)) 18 (upd (σ.2 18) (0 : Int32).toNatClampNeg (fX8_modulo ((σ.2 12) ((σ.2 2) x1.toNatClampNeg).toNatClampNeg) 64))) 19 (upd (σ.2 19) (0 : Int32).toNatClampNeg (-1)))) (F := (upd (σ.2 19) (0 : Int32).toNatClampNeg (-1))) rfl) rfl (vp_in_nI (n := 0) (N := 8) (by decide) (by decide)) dX8_plainRun_262 ?_
                    refine j_eqi (v' := (-1)) pk_us ?_
                    refine j_if_lt h dX8_plainRun_263 (tgt := 271) (by decide) (fun c11 => ?_) (fun c11 => ?_)
                    ·
                      subst hq6
                      have E : fX8_plainRun σ x1 = (ar (ar (ar σ 17 (upd (σ.2 17) (0 : Int32).toNatClampNeg 0)) 18 (upd (σ.2 18) (0 : Int32).toNatClampNeg (fX8_modulo ((σ.2 12) ((σ.2 2) x1.toNatClampNeg).toNatClampNeg) 64))) 19 (upd (σ.2 19) (0 : Int32).toNatClampNeg (-1))) := j_ig c1 (j_ig c2 (j_ig c3 (j_ig c4 (j_ig c5 (j_ip c7 (j_ig c8 (j_ig c9 (j_ig c10 rfl))))))))
                      exact j_vreturn h hr (fun _ => 0) (congrArg (mx a cI cZ) E).symm dX8_plainRun_271
                    ·
                      exact absurd c11 (by decide)
                ·
                  refine j_aload_n h 2 dX8_plainRun_242 rfl rfl ?_
                  refine j_iconst h (v := 1) dX8_plainRun_243 (by decide) ?_
                  refine j_put h iX8 tyX8 tyX8_ok nmX8 0 (mx_c0 _ _ _ (ar (ar (ar σ 17 (upd (σ.2 17) (0 : Int32).toNatClampNeg 0)) 18 (upd (σ.2 18) (0 : Int32).toNatClampNeg (fX8_modulo ((σ.2 12) ((σ.2 2) x1.toNatClampNeg).toNatClampNeg) 64))) 19 (upd (σ.2 19) (0 : Int32).toNatClampNeg (-1)))) rfl 28 (by decide) tb3_232 rfl rfl rfl rfl (Nat.le_of_ble_eq_true rfl) (w' := (mx a cI cZ (sg (ar (ar (ar σ 17 (upd (σ.2 17) (0 : Int32).toNatClampNeg 0)) 18 (upd (σ.2 18) (0 : Int32).toNatClampNeg (fX8_modulo ((σ.2 12) ((σ.2 2) x1.toNatClampNeg).toNatClampNeg) 64))) 19 (upd (σ.2 19) (0 : Int32).toNatClampNeg (-1))) 20 1))) (mx_p0_28 _ _ _ (ar (ar (ar σ 17 (upd (σ.2 17) (0 : Int32).toNatClampNeg 0)) 18 (upd (σ.2 18) (0 : Int32).toNatClampNeg (fX8_modulo ((σ.2 12) ((σ.2 2) x1.toNatClampNeg).toNatClampNeg) 64))) 19 (upd (σ.2 19) (0 : Int32).toNatClampNeg (-1))) _) dX8_plainRun_244 ?_
                  refine j_aload_n h 2 dX8_plainRun_247 rfl rfl ?_
                  refine j_get h iX8 0 (mx_c0 _ _ _ (sg (ar (ar (ar σ 17 (upd (σ.2 17) (0 : Int32).toNatClampNeg 0)) 18 (upd (σ.2 18) (0 : Int32).toNatClampNeg (fX8_modulo ((σ.2 12) ((σ.2 2) x1.toNatClampNeg).toNatClampNeg) 64))) 19 (upd (σ.2 19) (0 : Int32).toNatClampNeg (-1))) 20 1)) rfl 10 (by decide) tb3_214 rfl (v := .ref (a 1)) rfl dX8_plainRun_248 ?_
                  refine j_iload_n h 3 dX8_plainRun_251 rfl rfl ?_
                  refine j_iald h 1 0 (mx_g1 (σ := (sg (ar (ar (ar σ 17 (upd (σ.2 17) (0 : Int32).toNatClampNeg 0)) 18 (upd (σ.2 18) (0 : Int32).toNatClampNeg (fX8_modulo ((σ.2 12) ((σ.2 2) x1.toNatClampNeg).toNatClampNeg) 64))) 19 (upd (σ.2 19) (0 : Int32).toNatClampNeg (-1))) 20 1)) (F := (σ.2 0)) rfl) rfl h1 dX8_plainRun_252 ?_
                  refine j_iconst h (v := 5) dX8_plainRun_253 (by decide) ?_
                  refine j_icmp_eq h dX8_plainRun_254 (tgt := 266) (by decide) (fun c12 => ?_) (fun c12 => ?_)
                  ·
                    exact absurd (c9.symm.trans c12) (by decide)
                  ·
                    refine j_aload_n h 2 dX8_plainRun_257 rfl rfl ?_
                    refine j_get h iX8 0 (mx_c0 _ _ _ (sg (ar (ar (ar σ 17 (upd (σ.2 17) (0 : Int32).toNatClampNeg 0)) 18 (upd (σ.2 18) (0 : Int32).toNatClampNeg (fX8_modulo ((σ.2 12) ((σ.2 2) x1.toNatClampNeg).toNatClampNeg) 64))) 19 (upd (σ.2 19) (0 : Int32).toNatClampNeg (-1))) 20 1)) rfl 21 (by decide) tb3_225 rfl (v := .ref (a 12)) rfl dX8_plainRun_258 ?_
                    refine j_iconst h (v := 0) dX8_plainRun_261 (by decide) ?_
                    refine j_iald h 12 0 (mx_g12 (σ := (sg (ar (ar (ar σ 17 (upd (σ.2 17) (0 : Int32).toNatClampNeg 0)) 18 (upd (σ.2 18) (0 : Int32).toNatClampNeg (fX8_modulo ((σ.2 12) ((σ.2 2) x1.toNatClampNeg).toNatClampNeg) 64))) 19 (upd (σ.2 19) (0 : Int32).toNatClampNeg (-1))) 20 1)) (F := (upd (σ.2 19) (0 : Int32).toNatClampNeg (-1))) rfl) rfl (vp_in_nI (n := 0) (N := 8) (by decide) (by decide)) dX8_plainRun_262 ?_
                    refine j_eqi (v' := (-1)) pk_us ?_
                    refine j_if_lt h dX8_plainRun_263 (tgt := 271) (by decide) (fun c13 => ?_) (fun c13 => ?_)
                    ·
                      subst hq6
                      have E : fX8_plainRun σ x1 = (sg (ar (ar (ar σ 17 (upd (σ.2 17) (0 : Int32).toNatClampNeg 0)) 18 (upd (σ.2 18) (0 : Int32).toNatClampNeg (fX8_modulo ((σ.2 12) ((σ.2 2) x1.toNatClampNeg).toNatClampNeg) 64))) 19 (upd (σ.2 19) (0 : Int32).toNatClampNeg (-1))) 20 1) := j_ig c1 (j_ig c2 (j_ig c3 (j_ig c4 (j_ig c5 (j_ip c7 (j_ig c8 (j_ip c9 rfl)))))))
                      exact j_vreturn h hr (fun _ => 0) (congrArg (mx a cI cZ) E).symm dX8_plainRun_271
                    ·
                      exact absurd c13 (by decide)
              ·
                refine j_iload_n h 1 dX8_plainRun_208 rfl rfl ?_
                refine j_if_eq h dX8_plainRun_209 (tgt := 231) (by decide) (fun c14 => ?_) (fun c14 => ?_)
                ·
                  refine j_aload_n h 2 dX8_plainRun_231 rfl rfl ?_
                  refine j_get h iX8 0 (mx_c0 _ _ _ (ar (ar (ar σ 17 (upd (σ.2 17) (0 : Int32).toNatClampNeg 0)) 18 (upd (σ.2 18) (0 : Int32).toNatClampNeg (fX8_modulo ((σ.2 12) ((σ.2 2) x1.toNatClampNeg).toNatClampNeg) 64))) 19 (upd (σ.2 19) (0 : Int32).toNatClampNeg (-1)))) rfl 10 (by decide) tb3_214 rfl (v := .ref (a 1)) rfl dX8_plainRun_232 ?_
                  refine j_iload_n h 3 dX8_plainRun_235 rfl rfl ?_
                  refine j_iald h 1 0 (mx_g1 (σ := (ar (ar (ar σ 17 (upd (σ.2 17) (0 : Int32).toNatClampNeg 0)) 18 (upd (σ.2 18) (0 : Int32).toNatClampNeg (fX8_modulo ((σ.2 12) ((σ.2 2) x1.toNatClampNeg).toNatClampNeg) 64))) 19 (upd (σ.2 19) (0 : Int32).toNatClampNeg (-1)))) (F := (σ.2 0)) rfl) rfl h1 dX8_plainRun_236 ?_
                  refine j_bipush h (v := 6) dX8_plainRun_237 (by decide) ?_
                  refine j_icmp_ne h dX8_plainRun_239 (tgt := 247) (by decide) (fun c15 => ?_) (fun c15 => ?_)
                  ·
                    refine j_aload_n h 2 dX8_plainRun_247 rfl rfl ?_
                    refine j_get h iX8 0 (mx_c0 _ _ _ (ar (ar (ar σ 17 (upd (σ.2 17) (0 : Int32).toNatClampNeg 0)) 18 (upd (σ.2 18) (0 : Int32).toNatClampNeg (fX8_modulo ((σ.2 12) ((σ.2 2) x1.toNatClampNeg).toNatClampNeg) 64))) 19 (upd (σ.2 19) (0 : Int32).toNatClampNeg (-1)))) rfl 10 (by decide) tb3_214 rfl (v := .ref (a 1)) rfl dX8_plainRun_248 ?_
                    refine j_iload_n h 3 dX8_plainRun_251 rfl rfl ?_
                    refine j_iald h 1 0 (mx_g1 (σ := (ar (ar (ar σ 17 (upd (σ.2 17) (0 : Int32).toNatClampNeg 0)) 18 (upd (σ.2 18) (0 : Int32).toNatClampNeg (fX8_modulo ((σ.2 12) ((σ.2 2) x1.toNatClampNeg).toNatClampNeg) 64))) 19 (upd (σ.2 19) (0 : Int32).toNatClampNeg (-1)))) (F := (σ.2 0)) rfl) rfl h1 dX8_plainRun_252 ?_
                    refine j_iconst h (v := 5) dX8_plainRun_253 (by decide) ?_
                    refine j_icmp_eq h dX8_plainRun_254 (tgt := 266) (by decide) (fun c16 => ?_) (fun c16 => ?_)
                    ·
                      exact absurd (c8.symm.trans c16) (by decide)
                    ·
                      refine j_aload_n h 2 dX8_plainRun_257 rfl rfl ?_
                      refine j_get h iX8 0 (mx_c0 _ _ _ (ar (ar (ar σ 17 (upd (σ.2 17) (0 : Int32).toNatClampNeg 0)) 18 (upd (σ.2 18) (0 : Int32).toNatClampNeg (fX8_modulo ((σ.2 12) ((σ.2 2) x1.toNatClampNeg).toNatClampNeg) 64))) 19 (upd (σ.2 19) (0 : Int32).toNatClampNeg (-1)))) rfl 21 (by decide) tb3_225 rfl (v := .ref (a 12)) rfl dX8_plainRun_258 ?_
                      refine j_iconst h (v := 0) dX8_plainRun_261 (by decide) ?_
                      refine j_iald h 12 0 (mx_g12 (σ := (ar (ar (ar σ 17 (upd (σ.2 17) (0 : Int32).toNatClampNeg 0)) 18 (upd (σ.2 18) (0 : Int32).toNatClampNeg (fX8_modulo ((σ.2 12) ((σ.2 2) x1.toNatClampNeg).toNatClampNeg) 64))) 19 (upd (σ.2 19) (0 : Int32).toNatClampNeg (-1)))) (F := (upd (σ.2 19) (0 : Int32).toNatClampNeg (-1))) rfl) rfl (vp_in_nI (n := 0) (N := 8) (by decide) (by decide)) dX8_plainRun_262 ?_
                      refine j_eqi (v' := (-1)) pk_us ?_
                      refine j_if_lt h dX8_plainRun_263 (tgt := 271) (by decide) (fun c17 => ?_) (fun c17 => ?_)
                      ·
                        subst hq6
                        have E : fX8_plainRun σ x1 = (ar (ar (ar σ 17 (upd (σ.2 17) (0 : Int32).toNatClampNeg 0)) 18 (upd (σ.2 18) (0 : Int32).toNatClampNeg (fX8_modulo ((σ.2 12) ((σ.2 2) x1.toNatClampNeg).toNatClampNeg) 64))) 19 (upd (σ.2 19) (0 : Int32).toNatClampNeg (-1))) := j_ig c1 (j_ig c2 (j_ig c3 (j_ig c4 (j_ig c5 (j_ip c7 (j_ip c8 (j_ip c14 rfl)))))))
                        exact j_vreturn h hr (fun _ => 0) (congrArg (mx a cI cZ) E).symm dX8_plainRun_271
                      ·
                        exact absurd c17 (by decide)
                  ·
                    exact absurd (c8.symm.trans c15) (by decide)
                ·
                  refine j_aload_n h 2 dX8_plainRun_212 rfl rfl ?_
                  refine j_get h iX8 0 (mx_c0 _ _ _ (ar (ar (ar σ 17 (upd (σ.2 17) (0 : Int32).toNatClampNeg 0)) 18 (upd (σ.2 18) (0 : Int32).toNatClampNeg (fX8_modulo ((σ.2 12) ((σ.2 2) x1.toNatClampNeg).toNatClampNeg) 64))) 19 (upd (σ.2 19) (0 : Int32).toNatClampNeg (-1)))) rfl 21 (by decide) tb3_225 rfl (v := .ref (a 12)) rfl dX8_plainRun_213 ?_
                  refine j_iconst h (v := 0) dX8_plainRun_216 (by decide) ?_
                  refine j_aload_n h 2 dX8_plainRun_217 rfl rfl ?_
                  refine j_get h iX8 0 (mx_c0 _ _ _ (ar (ar (ar σ 17 (upd (σ.2 17) (0 : Int32).toNatClampNeg 0)) 18 (upd (σ.2 18) (0 : Int32).toNatClampNeg (fX8_modulo ((σ.2 12) ((σ.2 2) x1.toNatClampNeg).toNatClampNeg) 64))) 19 (upd (σ.2 19) (0 : Int32).toNatClampNeg (-1)))) rfl 14 (by decide) tb3_218 rfl (v := .ref (a 5)) rfl dX8_plainRun_218 ?_
                  refine j_iload_n h 3 dX8_plainRun_221 rfl rfl ?_
                  refine j_iald h 5 0 (mx_g5 (σ := (ar (ar (ar σ 17 (upd (σ.2 17) (0 : Int32).toNatClampNeg 0)) 18 (upd (σ.2 18) (0 : Int32).toNatClampNeg (fX8_modulo ((σ.2 12) ((σ.2 2) x1.toNatClampNeg).toNatClampNeg) 64))) 19 (upd (σ.2 19) (0 : Int32).toNatClampNeg (-1)))) (F := (σ.2 4)) rfl) rfl h1 dX8_plainRun_222 ?_
                  refine j_aload_n h 2 dX8_plainRun_223 rfl rfl ?_
                  refine j_get h iX8 0 (mx_c0 _ _ _ (ar (ar (ar σ 17 (upd (σ.2 17) (0 : Int32).toNatClampNeg 0)) 18 (upd (σ.2 18) (0 : Int32).toNatClampNeg (fX8_modulo ((σ.2 12) ((σ.2 2) x1.toNatClampNeg).toNatClampNeg) 64))) 19 (upd (σ.2 19) (0 : Int32).toNatClampNeg (-1)))) rfl 9 (by decide) tb3_213 rfl (v := .int (σ.1 6)) rfl dX8_plainRun_224 ?_
                  refine j_callSi0 h (kX8_modulo l D cI cZ ((σ.2 4) x1.toNatClampNeg) (σ.1 6) h6) tb3_197 tb3_198 tb1_11 tb3_199 ⟨rfl, rfl⟩ (n := 2) (by decide +kernel) ⟨Nat.le_of_ble_eq_true rfl, Nat.le_of_ble_eq_true rfl⟩ (As := [.int ((σ.2 4) x1.toNatClampNeg), .int (σ.1 6)]) rfl (st := [.int 0, .ref (a 12)]) rfl (Nat.le_of_ble_eq_true rfl) dX8_plainRun_227 ⟨Nat.zero_le _, Nat.zero_le _⟩ ?_
                  refine j_iast h 12 0 (mx_g12 (σ := (ar (ar (ar σ 17 (upd (σ.2 17) (0 : Int32).toNatClampNeg 0)) 18 (upd (σ.2 18) (0 : Int32).toNatClampNeg (fX8_modulo ((σ.2 12) ((σ.2 2) x1.toNatClampNeg).toNatClampNeg) 64))) 19 (upd (σ.2 19) (0 : Int32).toNatClampNeg (-1)))) (F := (upd (σ.2 19) (0 : Int32).toNatClampNeg (-1))) rfl) rfl (vp_in_nI (n := 0) (N := 8) (by decide) (by decide)) (w' := (mx a cI cZ (ar (ar (ar (ar σ 17 (upd (σ.2 17) (0 : Int32).toNatClampNeg 0)) 18 (upd (σ.2 18) (0 : Int32).toNatClampNeg (fX8_modulo ((σ.2 12) ((σ.2 2) x1.toNatClampNeg).toNatClampNeg) 64))) 19 (upd (σ.2 19) (0 : Int32).toNatClampNeg (-1))) 19 (upd (upd (σ.2 19) (0 : Int32).toNatClampNeg (-1)) (0 : Int32).toNatClampNeg (fX8_modulo ((σ.2 4) x1.toNatClampNeg) (σ.1 6)))))) (mx_s12 _ _ _ (ar (ar (ar σ 17 (upd (σ.2 17) (0 : Int32).toNatClampNeg 0)) 18 (upd (σ.2 18) (0 : Int32).toNatClampNeg (fX8_modulo ((σ.2 12) ((σ.2 2) x1.toNatClampNeg).toNatClampNeg) 64))) 19 (upd (σ.2 19) (0 : Int32).toNatClampNeg (-1))) _) dX8_plainRun_230 ?_
                  refine j_aload_n h 2 dX8_plainRun_231 rfl rfl ?_
                  refine j_get h iX8 0 (mx_c0 _ _ _ (ar (ar (ar (ar σ 17 (upd (σ.2 17) (0 : Int32).toNatClampNeg 0)) 18 (upd (σ.2 18) (0 : Int32).toNatClampNeg (fX8_modulo ((σ.2 12) ((σ.2 2) x1.toNatClampNeg).toNatClampNeg) 64))) 19 (upd (σ.2 19) (0 : Int32).toNatClampNeg (-1))) 19 (upd (upd (σ.2 19) (0 : Int32).toNatClampNeg (-1)) (0 : Int32).toNatClampNeg (fX8_modulo ((σ.2 4) x1.toNatClampNeg) (σ.1 6))))) rfl 10 (by decide) tb3_214 rfl (v := .ref (a 1)) rfl dX8_plainRun_232 ?_
                  refine j_iload_n h 3 dX8_plainRun_235 rfl rfl ?_
                  refine j_iald h 1 0 (mx_g1 (σ := (ar (ar (ar (ar σ 17 (upd (σ.2 17) (0 : Int32).toNatClampNeg 0)) 18 (upd (σ.2 18) (0 : Int32).toNatClampNeg (fX8_modulo ((σ.2 12) ((σ.2 2) x1.toNatClampNeg).toNatClampNeg) 64))) 19 (upd (σ.2 19) (0 : Int32).toNatClampNeg (-1))) 19 (upd (upd (σ.2 19) (0 : Int32).toNatClampNeg (-1)) (0 : Int32).toNatClampNeg (fX8_modulo ((σ.2 4) x1.toNatClampNeg) (σ.1 6))))) (F := (σ.2 0)) rfl) rfl h1 dX8_plainRun_236 ?_
                  refine j_bipush h (v := 6) dX8_plainRun_237 (by decide) ?_
                  refine j_icmp_ne h dX8_plainRun_239 (tgt := 247) (by decide) (fun c18 => ?_) (fun c18 => ?_)
                  ·
                    refine j_aload_n h 2 dX8_plainRun_247 rfl rfl ?_
                    refine j_get h iX8 0 (mx_c0 _ _ _ (ar (ar (ar (ar σ 17 (upd (σ.2 17) (0 : Int32).toNatClampNeg 0)) 18 (upd (σ.2 18) (0 : Int32).toNatClampNeg (fX8_modulo ((σ.2 12) ((σ.2 2) x1.toNatClampNeg).toNatClampNeg) 64))) 19 (upd (σ.2 19) (0 : Int32).toNatClampNeg (-1))) 19 (upd (upd (σ.2 19) (0 : Int32).toNatClampNeg (-1)) (0 : Int32).toNatClampNeg (fX8_modulo ((σ.2 4) x1.toNatClampNeg) (σ.1 6))))) rfl 10 (by decide) tb3_214 rfl (v := .ref (a 1)) rfl dX8_plainRun_248 ?_
                    refine j_iload_n h 3 dX8_plainRun_251 rfl rfl ?_
                    refine j_iald h 1 0 (mx_g1 (σ := (ar (ar (ar (ar σ 17 (upd (σ.2 17) (0 : Int32).toNatClampNeg 0)) 18 (upd (σ.2 18) (0 : Int32).toNatClampNeg (fX8_modulo ((σ.2 12) ((σ.2 2) x1.toNatClampNeg).toNatClampNeg) 64))) 19 (upd (σ.2 19) (0 : Int32).toNatClampNeg (-1))) 19 (upd (upd (σ.2 19) (0 : Int32).toNatClampNeg (-1)) (0 : Int32).toNatClampNeg (fX8_modulo ((σ.2 4) x1.toNatClampNeg) (σ.1 6))))) (F := (σ.2 0)) rfl) rfl h1 dX8_plainRun_252 ?_
                    refine j_iconst h (v := 5) dX8_plainRun_253 (by decide) ?_
                    refine j_icmp_eq h dX8_plainRun_254 (tgt := 266) (by decide) (fun c19 => ?_) (fun c19 => ?_)
                    ·
                      exact absurd (c8.symm.trans c19) (by decide)
                    ·
                      refine j_aload_n h 2 dX8_plainRun_257 rfl rfl ?_
                      refine j_get h iX8 0 (mx_c0 _ _ _ (ar (ar (ar (ar σ 17 (upd (σ.2 17) (0 : Int32).toNatClampNeg 0)) 18 (upd (σ.2 18) (0 : Int32).toNatClampNeg (fX8_modulo ((σ.2 12) ((σ.2 2) x1.toNatClampNeg).toNatClampNeg) 64))) 19 (upd (σ.2 19) (0 : Int32).toNatClampNeg (-1))) 19 (upd (upd (σ.2 19) (0 : Int32).toNatClampNeg (-1)) (0 : Int32).toNatClampNeg (fX8_modulo ((σ.2 4) x1.toNatClampNeg) (σ.1 6))))) rfl 21 (by decide) tb3_225 rfl (v := .ref (a 12)) rfl dX8_plainRun_258 ?_
                      refine j_iconst h (v := 0) dX8_plainRun_261 (by decide) ?_
                      refine j_iald h 12 0 (mx_g12 (σ := (ar (ar (ar (ar σ 17 (upd (σ.2 17) (0 : Int32).toNatClampNeg 0)) 18 (upd (σ.2 18) (0 : Int32).toNatClampNeg (fX8_modulo ((σ.2 12) ((σ.2 2) x1.toNatClampNeg).toNatClampNeg) 64))) 19 (upd (σ.2 19) (0 : Int32).toNatClampNeg (-1))) 19 (upd (upd (σ.2 19) (0 : Int32).toNatClampNeg (-1)) (0 : Int32).toNatClampNeg (fX8_modulo ((σ.2 4) x1.toNatClampNeg) (σ.1 6))))) (F := (upd (upd (σ.2 19) (0 : Int32).toNatClampNeg (-1)) (0 : Int32).toNatClampNeg (fX8_modulo ((σ.2 4) x1.toNatClampNeg) (σ.1 6)))) rfl) rfl (vp_in_nI (n := 0) (N := 8) (by decide) (by decide)) dX8_plainRun_262 ?_
                      refine j_eqi (v' := (fX8_modulo ((σ.2 4) x1.toNatClampNeg) (σ.1 6))) pk_us ?_
                      refine j_if_lt h dX8_plainRun_263 (tgt := 271) (by decide) (fun c20 => ?_) (fun c20 => ?_)
                      ·
                        subst hq6
                        have E : fX8_plainRun σ x1 = (ar (ar (ar (ar σ 17 (upd (σ.2 17) (0 : Int32).toNatClampNeg 0)) 18 (upd (σ.2 18) (0 : Int32).toNatClampNeg (fX8_modulo ((σ.2 12) ((σ.2 2) x1.toNatClampNeg).toNatClampNeg) 64))) 19 (upd (σ.2 19) (0 : Int32).toNatClampNeg (-1))) 19 (upd (upd (σ.2 19) (0 : Int32).toNatClampNeg (-1)) (0 : Int32).toNatClampNeg (fX8_modulo ((σ.2 4) x1.toNatClampNeg) (σ.1 6)))) := j_ig c1 (j_ig c2 (j_ig c3 (j_ig c4 (j_ig c5 (j_ip c7 (j_ip c8 (j_ig c14 (j_ip c20 rfl))))))))
                        exact j_vreturn h hr (fun _ => 0) (congrArg (mx a cI cZ) E).symm dX8_plainRun_271
                      ·
                        refine j_aload_n h 2 dX8_plainRun_266 rfl rfl ?_
                        refine j_iconst h (v := 1) dX8_plainRun_267 (by decide) ?_
                        refine j_put h iX8 tyX8 tyX8_ok nmX8 0 (mx_c0 _ _ _ (ar (ar (ar (ar σ 17 (upd (σ.2 17) (0 : Int32).toNatClampNeg 0)) 18 (upd (σ.2 18) (0 : Int32).toNatClampNeg (fX8_modulo ((σ.2 12) ((σ.2 2) x1.toNatClampNeg).toNatClampNeg) 64))) 19 (upd (σ.2 19) (0 : Int32).toNatClampNeg (-1))) 19 (upd (upd (σ.2 19) (0 : Int32).toNatClampNeg (-1)) (0 : Int32).toNatClampNeg (fX8_modulo ((σ.2 4) x1.toNatClampNeg) (σ.1 6))))) rfl 27 (by decide) tb3_231 rfl rfl rfl rfl (Nat.le_of_ble_eq_true rfl) (w' := (mx a cI cZ (sg (ar (ar (ar (ar σ 17 (upd (σ.2 17) (0 : Int32).toNatClampNeg 0)) 18 (upd (σ.2 18) (0 : Int32).toNatClampNeg (fX8_modulo ((σ.2 12) ((σ.2 2) x1.toNatClampNeg).toNatClampNeg) 64))) 19 (upd (σ.2 19) (0 : Int32).toNatClampNeg (-1))) 19 (upd (upd (σ.2 19) (0 : Int32).toNatClampNeg (-1)) (0 : Int32).toNatClampNeg (fX8_modulo ((σ.2 4) x1.toNatClampNeg) (σ.1 6)))) 19 1))) (mx_p0_27 _ _ _ (ar (ar (ar (ar σ 17 (upd (σ.2 17) (0 : Int32).toNatClampNeg 0)) 18 (upd (σ.2 18) (0 : Int32).toNatClampNeg (fX8_modulo ((σ.2 12) ((σ.2 2) x1.toNatClampNeg).toNatClampNeg) 64))) 19 (upd (σ.2 19) (0 : Int32).toNatClampNeg (-1))) 19 (upd (upd (σ.2 19) (0 : Int32).toNatClampNeg (-1)) (0 : Int32).toNatClampNeg (fX8_modulo ((σ.2 4) x1.toNatClampNeg) (σ.1 6)))) _) dX8_plainRun_268 ?_
                        subst hq6
                        have E : fX8_plainRun σ x1 = (sg (ar (ar (ar (ar σ 17 (upd (σ.2 17) (0 : Int32).toNatClampNeg 0)) 18 (upd (σ.2 18) (0 : Int32).toNatClampNeg (fX8_modulo ((σ.2 12) ((σ.2 2) x1.toNatClampNeg).toNatClampNeg) 64))) 19 (upd (σ.2 19) (0 : Int32).toNatClampNeg (-1))) 19 (upd (upd (σ.2 19) (0 : Int32).toNatClampNeg (-1)) (0 : Int32).toNatClampNeg (fX8_modulo ((σ.2 4) x1.toNatClampNeg) (σ.1 6)))) 19 1) := j_ig c1 (j_ig c2 (j_ig c3 (j_ig c4 (j_ig c5 (j_ip c7 (j_ip c8 (j_ig c14 (j_ig c20 rfl))))))))
                        exact j_vreturn h hr (fun _ => 0) (congrArg (mx a cI cZ) E).symm dX8_plainRun_271
                  ·
                    exact absurd (c8.symm.trans c18) (by decide)
            ·
              refine j_aload_n h 2 dX8_plainRun_181 rfl rfl ?_
              refine j_get h iX8 0 (mx_c0 _ _ _ (ar (ar (ar σ 17 (upd (σ.2 17) (0 : Int32).toNatClampNeg 0)) 18 (upd (σ.2 18) (0 : Int32).toNatClampNeg (fX8_modulo ((σ.2 12) ((σ.2 2) x1.toNatClampNeg).toNatClampNeg) 64))) 19 (upd (σ.2 19) (0 : Int32).toNatClampNeg (-1)))) rfl 22 (by decide) tb3_226 rfl (v := .ref (a 13)) rfl dX8_plainRun_182 ?_
              refine j_aload_n h 2 dX8_plainRun_185 rfl rfl ?_
              refine j_get h iX8 0 (mx_c0 _ _ _ (ar (ar (ar σ 17 (upd (σ.2 17) (0 : Int32).toNatClampNeg 0)) 18 (upd (σ.2 18) (0 : Int32).toNatClampNeg (fX8_modulo ((σ.2 12) ((σ.2 2) x1.toNatClampNeg).toNatClampNeg) 64))) 19 (upd (σ.2 19) (0 : Int32).toNatClampNeg (-1)))) rfl 11 (by decide) tb3_215 rfl (v := .ref (a 2)) rfl dX8_plainRun_186 ?_
              refine j_iload_n h 3 dX8_plainRun_189 rfl rfl ?_
              refine j_iald h 2 0 (mx_g2 (σ := (ar (ar (ar σ 17 (upd (σ.2 17) (0 : Int32).toNatClampNeg 0)) 18 (upd (σ.2 18) (0 : Int32).toNatClampNeg (fX8_modulo ((σ.2 12) ((σ.2 2) x1.toNatClampNeg).toNatClampNeg) 64))) 19 (upd (σ.2 19) (0 : Int32).toNatClampNeg (-1)))) (F := (σ.2 1)) rfl) rfl h1 dX8_plainRun_190 ?_
              refine j_aload_n h 2 dX8_plainRun_191 rfl rfl ?_
              refine j_get h iX8 0 (mx_c0 _ _ _ (ar (ar (ar σ 17 (upd (σ.2 17) (0 : Int32).toNatClampNeg 0)) 18 (upd (σ.2 18) (0 : Int32).toNatClampNeg (fX8_modulo ((σ.2 12) ((σ.2 2) x1.toNatClampNeg).toNatClampNeg) 64))) 19 (upd (σ.2 19) (0 : Int32).toNatClampNeg (-1)))) rfl 19 (by decide) tb3_223 rfl (v := .ref (a 10)) rfl dX8_plainRun_192 ?_
              refine j_iconst h (v := 0) dX8_plainRun_195 (by decide) ?_
              refine j_iald h 10 0 (mx_g10 (σ := (ar (ar (ar σ 17 (upd (σ.2 17) (0 : Int32).toNatClampNeg 0)) 18 (upd (σ.2 18) (0 : Int32).toNatClampNeg (fX8_modulo ((σ.2 12) ((σ.2 2) x1.toNatClampNeg).toNatClampNeg) 64))) 19 (upd (σ.2 19) (0 : Int32).toNatClampNeg (-1)))) (F := (upd (σ.2 17) (0 : Int32).toNatClampNeg 0)) rfl) rfl (vp_in_nI (n := 0) (N := 8) (by decide) (by decide)) dX8_plainRun_196 ?_
              refine j_eqi (v' := 0) pk_us ?_
              refine j_iast h 13 0 (mx_g13 (σ := (ar (ar (ar σ 17 (upd (σ.2 17) (0 : Int32).toNatClampNeg 0)) 18 (upd (σ.2 18) (0 : Int32).toNatClampNeg (fX8_modulo ((σ.2 12) ((σ.2 2) x1.toNatClampNeg).toNatClampNeg) 64))) 19 (upd (σ.2 19) (0 : Int32).toNatClampNeg (-1)))) (F := (σ.2 12)) rfl) rfl (hR _ (m_cl h1 (by decide))).1 (w' := (mx a cI cZ (ar (ar (ar (ar σ 17 (upd (σ.2 17) (0 : Int32).toNatClampNeg 0)) 18 (upd (σ.2 18) (0 : Int32).toNatClampNeg (fX8_modulo ((σ.2 12) ((σ.2 2) x1.toNatClampNeg).toNatClampNeg) 64))) 19 (upd (σ.2 19) (0 : Int32).toNatClampNeg (-1))) 12 (upd (σ.2 12) ((σ.2 1) x1.toNatClampNeg).toNatClampNeg 0)))) (mx_s13 _ _ _ (ar (ar (ar σ 17 (upd (σ.2 17) (0 : Int32).toNatClampNeg 0)) 18 (upd (σ.2 18) (0 : Int32).toNatClampNeg (fX8_modulo ((σ.2 12) ((σ.2 2) x1.toNatClampNeg).toNatClampNeg) 64))) 19 (upd (σ.2 19) (0 : Int32).toNatClampNeg (-1))) _) dX8_plainRun_197 ?_
              refine j_aload_n h 2 dX8_plainRun_198 rfl rfl ?_
              refine j_get h iX8 0 (mx_c0 _ _ _ (ar (ar (ar (ar σ 17 (upd (σ.2 17) (0 : Int32).toNatClampNeg 0)) 18 (upd (σ.2 18) (0 : Int32).toNatClampNeg (fX8_modulo ((σ.2 12) ((σ.2 2) x1.toNatClampNeg).toNatClampNeg) 64))) 19 (upd (σ.2 19) (0 : Int32).toNatClampNeg (-1))) 12 (upd (σ.2 12) ((σ.2 1) x1.toNatClampNeg).toNatClampNeg 0))) rfl 10 (by decide) tb3_214 rfl (v := .ref (a 1)) rfl dX8_plainRun_199 ?_
              refine j_iload_n h 3 dX8_plainRun_202 rfl rfl ?_
              refine j_iald h 1 0 (mx_g1 (σ := (ar (ar (ar (ar σ 17 (upd (σ.2 17) (0 : Int32).toNatClampNeg 0)) 18 (upd (σ.2 18) (0 : Int32).toNatClampNeg (fX8_modulo ((σ.2 12) ((σ.2 2) x1.toNatClampNeg).toNatClampNeg) 64))) 19 (upd (σ.2 19) (0 : Int32).toNatClampNeg (-1))) 12 (upd (σ.2 12) ((σ.2 1) x1.toNatClampNeg).toNatClampNeg 0))) (F := (σ.2 0)) rfl) rfl h1 dX8_plainRun_203 ?_
              refine j_iconst h (v := 4) dX8_plainRun_204 (by decide) ?_
              refine j_icmp_ne h dX8_plainRun_205 (tgt := 231) (by decide) (fun c21 => ?_) (fun c21 => ?_)
              ·
                refine j_aload_n h 2 dX8_plainRun_231 rfl rfl ?_
                refine j_get h iX8 0 (mx_c0 _ _ _ (ar (ar (ar (ar σ 17 (upd (σ.2 17) (0 : Int32).toNatClampNeg 0)) 18 (upd (σ.2 18) (0 : Int32).toNatClampNeg (fX8_modulo ((σ.2 12) ((σ.2 2) x1.toNatClampNeg).toNatClampNeg) 64))) 19 (upd (σ.2 19) (0 : Int32).toNatClampNeg (-1))) 12 (upd (σ.2 12) ((σ.2 1) x1.toNatClampNeg).toNatClampNeg 0))) rfl 10 (by decide) tb3_214 rfl (v := .ref (a 1)) rfl dX8_plainRun_232 ?_
                refine j_iload_n h 3 dX8_plainRun_235 rfl rfl ?_
                refine j_iald h 1 0 (mx_g1 (σ := (ar (ar (ar (ar σ 17 (upd (σ.2 17) (0 : Int32).toNatClampNeg 0)) 18 (upd (σ.2 18) (0 : Int32).toNatClampNeg (fX8_modulo ((σ.2 12) ((σ.2 2) x1.toNatClampNeg).toNatClampNeg) 64))) 19 (upd (σ.2 19) (0 : Int32).toNatClampNeg (-1))) 12 (upd (σ.2 12) ((σ.2 1) x1.toNatClampNeg).toNatClampNeg 0))) (F := (σ.2 0)) rfl) rfl h1 dX8_plainRun_236 ?_
                refine j_bipush h (v := 6) dX8_plainRun_237 (by decide) ?_
                refine j_icmp_ne h dX8_plainRun_239 (tgt := 247) (by decide) (fun c22 => ?_) (fun c22 => ?_)
                ·
                  refine j_aload_n h 2 dX8_plainRun_247 rfl rfl ?_
                  refine j_get h iX8 0 (mx_c0 _ _ _ (ar (ar (ar (ar σ 17 (upd (σ.2 17) (0 : Int32).toNatClampNeg 0)) 18 (upd (σ.2 18) (0 : Int32).toNatClampNeg (fX8_modulo ((σ.2 12) ((σ.2 2) x1.toNatClampNeg).toNatClampNeg) 64))) 19 (upd (σ.2 19) (0 : Int32).toNatClampNeg (-1))) 12 (upd (σ.2 12) ((σ.2 1) x1.toNatClampNeg).toNatClampNeg 0))) rfl 10 (by decide) tb3_214 rfl (v := .ref (a 1)) rfl dX8_plainRun_248 ?_
                  refine j_iload_n h 3 dX8_plainRun_251 rfl rfl ?_
                  refine j_iald h 1 0 (mx_g1 (σ := (ar (ar (ar (ar σ 17 (upd (σ.2 17) (0 : Int32).toNatClampNeg 0)) 18 (upd (σ.2 18) (0 : Int32).toNatClampNeg (fX8_modulo ((σ.2 12) ((σ.2 2) x1.toNatClampNeg).toNatClampNeg) 64))) 19 (upd (σ.2 19) (0 : Int32).toNatClampNeg (-1))) 12 (upd (σ.2 12) ((σ.2 1) x1.toNatClampNeg).toNatClampNeg 0))) (F := (σ.2 0)) rfl) rfl h1 dX8_plainRun_252 ?_
                  refine j_iconst h (v := 5) dX8_plainRun_253 (by decide) ?_
                  refine j_icmp_eq h dX8_plainRun_254 (tgt := 266) (by decide) (fun c23 => ?_) (fun c23 => ?_)
                  ·
                    refine j_aload_n h 2 dX8_plainRun_266 rfl rfl ?_
                    refine j_iconst h (v := 1) dX8_plainRun_267 (by decide) ?_
                    refine j_put h iX8 tyX8 tyX8_ok nmX8 0 (mx_c0 _ _ _ (ar (ar (ar (ar σ 17 (upd (σ.2 17) (0 : Int32).toNatClampNeg 0)) 18 (upd (σ.2 18) (0 : Int32).toNatClampNeg (fX8_modulo ((σ.2 12) ((σ.2 2) x1.toNatClampNeg).toNatClampNeg) 64))) 19 (upd (σ.2 19) (0 : Int32).toNatClampNeg (-1))) 12 (upd (σ.2 12) ((σ.2 1) x1.toNatClampNeg).toNatClampNeg 0))) rfl 27 (by decide) tb3_231 rfl rfl rfl rfl (Nat.le_of_ble_eq_true rfl) (w' := (mx a cI cZ (sg (ar (ar (ar (ar σ 17 (upd (σ.2 17) (0 : Int32).toNatClampNeg 0)) 18 (upd (σ.2 18) (0 : Int32).toNatClampNeg (fX8_modulo ((σ.2 12) ((σ.2 2) x1.toNatClampNeg).toNatClampNeg) 64))) 19 (upd (σ.2 19) (0 : Int32).toNatClampNeg (-1))) 12 (upd (σ.2 12) ((σ.2 1) x1.toNatClampNeg).toNatClampNeg 0)) 19 1))) (mx_p0_27 _ _ _ (ar (ar (ar (ar σ 17 (upd (σ.2 17) (0 : Int32).toNatClampNeg 0)) 18 (upd (σ.2 18) (0 : Int32).toNatClampNeg (fX8_modulo ((σ.2 12) ((σ.2 2) x1.toNatClampNeg).toNatClampNeg) 64))) 19 (upd (σ.2 19) (0 : Int32).toNatClampNeg (-1))) 12 (upd (σ.2 12) ((σ.2 1) x1.toNatClampNeg).toNatClampNeg 0)) _) dX8_plainRun_268 ?_
                    subst hq6
                    have E : fX8_plainRun σ x1 = (sg (ar (ar (ar (ar σ 17 (upd (σ.2 17) (0 : Int32).toNatClampNeg 0)) 18 (upd (σ.2 18) (0 : Int32).toNatClampNeg (fX8_modulo ((σ.2 12) ((σ.2 2) x1.toNatClampNeg).toNatClampNeg) 64))) 19 (upd (σ.2 19) (0 : Int32).toNatClampNeg (-1))) 12 (upd (σ.2 12) ((σ.2 1) x1.toNatClampNeg).toNatClampNeg 0)) 19 1) := j_ig c1 (j_ig c2 (j_ig c3 (j_ig c4 (j_ig c5 (j_ig c7 (j_ig c21 (j_ig c22 (j_ip c23 rfl))))))))
                    exact j_vreturn h hr (fun _ => 0) (congrArg (mx a cI cZ) E).symm dX8_plainRun_271
                  ·
                    refine j_aload_n h 2 dX8_plainRun_257 rfl rfl ?_
                    refine j_get h iX8 0 (mx_c0 _ _ _ (ar (ar (ar (ar σ 17 (upd (σ.2 17) (0 : Int32).toNatClampNeg 0)) 18 (upd (σ.2 18) (0 : Int32).toNatClampNeg (fX8_modulo ((σ.2 12) ((σ.2 2) x1.toNatClampNeg).toNatClampNeg) 64))) 19 (upd (σ.2 19) (0 : Int32).toNatClampNeg (-1))) 12 (upd (σ.2 12) ((σ.2 1) x1.toNatClampNeg).toNatClampNeg 0))) rfl 21 (by decide) tb3_225 rfl (v := .ref (a 12)) rfl dX8_plainRun_258 ?_
                    refine j_iconst h (v := 0) dX8_plainRun_261 (by decide) ?_
                    refine j_iald h 12 0 (mx_g12 (σ := (ar (ar (ar (ar σ 17 (upd (σ.2 17) (0 : Int32).toNatClampNeg 0)) 18 (upd (σ.2 18) (0 : Int32).toNatClampNeg (fX8_modulo ((σ.2 12) ((σ.2 2) x1.toNatClampNeg).toNatClampNeg) 64))) 19 (upd (σ.2 19) (0 : Int32).toNatClampNeg (-1))) 12 (upd (σ.2 12) ((σ.2 1) x1.toNatClampNeg).toNatClampNeg 0))) (F := (upd (σ.2 19) (0 : Int32).toNatClampNeg (-1))) rfl) rfl (vp_in_nI (n := 0) (N := 8) (by decide) (by decide)) dX8_plainRun_262 ?_
                    refine j_eqi (v' := (-1)) pk_us ?_
                    refine j_if_lt h dX8_plainRun_263 (tgt := 271) (by decide) (fun c24 => ?_) (fun c24 => ?_)
                    ·
                      subst hq6
                      have E : fX8_plainRun σ x1 = (ar (ar (ar (ar σ 17 (upd (σ.2 17) (0 : Int32).toNatClampNeg 0)) 18 (upd (σ.2 18) (0 : Int32).toNatClampNeg (fX8_modulo ((σ.2 12) ((σ.2 2) x1.toNatClampNeg).toNatClampNeg) 64))) 19 (upd (σ.2 19) (0 : Int32).toNatClampNeg (-1))) 12 (upd (σ.2 12) ((σ.2 1) x1.toNatClampNeg).toNatClampNeg 0)) := j_ig c1 (j_ig c2 (j_ig c3 (j_ig c4 (j_ig c5 (j_ig c7 (j_ig c21 (j_ig c22 (j_ig c23 rfl))))))))
                      exact j_vreturn h hr (fun _ => 0) (congrArg (mx a cI cZ) E).symm dX8_plainRun_271
                    ·
                      exact absurd c24 (by decide)
                ·
                  refine j_aload_n h 2 dX8_plainRun_242 rfl rfl ?_
                  refine j_iconst h (v := 1) dX8_plainRun_243 (by decide) ?_
                  refine j_put h iX8 tyX8 tyX8_ok nmX8 0 (mx_c0 _ _ _ (ar (ar (ar (ar σ 17 (upd (σ.2 17) (0 : Int32).toNatClampNeg 0)) 18 (upd (σ.2 18) (0 : Int32).toNatClampNeg (fX8_modulo ((σ.2 12) ((σ.2 2) x1.toNatClampNeg).toNatClampNeg) 64))) 19 (upd (σ.2 19) (0 : Int32).toNatClampNeg (-1))) 12 (upd (σ.2 12) ((σ.2 1) x1.toNatClampNeg).toNatClampNeg 0))) rfl 28 (by decide) tb3_232 rfl rfl rfl rfl (Nat.le_of_ble_eq_true rfl) (w' := (mx a cI cZ (sg (ar (ar (ar (ar σ 17 (upd (σ.2 17) (0 : Int32).toNatClampNeg 0)) 18 (upd (σ.2 18) (0 : Int32).toNatClampNeg (fX8_modulo ((σ.2 12) ((σ.2 2) x1.toNatClampNeg).toNatClampNeg) 64))) 19 (upd (σ.2 19) (0 : Int32).toNatClampNeg (-1))) 12 (upd (σ.2 12) ((σ.2 1) x1.toNatClampNeg).toNatClampNeg 0)) 20 1))) (mx_p0_28 _ _ _ (ar (ar (ar (ar σ 17 (upd (σ.2 17) (0 : Int32).toNatClampNeg 0)) 18 (upd (σ.2 18) (0 : Int32).toNatClampNeg (fX8_modulo ((σ.2 12) ((σ.2 2) x1.toNatClampNeg).toNatClampNeg) 64))) 19 (upd (σ.2 19) (0 : Int32).toNatClampNeg (-1))) 12 (upd (σ.2 12) ((σ.2 1) x1.toNatClampNeg).toNatClampNeg 0)) _) dX8_plainRun_244 ?_
                  refine j_aload_n h 2 dX8_plainRun_247 rfl rfl ?_
                  refine j_get h iX8 0 (mx_c0 _ _ _ (sg (ar (ar (ar (ar σ 17 (upd (σ.2 17) (0 : Int32).toNatClampNeg 0)) 18 (upd (σ.2 18) (0 : Int32).toNatClampNeg (fX8_modulo ((σ.2 12) ((σ.2 2) x1.toNatClampNeg).toNatClampNeg) 64))) 19 (upd (σ.2 19) (0 : Int32).toNatClampNeg (-1))) 12 (upd (σ.2 12) ((σ.2 1) x1.toNatClampNeg).toNatClampNeg 0)) 20 1)) rfl 10 (by decide) tb3_214 rfl (v := .ref (a 1)) rfl dX8_plainRun_248 ?_
                  refine j_iload_n h 3 dX8_plainRun_251 rfl rfl ?_
                  refine j_iald h 1 0 (mx_g1 (σ := (sg (ar (ar (ar (ar σ 17 (upd (σ.2 17) (0 : Int32).toNatClampNeg 0)) 18 (upd (σ.2 18) (0 : Int32).toNatClampNeg (fX8_modulo ((σ.2 12) ((σ.2 2) x1.toNatClampNeg).toNatClampNeg) 64))) 19 (upd (σ.2 19) (0 : Int32).toNatClampNeg (-1))) 12 (upd (σ.2 12) ((σ.2 1) x1.toNatClampNeg).toNatClampNeg 0)) 20 1)) (F := (σ.2 0)) rfl) rfl h1 dX8_plainRun_252 ?_
                  refine j_iconst h (v := 5) dX8_plainRun_253 (by decide) ?_
                  refine j_icmp_eq h dX8_plainRun_254 (tgt := 266) (by decide) (fun c25 => ?_) (fun c25 => ?_)
                  ·
                    exact absurd (c22.symm.trans c25) (by decide)
                  ·
                    refine j_aload_n h 2 dX8_plainRun_257 rfl rfl ?_
                    refine j_get h iX8 0 (mx_c0 _ _ _ (sg (ar (ar (ar (ar σ 17 (upd (σ.2 17) (0 : Int32).toNatClampNeg 0)) 18 (upd (σ.2 18) (0 : Int32).toNatClampNeg (fX8_modulo ((σ.2 12) ((σ.2 2) x1.toNatClampNeg).toNatClampNeg) 64))) 19 (upd (σ.2 19) (0 : Int32).toNatClampNeg (-1))) 12 (upd (σ.2 12) ((σ.2 1) x1.toNatClampNeg).toNatClampNeg 0)) 20 1)) rfl 21 (by decide) tb3_225 rfl (v := .ref (a 12)) rfl dX8_plainRun_258 ?_
                    refine j_iconst h (v := 0) dX8_plainRun_261 (by decide) ?_
                    refine j_iald h 12 0 (mx_g12 (σ := (sg (ar (ar (ar (ar σ 17 (upd (σ.2 17) (0 : Int32).toNatClampNeg 0)) 18 (upd (σ.2 18) (0 : Int32).toNatClampNeg (fX8_modulo ((σ.2 12) ((σ.2 2) x1.toNatClampNeg).toNatClampNeg) 64))) 19 (upd (σ.2 19) (0 : Int32).toNatClampNeg (-1))) 12 (upd (σ.2 12) ((σ.2 1) x1.toNatClampNeg).toNatClampNeg 0)) 20 1)) (F := (upd (σ.2 19) (0 : Int32).toNatClampNeg (-1))) rfl) rfl (vp_in_nI (n := 0) (N := 8) (by decide) (by decide)) dX8_plainRun_262 ?_
                    refine j_eqi (v' := (-1)) pk_us ?_
                    refine j_if_lt h dX8_plainRun_263 (tgt := 271) (by decide) (fun c26 => ?_) (fun c26 => ?_)
                    ·
                      subst hq6
                      have E : fX8_plainRun σ x1 = (sg (ar (ar (ar (ar σ 17 (upd (σ.2 17) (0 : Int32).toNatClampNeg 0)) 18 (upd (σ.2 18) (0 : Int32).toNatClampNeg (fX8_modulo ((σ.2 12) ((σ.2 2) x1.toNatClampNeg).toNatClampNeg) 64))) 19 (upd (σ.2 19) (0 : Int32).toNatClampNeg (-1))) 12 (upd (σ.2 12) ((σ.2 1) x1.toNatClampNeg).toNatClampNeg 0)) 20 1) := j_ig c1 (j_ig c2 (j_ig c3 (j_ig c4 (j_ig c5 (j_ig c7 (j_ig c21 (j_ip c22 rfl)))))))
                      exact j_vreturn h hr (fun _ => 0) (congrArg (mx a cI cZ) E).symm dX8_plainRun_271
                    ·
                      exact absurd c26 (by decide)
              ·
                refine j_iload_n h 1 dX8_plainRun_208 rfl rfl ?_
                refine j_if_eq h dX8_plainRun_209 (tgt := 231) (by decide) (fun c27 => ?_) (fun c27 => ?_)
                ·
                  refine j_aload_n h 2 dX8_plainRun_231 rfl rfl ?_
                  refine j_get h iX8 0 (mx_c0 _ _ _ (ar (ar (ar (ar σ 17 (upd (σ.2 17) (0 : Int32).toNatClampNeg 0)) 18 (upd (σ.2 18) (0 : Int32).toNatClampNeg (fX8_modulo ((σ.2 12) ((σ.2 2) x1.toNatClampNeg).toNatClampNeg) 64))) 19 (upd (σ.2 19) (0 : Int32).toNatClampNeg (-1))) 12 (upd (σ.2 12) ((σ.2 1) x1.toNatClampNeg).toNatClampNeg 0))) rfl 10 (by decide) tb3_214 rfl (v := .ref (a 1)) rfl dX8_plainRun_232 ?_
                  refine j_iload_n h 3 dX8_plainRun_235 rfl rfl ?_
                  refine j_iald h 1 0 (mx_g1 (σ := (ar (ar (ar (ar σ 17 (upd (σ.2 17) (0 : Int32).toNatClampNeg 0)) 18 (upd (σ.2 18) (0 : Int32).toNatClampNeg (fX8_modulo ((σ.2 12) ((σ.2 2) x1.toNatClampNeg).toNatClampNeg) 64))) 19 (upd (σ.2 19) (0 : Int32).toNatClampNeg (-1))) 12 (upd (σ.2 12) ((σ.2 1) x1.toNatClampNeg).toNatClampNeg 0))) (F := (σ.2 0)) rfl) rfl h1 dX8_plainRun_236 ?_
                  refine j_bipush h (v := 6) dX8_plainRun_237 (by decide) ?_
                  refine j_icmp_ne h dX8_plainRun_239 (tgt := 247) (by decide) (fun c28 => ?_) (fun c28 => ?_)
                  ·
                    refine j_aload_n h 2 dX8_plainRun_247 rfl rfl ?_
                    refine j_get h iX8 0 (mx_c0 _ _ _ (ar (ar (ar (ar σ 17 (upd (σ.2 17) (0 : Int32).toNatClampNeg 0)) 18 (upd (σ.2 18) (0 : Int32).toNatClampNeg (fX8_modulo ((σ.2 12) ((σ.2 2) x1.toNatClampNeg).toNatClampNeg) 64))) 19 (upd (σ.2 19) (0 : Int32).toNatClampNeg (-1))) 12 (upd (σ.2 12) ((σ.2 1) x1.toNatClampNeg).toNatClampNeg 0))) rfl 10 (by decide) tb3_214 rfl (v := .ref (a 1)) rfl dX8_plainRun_248 ?_
                    refine j_iload_n h 3 dX8_plainRun_251 rfl rfl ?_
                    refine j_iald h 1 0 (mx_g1 (σ := (ar (ar (ar (ar σ 17 (upd (σ.2 17) (0 : Int32).toNatClampNeg 0)) 18 (upd (σ.2 18) (0 : Int32).toNatClampNeg (fX8_modulo ((σ.2 12) ((σ.2 2) x1.toNatClampNeg).toNatClampNeg) 64))) 19 (upd (σ.2 19) (0 : Int32).toNatClampNeg (-1))) 12 (upd (σ.2 12) ((σ.2 1) x1.toNatClampNeg).toNatClampNeg 0))) (F := (σ.2 0)) rfl) rfl h1 dX8_plainRun_252 ?_
                    refine j_iconst h (v := 5) dX8_plainRun_253 (by decide) ?_
                    refine j_icmp_eq h dX8_plainRun_254 (tgt := 266) (by decide) (fun c29 => ?_) (fun c29 => ?_)
                    ·
                      exact absurd (c21.symm.trans c29) (by decide)
                    ·
                      refine j_aload_n h 2 dX8_plainRun_257 rfl rfl ?_
                      refine j_get h iX8 0 (mx_c0 _ _ _ (ar (ar (ar (ar σ 17 (upd (σ.2 17) (0 : Int32).toNatClampNeg 0)) 18 (upd (σ.2 18) (0 : Int32).toNatClampNeg (fX8_modulo ((σ.2 12) ((σ.2 2) x1.toNatClampNeg).toNatClampNeg) 64))) 19 (upd (σ.2 19) (0 : Int32).toNatClampNeg (-1))) 12 (upd (σ.2 12) ((σ.2 1) x1.toNatClampNeg).toNatClampNeg 0))) rfl 21 (by decide) tb3_225 rfl (v := .ref (a 12)) rfl dX8_plainRun_258 ?_
                      refine j_iconst h (v := 0) dX8_plainRun_261 (by decide) ?_
                      refine j_iald h 12 0 (mx_g12 (σ := (ar (ar (ar (ar σ 17 (upd (σ.2 17) (0 : Int32).toNatClampNeg 0)) 18 (upd (σ.2 18) (0 : Int32).toNatClampNeg (fX8_modulo ((σ.2 12) ((σ.2 2) x1.toNatClampNeg).toNatClampNeg) 64))) 19 (upd (σ.2 19) (0 : Int32).toNatClampNeg (-1))) 12 (upd (σ.2 12) ((σ.2 1) x1.toNatClampNeg).toNatClampNeg 0))) (F := (upd (σ.2 19) (0 : Int32).toNatClampNeg (-1))) rfl) rfl (vp_in_nI (n := 0) (N := 8) (by decide) (by decide)) dX8_plainRun_262 ?_
                      refine j_eqi (v' := (-1)) pk_us ?_
                      refine j_if_lt h dX8_plainRun_263 (tgt := 271) (by decide) (fun c30 => ?_) (fun c30 => ?_)
                      ·
                        subst hq6
                        have E : fX8_plainRun σ x1 = (ar (ar (ar (ar σ 17 (upd (σ.2 17) (0 : Int32).toNatClampNeg 0)) 18 (upd (σ.2 18) (0 : Int32).toNatClampNeg (fX8_modulo ((σ.2 12) ((σ.2 2) x1.toNatClampNeg).toNatClampNeg) 64))) 19 (upd (σ.2 19) (0 : Int32).toNatClampNeg (-1))) 12 (upd (σ.2 12) ((σ.2 1) x1.toNatClampNeg).toNatClampNeg 0)) := j_ig c1 (j_ig c2 (j_ig c3 (j_ig c4 (j_ig c5 (j_ig c7 (j_ip c21 (j_ip c27 rfl)))))))
                        exact j_vreturn h hr (fun _ => 0) (congrArg (mx a cI cZ) E).symm dX8_plainRun_271
                      ·
                        exact absurd c30 (by decide)
                  ·
                    exact absurd (c21.symm.trans c28) (by decide)
                ·
                  refine j_aload_n h 2 dX8_plainRun_212 rfl rfl ?_
                  refine j_get h iX8 0 (mx_c0 _ _ _ (ar (ar (ar (ar σ 17 (upd (σ.2 17) (0 : Int32).toNatClampNeg 0)) 18 (upd (σ.2 18) (0 : Int32).toNatClampNeg (fX8_modulo ((σ.2 12) ((σ.2 2) x1.toNatClampNeg).toNatClampNeg) 64))) 19 (upd (σ.2 19) (0 : Int32).toNatClampNeg (-1))) 12 (upd (σ.2 12) ((σ.2 1) x1.toNatClampNeg).toNatClampNeg 0))) rfl 21 (by decide) tb3_225 rfl (v := .ref (a 12)) rfl dX8_plainRun_213 ?_
                  refine j_iconst h (v := 0) dX8_plainRun_216 (by decide) ?_
                  refine j_aload_n h 2 dX8_plainRun_217 rfl rfl ?_
                  refine j_get h iX8 0 (mx_c0 _ _ _ (ar (ar (ar (ar σ 17 (upd (σ.2 17) (0 : Int32).toNatClampNeg 0)) 18 (upd (σ.2 18) (0 : Int32).toNatClampNeg (fX8_modulo ((σ.2 12) ((σ.2 2) x1.toNatClampNeg).toNatClampNeg) 64))) 19 (upd (σ.2 19) (0 : Int32).toNatClampNeg (-1))) 12 (upd (σ.2 12) ((σ.2 1) x1.toNatClampNeg).toNatClampNeg 0))) rfl 14 (by decide) tb3_218 rfl (v := .ref (a 5)) rfl dX8_plainRun_218 ?_
                  refine j_iload_n h 3 dX8_plainRun_221 rfl rfl ?_
                  refine j_iald h 5 0 (mx_g5 (σ := (ar (ar (ar (ar σ 17 (upd (σ.2 17) (0 : Int32).toNatClampNeg 0)) 18 (upd (σ.2 18) (0 : Int32).toNatClampNeg (fX8_modulo ((σ.2 12) ((σ.2 2) x1.toNatClampNeg).toNatClampNeg) 64))) 19 (upd (σ.2 19) (0 : Int32).toNatClampNeg (-1))) 12 (upd (σ.2 12) ((σ.2 1) x1.toNatClampNeg).toNatClampNeg 0))) (F := (σ.2 4)) rfl) rfl h1 dX8_plainRun_222 ?_
                  refine j_aload_n h 2 dX8_plainRun_223 rfl rfl ?_
                  refine j_get h iX8 0 (mx_c0 _ _ _ (ar (ar (ar (ar σ 17 (upd (σ.2 17) (0 : Int32).toNatClampNeg 0)) 18 (upd (σ.2 18) (0 : Int32).toNatClampNeg (fX8_modulo ((σ.2 12) ((σ.2 2) x1.toNatClampNeg).toNatClampNeg) 64))) 19 (upd (σ.2 19) (0 : Int32).toNatClampNeg (-1))) 12 (upd (σ.2 12) ((σ.2 1) x1.toNatClampNeg).toNatClampNeg 0))) rfl 9 (by decide) tb3_213 rfl (v := .int (σ.1 6)) rfl dX8_plainRun_224 ?_
                  refine j_callSi0 h (kX8_modulo l D cI cZ ((σ.2 4) x1.toNatClampNeg) (σ.1 6) h6) tb3_197 tb3_198 tb1_11 tb3_199 ⟨rfl, rfl⟩ (n := 2) (by decide +kernel) ⟨Nat.le_of_ble_eq_true rfl, Nat.le_of_ble_eq_true rfl⟩ (As := [.int ((σ.2 4) x1.toNatClampNeg), .int (σ.1 6)]) rfl (st := [.int 0, .ref (a 12)]) rfl (Nat.le_of_ble_eq_true rfl) dX8_plainRun_227 ⟨Nat.zero_le _, Nat.zero_le _⟩ ?_
                  refine j_iast h 12 0 (mx_g12 (σ := (ar (ar (ar (ar σ 17 (upd (σ.2 17) (0 : Int32).toNatClampNeg 0)) 18 (upd (σ.2 18) (0 : Int32).toNatClampNeg (fX8_modulo ((σ.2 12) ((σ.2 2) x1.toNatClampNeg).toNatClampNeg) 64))) 19 (upd (σ.2 19) (0 : Int32).toNatClampNeg (-1))) 12 (upd (σ.2 12) ((σ.2 1) x1.toNatClampNeg).toNatClampNeg 0))) (F := (upd (σ.2 19) (0 : Int32).toNatClampNeg (-1))) rfl) rfl (vp_in_nI (n := 0) (N := 8) (by decide) (by decide)) (w' := (mx a cI cZ (ar (ar (ar (ar (ar σ 17 (upd (σ.2 17) (0 : Int32).toNatClampNeg 0)) 18 (upd (σ.2 18) (0 : Int32).toNatClampNeg (fX8_modulo ((σ.2 12) ((σ.2 2) x1.toNatClampNeg).toNatClampNeg) 64))) 19 (upd (σ.2 19) (0 : Int32).toNatClampNeg (-1))) 12 (upd (σ.2 12) ((σ.2 1) x1.toNatClampNeg).toNatClampNeg 0)) 19 (upd (upd (σ.2 19) (0 : Int32).toNatClampNeg (-1)) (0 : Int32).toNatClampNeg (fX8_modulo ((σ.2 4) x1.toNatClampNeg) (σ.1 6)))))) (mx_s12 _ _ _ (ar (ar (ar (ar σ 17 (upd (σ.2 17) (0 : Int32).toNatClampNeg 0)) 18 (upd (σ.2 18) (0 : Int32).toNatClampNeg (fX8_modulo ((σ.2 12) ((σ.2 2) x1.toNatClampNeg).toNatClampNeg) 64))) 19 (upd (σ.2 19) (0 : Int32).toNatClampNeg (-1))) 12 (upd (σ.2 12) ((σ.2 1) x1.toNatClampNeg).toNatClampNeg 0)) _) dX8_plainRun_230 ?_
                  refine j_aload_n h 2 dX8_plainRun_231 rfl rfl ?_
                  refine j_get h iX8 0 (mx_c0 _ _ _ (ar (ar (ar (ar (ar σ 17 (upd (σ.2 17) (0 : Int32).toNatClampNeg 0)) 18 (upd (σ.2 18) (0 : Int32).toNatClampNeg (fX8_modulo ((σ.2 12) ((σ.2 2) x1.toNatClampNeg).toNatClampNeg) 64))) 19 (upd (σ.2 19) (0 : Int32).toNatClampNeg (-1))) 12 (upd (σ.2 12) ((σ.2 1) x1.toNatClampNeg).toNatClampNeg 0)) 19 (upd (upd (σ.2 19) (0 : Int32).toNatClampNeg (-1)) (0 : Int32).toNatClampNeg (fX8_modulo ((σ.2 4) x1.toNatClampNeg) (σ.1 6))))) rfl 10 (by decide) tb3_214 rfl (v := .ref (a 1)) rfl dX8_plainRun_232 ?_
                  refine j_iload_n h 3 dX8_plainRun_235 rfl rfl ?_
                  refine j_iald h 1 0 (mx_g1 (σ := (ar (ar (ar (ar (ar σ 17 (upd (σ.2 17) (0 : Int32).toNatClampNeg 0)) 18 (upd (σ.2 18) (0 : Int32).toNatClampNeg (fX8_modulo ((σ.2 12) ((σ.2 2) x1.toNatClampNeg).toNatClampNeg) 64))) 19 (upd (σ.2 19) (0 : Int32).toNatClampNeg (-1))) 12 (upd (σ.2 12) ((σ.2 1) x1.toNatClampNeg).toNatClampNeg 0)) 19 (upd (upd (σ.2 19) (0 : Int32).toNatClampNeg (-1)) (0 : Int32).toNatClampNeg (fX8_modulo ((σ.2 4) x1.toNatClampNeg) (σ.1 6))))) (F := (σ.2 0)) rfl) rfl h1 dX8_plainRun_236 ?_
                  refine j_bipush h (v := 6) dX8_plainRun_237 (by decide) ?_
                  refine j_icmp_ne h dX8_plainRun_239 (tgt := 247) (by decide) (fun c31 => ?_) (fun c31 => ?_)
                  ·
                    refine j_aload_n h 2 dX8_plainRun_247 rfl rfl ?_
                    refine j_get h iX8 0 (mx_c0 _ _ _ (ar (ar (ar (ar (ar σ 17 (upd (σ.2 17) (0 : Int32).toNatClampNeg 0)) 18 (upd (σ.2 18) (0 : Int32).toNatClampNeg (fX8_modulo ((σ.2 12) ((σ.2 2) x1.toNatClampNeg).toNatClampNeg) 64))) 19 (upd (σ.2 19) (0 : Int32).toNatClampNeg (-1))) 12 (upd (σ.2 12) ((σ.2 1) x1.toNatClampNeg).toNatClampNeg 0)) 19 (upd (upd (σ.2 19) (0 : Int32).toNatClampNeg (-1)) (0 : Int32).toNatClampNeg (fX8_modulo ((σ.2 4) x1.toNatClampNeg) (σ.1 6))))) rfl 10 (by decide) tb3_214 rfl (v := .ref (a 1)) rfl dX8_plainRun_248 ?_
                    refine j_iload_n h 3 dX8_plainRun_251 rfl rfl ?_
                    refine j_iald h 1 0 (mx_g1 (σ := (ar (ar (ar (ar (ar σ 17 (upd (σ.2 17) (0 : Int32).toNatClampNeg 0)) 18 (upd (σ.2 18) (0 : Int32).toNatClampNeg (fX8_modulo ((σ.2 12) ((σ.2 2) x1.toNatClampNeg).toNatClampNeg) 64))) 19 (upd (σ.2 19) (0 : Int32).toNatClampNeg (-1))) 12 (upd (σ.2 12) ((σ.2 1) x1.toNatClampNeg).toNatClampNeg 0)) 19 (upd (upd (σ.2 19) (0 : Int32).toNatClampNeg (-1)) (0 : Int32).toNatClampNeg (fX8_modulo ((σ.2 4) x1.toNatClampNeg) (σ.1 6))))) (F := (σ.2 0)) rfl) rfl h1 dX8_plainRun_252 ?_
                    refine j_iconst h (v := 5) dX8_plainRun_253 (by decide) ?_
                    refine j_icmp_eq h dX8_plainRun_254 (tgt := 266) (by decide) (fun c32 => ?_) (fun c32 => ?_)
                    ·
                      exact absurd (c21.symm.trans c32) (by decide)
                    ·
                      refine j_aload_n h 2 dX8_plainRun_257 rfl rfl ?_
                      refine j_get h iX8 0 (mx_c0 _ _ _ (ar (ar (ar (ar (ar σ 17 (upd (σ.2 17) (0 : Int32).toNatClampNeg 0)) 18 (upd (σ.2 18) (0 : Int32).toNatClampNeg (fX8_modulo ((σ.2 12) ((σ.2 2) x1.toNatClampNeg).toNatClampNeg) 64))) 19 (upd (σ.2 19) (0 : Int32).toNatClampNeg (-1))) 12 (upd (σ.2 12) ((σ.2 1) x1.toNatClampNeg).toNatClampNeg 0)) 19 (upd (upd (σ.2 19) (0 : Int32).toNatClampNeg (-1)) (0 : Int32).toNatClampNeg (fX8_modulo ((σ.2 4) x1.toNatClampNeg) (σ.1 6))))) rfl 21 (by decide) tb3_225 rfl (v := .ref (a 12)) rfl dX8_plainRun_258 ?_
                      refine j_iconst h (v := 0) dX8_plainRun_261 (by decide) ?_
                      refine j_iald h 12 0 (mx_g12 (σ := (ar (ar (ar (ar (ar σ 17 (upd (σ.2 17) (0 : Int32).toNatClampNeg 0)) 18 (upd (σ.2 18) (0 : Int32).toNatClampNeg (fX8_modulo ((σ.2 12) ((σ.2 2) x1.toNatClampNeg).toNatClampNeg) 64))) 19 (upd (σ.2 19) (0 : Int32).toNatClampNeg (-1))) 12 (upd (σ.2 12) ((σ.2 1) x1.toNatClampNeg).toNatClampNeg 0)) 19 (upd (upd (σ.2 19) (0 : Int32).toNatClampNeg (-1)) (0 : Int32).toNatClampNeg (fX8_modulo ((σ.2 4) x1.toNatClampNeg) (σ.1 6))))) (F := (upd (upd (σ.2 19) (0 : Int32).toNatClampNeg (-1)) (0 : Int32).toNatClampNeg (fX8_modulo ((σ.2 4) x1.toNatClampNeg) (σ.1 6)))) rfl) rfl (vp_in_nI (n := 0) (N := 8) (by decide) (by decide)) dX8_plainRun_262 ?_
                      refine j_eqi (v' := (fX8_modulo ((σ.2 4) x1.toNatClampNeg) (σ.1 6))) pk_us ?_
                      refine j_if_lt h dX8_plainRun_263 (tgt := 271) (by decide) (fun c33 => ?_) (fun c33 => ?_)
                      ·
                        subst hq6
                        have E : fX8_plainRun σ x1 = (ar (ar (ar (ar (ar σ 17 (upd (σ.2 17) (0 : Int32).toNatClampNeg 0)) 18 (upd (σ.2 18) (0 : Int32).toNatClampNeg (fX8_modulo ((σ.2 12) ((σ.2 2) x1.toNatClampNeg).toNatClampNeg) 64))) 19 (upd (σ.2 19) (0 : Int32).toNatClampNeg (-1))) 12 (upd (σ.2 12) ((σ.2 1) x1.toNatClampNeg).toNatClampNeg 0)) 19 (upd (upd (σ.2 19) (0 : Int32).toNatClampNeg (-1)) (0 : Int32).toNatClampNeg (fX8_modulo ((σ.2 4) x1.toNatClampNeg) (σ.1 6)))) := j_ig c1 (j_ig c2 (j_ig c3 (j_ig c4 (j_ig c5 (j_ig c7 (j_ip c21 (j_ig c27 (j_ip c33 rfl))))))))
                        exact j_vreturn h hr (fun _ => 0) (congrArg (mx a cI cZ) E).symm dX8_plainRun_271
                      ·
                        refine j_aload_n h 2 dX8_plainRun_266 rfl rfl ?_
                        refine j_iconst h (v := 1) dX8_plainRun_267 (by decide) ?_
                        refine j_put h iX8 tyX8 tyX8_ok nmX8 0 (mx_c0 _ _ _ (ar (ar (ar (ar (ar σ 17 (upd (σ.2 17) (0 : Int32).toNatClampNeg 0)) 18 (upd (σ.2 18) (0 : Int32).toNatClampNeg (fX8_modulo ((σ.2 12) ((σ.2 2) x1.toNatClampNeg).toNatClampNeg) 64))) 19 (upd (σ.2 19) (0 : Int32).toNatClampNeg (-1))) 12 (upd (σ.2 12) ((σ.2 1) x1.toNatClampNeg).toNatClampNeg 0)) 19 (upd (upd (σ.2 19) (0 : Int32).toNatClampNeg (-1)) (0 : Int32).toNatClampNeg (fX8_modulo ((σ.2 4) x1.toNatClampNeg) (σ.1 6))))) rfl 27 (by decide) tb3_231 rfl rfl rfl rfl (Nat.le_of_ble_eq_true rfl) (w' := (mx a cI cZ (sg (ar (ar (ar (ar (ar σ 17 (upd (σ.2 17) (0 : Int32).toNatClampNeg 0)) 18 (upd (σ.2 18) (0 : Int32).toNatClampNeg (fX8_modulo ((σ.2 12) ((σ.2 2) x1.toNatClampNeg).toNatClampNeg) 64))) 19 (upd (σ.2 19) (0 : Int32).toNatClampNeg (-1))) 12 (upd (σ.2 12) ((σ.2 1) x1.toNatClampNeg).toNatClampNeg 0)) 19 (upd (upd (σ.2 19) (0 : Int32).toNatClampNeg (-1)) (0 : Int32).toNatClampNeg (fX8_modulo ((σ.2 4) x1.toNatClampNeg) (σ.1 6)))) 19 1))) (mx_p0_27 _ _ _ (ar (ar (ar (ar (ar σ 17 (upd (σ.2 17) (0 : Int32).toNatClampNeg 0)) 18 (upd (σ.2 18) (0 : Int32).toNatClampNeg (fX8_modulo ((σ.2 12) ((σ.2 2) x1.toNatClampNeg).toNatClampNeg) 64))) 19 (upd (σ.2 19) (0 : Int32).toNatClampNeg (-1))) 12 (upd (σ.2 12) ((σ.2 1) x1.toNatClampNeg).toNatClampNeg 0)) 19 (upd (upd (σ.2 19) (0 : Int32).toNatClampNeg (-1)) (0 : Int32).toNatClampNeg (fX8_modulo ((σ.2 4) x1.toNatClampNeg) (σ.1 6)))) _) dX8_plainRun_268 ?_
                        subst hq6
                        have E : fX8_plainRun σ x1 = (sg (ar (ar (ar (ar (ar σ 17 (upd (σ.2 17) (0 : Int32).toNatClampNeg 0)) 18 (upd (σ.2 18) (0 : Int32).toNatClampNeg (fX8_modulo ((σ.2 12) ((σ.2 2) x1.toNatClampNeg).toNatClampNeg) 64))) 19 (upd (σ.2 19) (0 : Int32).toNatClampNeg (-1))) 12 (upd (σ.2 12) ((σ.2 1) x1.toNatClampNeg).toNatClampNeg 0)) 19 (upd (upd (σ.2 19) (0 : Int32).toNatClampNeg (-1)) (0 : Int32).toNatClampNeg (fX8_modulo ((σ.2 4) x1.toNatClampNeg) (σ.1 6)))) 19 1) := j_ig c1 (j_ig c2 (j_ig c3 (j_ig c4 (j_ig c5 (j_ig c7 (j_ip c21 (j_ig c27 (j_ig c33 rfl))))))))
                        exact j_vreturn h hr (fun _ => 0) (congrArg (mx a cI cZ) E).symm dX8_plainRun_271
                  ·
                    exact absurd (c21.symm.trans c31) (by decide)
          ·
            refine j_aload_n h 2 dX8_plainRun_154 rfl rfl ?_
            refine j_get h iX8 0 (mx_c0 _ _ _ (ar (ar (ar σ 17 (upd (σ.2 17) (0 : Int32).toNatClampNeg 0)) 18 (upd (σ.2 18) (0 : Int32).toNatClampNeg (fX8_modulo ((σ.2 12) ((σ.2 2) x1.toNatClampNeg).toNatClampNeg) 64))) 19 (upd (σ.2 19) (0 : Int32).toNatClampNeg (-1)))) rfl 19 (by decide) tb3_223 rfl (v := .ref (a 10)) rfl dX8_plainRun_155 ?_
            refine j_iconst h (v := 0) dX8_plainRun_158 (by decide) ?_
            refine j_iload_n h 0 dX8_plainRun_159 rfl rfl ?_
            refine j_iast h 10 0 (mx_g10 (σ := (ar (ar (ar σ 17 (upd (σ.2 17) (0 : Int32).toNatClampNeg 0)) 18 (upd (σ.2 18) (0 : Int32).toNatClampNeg (fX8_modulo ((σ.2 12) ((σ.2 2) x1.toNatClampNeg).toNatClampNeg) 64))) 19 (upd (σ.2 19) (0 : Int32).toNatClampNeg (-1)))) (F := (upd (σ.2 17) (0 : Int32).toNatClampNeg 0)) rfl) rfl (vp_in_nI (n := 0) (N := 8) (by decide) (by decide)) (w' := (mx a cI cZ (ar (ar (ar (ar σ 17 (upd (σ.2 17) (0 : Int32).toNatClampNeg 0)) 18 (upd (σ.2 18) (0 : Int32).toNatClampNeg (fX8_modulo ((σ.2 12) ((σ.2 2) x1.toNatClampNeg).toNatClampNeg) 64))) 19 (upd (σ.2 19) (0 : Int32).toNatClampNeg (-1))) 17 (upd (upd (σ.2 17) (0 : Int32).toNatClampNeg 0) (0 : Int32).toNatClampNeg ((σ.2 12) ((σ.2 3) x1.toNatClampNeg).toNatClampNeg))))) (mx_s10 _ _ _ (ar (ar (ar σ 17 (upd (σ.2 17) (0 : Int32).toNatClampNeg 0)) 18 (upd (σ.2 18) (0 : Int32).toNatClampNeg (fX8_modulo ((σ.2 12) ((σ.2 2) x1.toNatClampNeg).toNatClampNeg) 64))) 19 (upd (σ.2 19) (0 : Int32).toNatClampNeg (-1))) _) dX8_plainRun_160 ?_
            refine j_aload_n h 2 dX8_plainRun_161 rfl rfl ?_
            refine j_get h iX8 0 (mx_c0 _ _ _ (ar (ar (ar (ar σ 17 (upd (σ.2 17) (0 : Int32).toNatClampNeg 0)) 18 (upd (σ.2 18) (0 : Int32).toNatClampNeg (fX8_modulo ((σ.2 12) ((σ.2 2) x1.toNatClampNeg).toNatClampNeg) 64))) 19 (upd (σ.2 19) (0 : Int32).toNatClampNeg (-1))) 17 (upd (upd (σ.2 17) (0 : Int32).toNatClampNeg 0) (0 : Int32).toNatClampNeg ((σ.2 12) ((σ.2 3) x1.toNatClampNeg).toNatClampNeg)))) rfl 23 (by decide) tb3_227 rfl (v := .ref (a 14)) rfl dX8_plainRun_162 ?_
            refine j_aload_n h 2 dX8_plainRun_165 rfl rfl ?_
            refine j_get h iX8 0 (mx_c0 _ _ _ (ar (ar (ar (ar σ 17 (upd (σ.2 17) (0 : Int32).toNatClampNeg 0)) 18 (upd (σ.2 18) (0 : Int32).toNatClampNeg (fX8_modulo ((σ.2 12) ((σ.2 2) x1.toNatClampNeg).toNatClampNeg) 64))) 19 (upd (σ.2 19) (0 : Int32).toNatClampNeg (-1))) 17 (upd (upd (σ.2 17) (0 : Int32).toNatClampNeg 0) (0 : Int32).toNatClampNeg ((σ.2 12) ((σ.2 3) x1.toNatClampNeg).toNatClampNeg)))) rfl 20 (by decide) tb3_224 rfl (v := .ref (a 11)) rfl dX8_plainRun_166 ?_
            refine j_iconst h (v := 0) dX8_plainRun_169 (by decide) ?_
            refine j_iald h 11 0 (mx_g11 (σ := (ar (ar (ar (ar σ 17 (upd (σ.2 17) (0 : Int32).toNatClampNeg 0)) 18 (upd (σ.2 18) (0 : Int32).toNatClampNeg (fX8_modulo ((σ.2 12) ((σ.2 2) x1.toNatClampNeg).toNatClampNeg) 64))) 19 (upd (σ.2 19) (0 : Int32).toNatClampNeg (-1))) 17 (upd (upd (σ.2 17) (0 : Int32).toNatClampNeg 0) (0 : Int32).toNatClampNeg ((σ.2 12) ((σ.2 3) x1.toNatClampNeg).toNatClampNeg)))) (F := (upd (σ.2 18) (0 : Int32).toNatClampNeg (fX8_modulo ((σ.2 12) ((σ.2 2) x1.toNatClampNeg).toNatClampNeg) 64))) rfl) rfl (vp_in_nI (n := 0) (N := 8) (by decide) (by decide)) dX8_plainRun_170 ?_
            refine j_eqi (v' := (fX8_modulo ((σ.2 12) ((σ.2 2) x1.toNatClampNeg).toNatClampNeg) 64)) pk_us ?_
            refine j_iload_n h 0 dX8_plainRun_171 rfl rfl ?_
            refine j_iast h 14 0 (mx_g14 (σ := (ar (ar (ar (ar σ 17 (upd (σ.2 17) (0 : Int32).toNatClampNeg 0)) 18 (upd (σ.2 18) (0 : Int32).toNatClampNeg (fX8_modulo ((σ.2 12) ((σ.2 2) x1.toNatClampNeg).toNatClampNeg) 64))) 19 (upd (σ.2 19) (0 : Int32).toNatClampNeg (-1))) 17 (upd (upd (σ.2 17) (0 : Int32).toNatClampNeg 0) (0 : Int32).toNatClampNeg ((σ.2 12) ((σ.2 3) x1.toNatClampNeg).toNatClampNeg)))) (F := (σ.2 13)) rfl) rfl (m_mod64 _) (w' := (mx a cI cZ (ar (ar (ar (ar (ar σ 17 (upd (σ.2 17) (0 : Int32).toNatClampNeg 0)) 18 (upd (σ.2 18) (0 : Int32).toNatClampNeg (fX8_modulo ((σ.2 12) ((σ.2 2) x1.toNatClampNeg).toNatClampNeg) 64))) 19 (upd (σ.2 19) (0 : Int32).toNatClampNeg (-1))) 17 (upd (upd (σ.2 17) (0 : Int32).toNatClampNeg 0) (0 : Int32).toNatClampNeg ((σ.2 12) ((σ.2 3) x1.toNatClampNeg).toNatClampNeg))) 13 (upd (σ.2 13) (fX8_modulo ((σ.2 12) ((σ.2 2) x1.toNatClampNeg).toNatClampNeg) 64).toNatClampNeg ((σ.2 12) ((σ.2 3) x1.toNatClampNeg).toNatClampNeg))))) (mx_s14 _ _ _ (ar (ar (ar (ar σ 17 (upd (σ.2 17) (0 : Int32).toNatClampNeg 0)) 18 (upd (σ.2 18) (0 : Int32).toNatClampNeg (fX8_modulo ((σ.2 12) ((σ.2 2) x1.toNatClampNeg).toNatClampNeg) 64))) 19 (upd (σ.2 19) (0 : Int32).toNatClampNeg (-1))) 17 (upd (upd (σ.2 17) (0 : Int32).toNatClampNeg 0) (0 : Int32).toNatClampNeg ((σ.2 12) ((σ.2 3) x1.toNatClampNeg).toNatClampNeg))) _) dX8_plainRun_172 ?_
            refine j_aload_n h 2 dX8_plainRun_173 rfl rfl ?_
            refine j_iload_n h 3 dX8_plainRun_174 rfl rfl ?_
            refine j_callVi h (kX8_writes l D a cI cZ (ar (ar (ar (ar (ar σ 17 (upd (σ.2 17) (0 : Int32).toNatClampNeg 0)) 18 (upd (σ.2 18) (0 : Int32).toNatClampNeg (fX8_modulo ((σ.2 12) ((σ.2 2) x1.toNatClampNeg).toNatClampNeg) 64))) 19 (upd (σ.2 19) (0 : Int32).toNatClampNeg (-1))) 17 (upd (upd (σ.2 17) (0 : Int32).toNatClampNeg 0) (0 : Int32).toNatClampNeg ((σ.2 12) ((σ.2 3) x1.toNatClampNeg).toNatClampNeg))) 13 (upd (σ.2 13) (fX8_modulo ((σ.2 12) ((σ.2 2) x1.toNatClampNeg).toNatClampNeg) 64).toNatClampNeg ((σ.2 12) ((σ.2 3) x1.toNatClampNeg).toNatClampNeg))) x1 h1) tb4_134 tb4_136 tp_18 tb1_11 tb4_137 ⟨rfl, rfl⟩ (n := 1) (by decide +kernel) ⟨Nat.le_of_ble_eq_true rfl, Nat.le_of_ble_eq_true rfl⟩ (As := [.int x1]) rfl (ci := 8) (q0 := 0) rfl (mx_c0 _ _ _ (ar (ar (ar (ar (ar σ 17 (upd (σ.2 17) (0 : Int32).toNatClampNeg 0)) 18 (upd (σ.2 18) (0 : Int32).toNatClampNeg (fX8_modulo ((σ.2 12) ((σ.2 2) x1.toNatClampNeg).toNatClampNeg) 64))) 19 (upd (σ.2 19) (0 : Int32).toNatClampNeg (-1))) 17 (upd (upd (σ.2 17) (0 : Int32).toNatClampNeg 0) (0 : Int32).toNatClampNeg ((σ.2 12) ((σ.2 3) x1.toNatClampNeg).toNatClampNeg))) 13 (upd (σ.2 13) (fX8_modulo ((σ.2 12) ((σ.2 2) x1.toNatClampNeg).toNatClampNeg) 64).toNatClampNeg ((σ.2 12) ((σ.2 3) x1.toNatClampNeg).toNatClampNeg)))) (st := []) rfl (Nat.le_of_ble_eq_true rfl) dX8_plainRun_175 ⟨Nat.zero_le _, Nat.zero_le _⟩ ?_
            generalize hq34 : (fX8_writes (ar (ar (ar (ar (ar σ 17 (upd (σ.2 17) (0 : Int32).toNatClampNeg 0)) 18 (upd (σ.2 18) (0 : Int32).toNatClampNeg (fX8_modulo ((σ.2 12) ((σ.2 2) x1.toNatClampNeg).toNatClampNeg) 64))) 19 (upd (σ.2 19) (0 : Int32).toNatClampNeg (-1))) 17 (upd (upd (σ.2 17) (0 : Int32).toNatClampNeg 0) (0 : Int32).toNatClampNeg ((σ.2 12) ((σ.2 3) x1.toNatClampNeg).toNatClampNeg))) 13 (upd (σ.2 13) (fX8_modulo ((σ.2 12) ((σ.2 2) x1.toNatClampNeg).toNatClampNeg) 64).toNatClampNeg ((σ.2 12) ((σ.2 3) x1.toNatClampNeg).toNatClampNeg))) x1) = q34
            refine j_if_eq h dX8_plainRun_178 (tgt := 198) (by decide) (fun c35 => ?_) (fun c35 => ?_)
            ·
              refine j_aload_n h 2 dX8_plainRun_198 rfl rfl ?_
              refine j_get h iX8 0 (mx_c0 _ _ _ (ar (ar (ar (ar (ar σ 17 (upd (σ.2 17) (0 : Int32).toNatClampNeg 0)) 18 (upd (σ.2 18) (0 : Int32).toNatClampNeg (fX8_modulo ((σ.2 12) ((σ.2 2) x1.toNatClampNeg).toNatClampNeg) 64))) 19 (upd (σ.2 19) (0 : Int32).toNatClampNeg (-1))) 17 (upd (upd (σ.2 17) (0 : Int32).toNatClampNeg 0) (0 : Int32).toNatClampNeg ((σ.2 12) ((σ.2 3) x1.toNatClampNeg).toNatClampNeg))) 13 (upd (σ.2 13) (fX8_modulo ((σ.2 12) ((σ.2 2) x1.toNatClampNeg).toNatClampNeg) 64).toNatClampNeg ((σ.2 12) ((σ.2 3) x1.toNatClampNeg).toNatClampNeg)))) rfl 10 (by decide) tb3_214 rfl (v := .ref (a 1)) rfl dX8_plainRun_199 ?_
              refine j_iload_n h 3 dX8_plainRun_202 rfl rfl ?_
              refine j_iald h 1 0 (mx_g1 (σ := (ar (ar (ar (ar (ar σ 17 (upd (σ.2 17) (0 : Int32).toNatClampNeg 0)) 18 (upd (σ.2 18) (0 : Int32).toNatClampNeg (fX8_modulo ((σ.2 12) ((σ.2 2) x1.toNatClampNeg).toNatClampNeg) 64))) 19 (upd (σ.2 19) (0 : Int32).toNatClampNeg (-1))) 17 (upd (upd (σ.2 17) (0 : Int32).toNatClampNeg 0) (0 : Int32).toNatClampNeg ((σ.2 12) ((σ.2 3) x1.toNatClampNeg).toNatClampNeg))) 13 (upd (σ.2 13) (fX8_modulo ((σ.2 12) ((σ.2 2) x1.toNatClampNeg).toNatClampNeg) 64).toNatClampNeg ((σ.2 12) ((σ.2 3) x1.toNatClampNeg).toNatClampNeg)))) (F := (σ.2 0)) rfl) rfl h1 dX8_plainRun_203 ?_
              refine j_iconst h (v := 4) dX8_plainRun_204 (by decide) ?_
              refine j_icmp_ne h dX8_plainRun_205 (tgt := 231) (by decide) (fun c36 => ?_) (fun c36 => ?_)
              ·
                refine j_aload_n h 2 dX8_plainRun_231 rfl rfl ?_
                refine j_get h iX8 0 (mx_c0 _ _ _ (ar (ar (ar (ar (ar σ 17 (upd (σ.2 17) (0 : Int32).toNatClampNeg 0)) 18 (upd (σ.2 18) (0 : Int32).toNatClampNeg (fX8_modulo ((σ.2 12) ((σ.2 2) x1.toNatClampNeg).toNatClampNeg) 64))) 19 (upd (σ.2 19) (0 : Int32).toNatClampNeg (-1))) 17 (upd (upd (σ.2 17) (0 : Int32).toNatClampNeg 0) (0 : Int32).toNatClampNeg ((σ.2 12) ((σ.2 3) x1.toNatClampNeg).toNatClampNeg))) 13 (upd (σ.2 13) (fX8_modulo ((σ.2 12) ((σ.2 2) x1.toNatClampNeg).toNatClampNeg) 64).toNatClampNeg ((σ.2 12) ((σ.2 3) x1.toNatClampNeg).toNatClampNeg)))) rfl 10 (by decide) tb3_214 rfl (v := .ref (a 1)) rfl dX8_plainRun_232 ?_
                refine j_iload_n h 3 dX8_plainRun_235 rfl rfl ?_
                refine j_iald h 1 0 (mx_g1 (σ := (ar (ar (ar (ar (ar σ 17 (upd (σ.2 17) (0 : Int32).toNatClampNeg 0)) 18 (upd (σ.2 18) (0 : Int32).toNatClampNeg (fX8_modulo ((σ.2 12) ((σ.2 2) x1.toNatClampNeg).toNatClampNeg) 64))) 19 (upd (σ.2 19) (0 : Int32).toNatClampNeg (-1))) 17 (upd (upd (σ.2 17) (0 : Int32).toNatClampNeg 0) (0 : Int32).toNatClampNeg ((σ.2 12) ((σ.2 3) x1.toNatClampNeg).toNatClampNeg))) 13 (upd (σ.2 13) (fX8_modulo ((σ.2 12) ((σ.2 2) x1.toNatClampNeg).toNatClampNeg) 64).toNatClampNeg ((σ.2 12) ((σ.2 3) x1.toNatClampNeg).toNatClampNeg)))) (F := (σ.2 0)) rfl) rfl h1 dX8_plainRun_236 ?_
                refine j_bipush h (v := 6) dX8_plainRun_237 (by decide) ?_
                refine j_icmp_ne h dX8_plainRun_239 (tgt := 247) (by decide) (fun c37 => ?_) (fun c37 => ?_)
                ·
                  refine j_aload_n h 2 dX8_plainRun_247 rfl rfl ?_
                  refine j_get h iX8 0 (mx_c0 _ _ _ (ar (ar (ar (ar (ar σ 17 (upd (σ.2 17) (0 : Int32).toNatClampNeg 0)) 18 (upd (σ.2 18) (0 : Int32).toNatClampNeg (fX8_modulo ((σ.2 12) ((σ.2 2) x1.toNatClampNeg).toNatClampNeg) 64))) 19 (upd (σ.2 19) (0 : Int32).toNatClampNeg (-1))) 17 (upd (upd (σ.2 17) (0 : Int32).toNatClampNeg 0) (0 : Int32).toNatClampNeg ((σ.2 12) ((σ.2 3) x1.toNatClampNeg).toNatClampNeg))) 13 (upd (σ.2 13) (fX8_modulo ((σ.2 12) ((σ.2 2) x1.toNatClampNeg).toNatClampNeg) 64).toNatClampNeg ((σ.2 12) ((σ.2 3) x1.toNatClampNeg).toNatClampNeg)))) rfl 10 (by decide) tb3_214 rfl (v := .ref (a 1)) rfl dX8_plainRun_248 ?_
                  refine j_iload_n h 3 dX8_plainRun_251 rfl rfl ?_
                  refine j_iald h 1 0 (mx_g1 (σ := (ar (ar (ar (ar (ar σ 17 (upd (σ.2 17) (0 : Int32).toNatClampNeg 0)) 18 (upd (σ.2 18) (0 : Int32).toNatClampNeg (fX8_modulo ((σ.2 12) ((σ.2 2) x1.toNatClampNeg).toNatClampNeg) 64))) 19 (upd (σ.2 19) (0 : Int32).toNatClampNeg (-1))) 17 (upd (upd (σ.2 17) (0 : Int32).toNatClampNeg 0) (0 : Int32).toNatClampNeg ((σ.2 12) ((σ.2 3) x1.toNatClampNeg).toNatClampNeg))) 13 (upd (σ.2 13) (fX8_modulo ((σ.2 12) ((σ.2 2) x1.toNatClampNeg).toNatClampNeg) 64).toNatClampNeg ((σ.2 12) ((σ.2 3) x1.toNatClampNeg).toNatClampNeg)))) (F := (σ.2 0)) rfl) rfl h1 dX8_plainRun_252 ?_
                  refine j_iconst h (v := 5) dX8_plainRun_253 (by decide) ?_
                  refine j_icmp_eq h dX8_plainRun_254 (tgt := 266) (by decide) (fun c38 => ?_) (fun c38 => ?_)
                  ·
                    exact absurd (c5.symm.trans c38) (by decide)
                  ·
                    refine j_aload_n h 2 dX8_plainRun_257 rfl rfl ?_
                    refine j_get h iX8 0 (mx_c0 _ _ _ (ar (ar (ar (ar (ar σ 17 (upd (σ.2 17) (0 : Int32).toNatClampNeg 0)) 18 (upd (σ.2 18) (0 : Int32).toNatClampNeg (fX8_modulo ((σ.2 12) ((σ.2 2) x1.toNatClampNeg).toNatClampNeg) 64))) 19 (upd (σ.2 19) (0 : Int32).toNatClampNeg (-1))) 17 (upd (upd (σ.2 17) (0 : Int32).toNatClampNeg 0) (0 : Int32).toNatClampNeg ((σ.2 12) ((σ.2 3) x1.toNatClampNeg).toNatClampNeg))) 13 (upd (σ.2 13) (fX8_modulo ((σ.2 12) ((σ.2 2) x1.toNatClampNeg).toNatClampNeg) 64).toNatClampNeg ((σ.2 12) ((σ.2 3) x1.toNatClampNeg).toNatClampNeg)))) rfl 21 (by decide) tb3_225 rfl (v := .ref (a 12)) rfl dX8_plainRun_258 ?_
                    refine j_iconst h (v := 0) dX8_plainRun_261 (by decide) ?_
                    refine j_iald h 12 0 (mx_g12 (σ := (ar (ar (ar (ar (ar σ 17 (upd (σ.2 17) (0 : Int32).toNatClampNeg 0)) 18 (upd (σ.2 18) (0 : Int32).toNatClampNeg (fX8_modulo ((σ.2 12) ((σ.2 2) x1.toNatClampNeg).toNatClampNeg) 64))) 19 (upd (σ.2 19) (0 : Int32).toNatClampNeg (-1))) 17 (upd (upd (σ.2 17) (0 : Int32).toNatClampNeg 0) (0 : Int32).toNatClampNeg ((σ.2 12) ((σ.2 3) x1.toNatClampNeg).toNatClampNeg))) 13 (upd (σ.2 13) (fX8_modulo ((σ.2 12) ((σ.2 2) x1.toNatClampNeg).toNatClampNeg) 64).toNatClampNeg ((σ.2 12) ((σ.2 3) x1.toNatClampNeg).toNatClampNeg)))) (F := (upd (σ.2 19) (0 : Int32).toNatClampNeg (-1))) rfl) rfl (vp_in_nI (n := 0) (N := 8) (by decide) (by decide)) dX8_plainRun_262 ?_
                    refine j_eqi (v' := (-1)) pk_us ?_
                    refine j_if_lt h dX8_plainRun_263 (tgt := 271) (by decide) (fun c39 => ?_) (fun c39 => ?_)
                    ·
                      subst hq34
                      have E : fX8_plainRun σ x1 = (ar (ar (ar (ar (ar σ 17 (upd (σ.2 17) (0 : Int32).toNatClampNeg 0)) 18 (upd (σ.2 18) (0 : Int32).toNatClampNeg (fX8_modulo ((σ.2 12) ((σ.2 2) x1.toNatClampNeg).toNatClampNeg) 64))) 19 (upd (σ.2 19) (0 : Int32).toNatClampNeg (-1))) 17 (upd (upd (σ.2 17) (0 : Int32).toNatClampNeg 0) (0 : Int32).toNatClampNeg ((σ.2 12) ((σ.2 3) x1.toNatClampNeg).toNatClampNeg))) 13 (upd (σ.2 13) (fX8_modulo ((σ.2 12) ((σ.2 2) x1.toNatClampNeg).toNatClampNeg) 64).toNatClampNeg ((σ.2 12) ((σ.2 3) x1.toNatClampNeg).toNatClampNeg))) := j_ig c1 (j_ig c2 (j_ig c3 (j_ig c4 (j_ip c5 (j_ip c35 rfl)))))
                      exact j_vreturn h hr (fun _ => 0) (congrArg (mx a cI cZ) E).symm dX8_plainRun_271
                    ·
                      exact absurd c39 (by decide)
                ·
                  exact absurd (c5.symm.trans c37) (by decide)
              ·
                exact absurd (c5.symm.trans c36) (by decide)
            ·
              refine j_aload_n h 2 dX8_plainRun_181 rfl rfl ?_
              refine j_get h iX8 0 (mx_c0 _ _ _ (ar (ar (ar (ar (ar σ 17 (upd (σ.2 17) (0 : Int32).toNatClampNeg 0)) 18 (upd (σ.2 18) (0 : Int32).toNatClampNeg (fX8_modulo ((σ.2 12) ((σ.2 2) x1.toNatClampNeg).toNatClampNeg) 64))) 19 (upd (σ.2 19) (0 : Int32).toNatClampNeg (-1))) 17 (upd (upd (σ.2 17) (0 : Int32).toNatClampNeg 0) (0 : Int32).toNatClampNeg ((σ.2 12) ((σ.2 3) x1.toNatClampNeg).toNatClampNeg))) 13 (upd (σ.2 13) (fX8_modulo ((σ.2 12) ((σ.2 2) x1.toNatClampNeg).toNatClampNeg) 64).toNatClampNeg ((σ.2 12) ((σ.2 3) x1.toNatClampNeg).toNatClampNeg)))) rfl 22 (by decide) tb3_226 rfl (v := .ref (a 13)) rfl dX8_plainRun_182 ?_
              refine j_aload_n h 2 dX8_plainRun_185 rfl rfl ?_
              refine j_get h iX8 0 (mx_c0 _ _ _ (ar (ar (ar (ar (ar σ 17 (upd (σ.2 17) (0 : Int32).toNatClampNeg 0)) 18 (upd (σ.2 18) (0 : Int32).toNatClampNeg (fX8_modulo ((σ.2 12) ((σ.2 2) x1.toNatClampNeg).toNatClampNeg) 64))) 19 (upd (σ.2 19) (0 : Int32).toNatClampNeg (-1))) 17 (upd (upd (σ.2 17) (0 : Int32).toNatClampNeg 0) (0 : Int32).toNatClampNeg ((σ.2 12) ((σ.2 3) x1.toNatClampNeg).toNatClampNeg))) 13 (upd (σ.2 13) (fX8_modulo ((σ.2 12) ((σ.2 2) x1.toNatClampNeg).toNatClampNeg) 64).toNatClampNeg ((σ.2 12) ((σ.2 3) x1.toNatClampNeg).toNatClampNeg)))) rfl 11 (by decide) tb3_215 rfl (v := .ref (a 2)) rfl dX8_plainRun_186 ?_
              refine j_iload_n h 3 dX8_plainRun_189 rfl rfl ?_
              refine j_iald h 2 0 (mx_g2 (σ := (ar (ar (ar (ar (ar σ 17 (upd (σ.2 17) (0 : Int32).toNatClampNeg 0)) 18 (upd (σ.2 18) (0 : Int32).toNatClampNeg (fX8_modulo ((σ.2 12) ((σ.2 2) x1.toNatClampNeg).toNatClampNeg) 64))) 19 (upd (σ.2 19) (0 : Int32).toNatClampNeg (-1))) 17 (upd (upd (σ.2 17) (0 : Int32).toNatClampNeg 0) (0 : Int32).toNatClampNeg ((σ.2 12) ((σ.2 3) x1.toNatClampNeg).toNatClampNeg))) 13 (upd (σ.2 13) (fX8_modulo ((σ.2 12) ((σ.2 2) x1.toNatClampNeg).toNatClampNeg) 64).toNatClampNeg ((σ.2 12) ((σ.2 3) x1.toNatClampNeg).toNatClampNeg)))) (F := (σ.2 1)) rfl) rfl h1 dX8_plainRun_190 ?_
              refine j_aload_n h 2 dX8_plainRun_191 rfl rfl ?_
              refine j_get h iX8 0 (mx_c0 _ _ _ (ar (ar (ar (ar (ar σ 17 (upd (σ.2 17) (0 : Int32).toNatClampNeg 0)) 18 (upd (σ.2 18) (0 : Int32).toNatClampNeg (fX8_modulo ((σ.2 12) ((σ.2 2) x1.toNatClampNeg).toNatClampNeg) 64))) 19 (upd (σ.2 19) (0 : Int32).toNatClampNeg (-1))) 17 (upd (upd (σ.2 17) (0 : Int32).toNatClampNeg 0) (0 : Int32).toNatClampNeg ((σ.2 12) ((σ.2 3) x1.toNatClampNeg).toNatClampNeg))) 13 (upd (σ.2 13) (fX8_modulo ((σ.2 12) ((σ.2 2) x1.toNatClampNeg).toNatClampNeg) 64).toNatClampNeg ((σ.2 12) ((σ.2 3) x1.toNatClampNeg).toNatClampNeg)))) rfl 19 (by decide) tb3_223 rfl (v := .ref (a 10)) rfl dX8_plainRun_192 ?_
              refine j_iconst h (v := 0) dX8_plainRun_195 (by decide) ?_
              refine j_iald h 10 0 (mx_g10 (σ := (ar (ar (ar (ar (ar σ 17 (upd (σ.2 17) (0 : Int32).toNatClampNeg 0)) 18 (upd (σ.2 18) (0 : Int32).toNatClampNeg (fX8_modulo ((σ.2 12) ((σ.2 2) x1.toNatClampNeg).toNatClampNeg) 64))) 19 (upd (σ.2 19) (0 : Int32).toNatClampNeg (-1))) 17 (upd (upd (σ.2 17) (0 : Int32).toNatClampNeg 0) (0 : Int32).toNatClampNeg ((σ.2 12) ((σ.2 3) x1.toNatClampNeg).toNatClampNeg))) 13 (upd (σ.2 13) (fX8_modulo ((σ.2 12) ((σ.2 2) x1.toNatClampNeg).toNatClampNeg) 64).toNatClampNeg ((σ.2 12) ((σ.2 3) x1.toNatClampNeg).toNatClampNeg)))) (F := (upd (upd (σ.2 17) (0 : Int32).toNatClampNeg 0) (0 : Int32).toNatClampNeg ((σ.2 12) ((σ.2 3) x1.toNatClampNeg).toNatClampNeg))) rfl) rfl (vp_in_nI (n := 0) (N := 8) (by decide) (by decide)) dX8_plainRun_196 ?_
              refine j_eqi (v' := ((σ.2 12) ((σ.2 3) x1.toNatClampNeg).toNatClampNeg)) pk_us ?_
              refine j_iast h 13 0 (mx_g13 (σ := (ar (ar (ar (ar (ar σ 17 (upd (σ.2 17) (0 : Int32).toNatClampNeg 0)) 18 (upd (σ.2 18) (0 : Int32).toNatClampNeg (fX8_modulo ((σ.2 12) ((σ.2 2) x1.toNatClampNeg).toNatClampNeg) 64))) 19 (upd (σ.2 19) (0 : Int32).toNatClampNeg (-1))) 17 (upd (upd (σ.2 17) (0 : Int32).toNatClampNeg 0) (0 : Int32).toNatClampNeg ((σ.2 12) ((σ.2 3) x1.toNatClampNeg).toNatClampNeg))) 13 (upd (σ.2 13) (fX8_modulo ((σ.2 12) ((σ.2 2) x1.toNatClampNeg).toNatClampNeg) 64).toNatClampNeg ((σ.2 12) ((σ.2 3) x1.toNatClampNeg).toNatClampNeg)))) (F := (σ.2 12)) rfl) rfl (hR _ (m_cl h1 (by decide))).1 (w' := (mx a cI cZ (ar (ar (ar (ar (ar (ar σ 17 (upd (σ.2 17) (0 : Int32).toNatClampNeg 0)) 18 (upd (σ.2 18) (0 : Int32).toNatClampNeg (fX8_modulo ((σ.2 12) ((σ.2 2) x1.toNatClampNeg).toNatClampNeg) 64))) 19 (upd (σ.2 19) (0 : Int32).toNatClampNeg (-1))) 17 (upd (upd (σ.2 17) (0 : Int32).toNatClampNeg 0) (0 : Int32).toNatClampNeg ((σ.2 12) ((σ.2 3) x1.toNatClampNeg).toNatClampNeg))) 13 (upd (σ.2 13) (fX8_modulo ((σ.2 12) ((σ.2 2) x1.toNatClampNeg).toNatClampNeg) 64).toNatClampNeg ((σ.2 12) ((σ.2 3) x1.toNatClampNeg).toNatClampNeg))) 12 (upd (σ.2 12) ((σ.2 1) x1.toNatClampNeg).toNatClampNeg ((σ.2 12) ((σ.2 3) x1.toNatClampNeg).toNatClampNeg))))) (mx_s13 _ _ _ (ar (ar (ar (ar (ar σ 17 (upd (σ.2 17) (0 : Int32).toNatClampNeg 0)) 18 (upd (σ.2 18) (0 : Int32).toNatClampNeg (fX8_modulo ((σ.2 12) ((σ.2 2) x1.toNatClampNeg).toNatClampNeg) 64))) 19 (upd (σ.2 19) (0 : Int32).toNatClampNeg (-1))) 17 (upd (upd (σ.2 17) (0 : Int32).toNatClampNeg 0) (0 : Int32).toNatClampNeg ((σ.2 12) ((σ.2 3) x1.toNatClampNeg).toNatClampNeg))) 13 (upd (σ.2 13) (fX8_modulo ((σ.2 12) ((σ.2 2) x1.toNatClampNeg).toNatClampNeg) 64).toNatClampNeg ((σ.2 12) ((σ.2 3) x1.toNatClampNeg).toNatClampNeg))) _) dX8_plainRun_197 ?_
              refine j_aload_n h 2 dX8_plainRun_198 rfl rfl ?_
              refine j_get h iX8 0 (mx_c0 _ _ _ (ar (ar (ar (ar (ar (ar σ 17 (upd (σ.2 17) (0 : Int32).toNatClampNeg 0)) 18 (upd (σ.2 18) (0 : Int32).toNatClampNeg (fX8_modulo ((σ.2 12) ((σ.2 2) x1.toNatClampNeg).toNatClampNeg) 64))) 19 (upd (σ.2 19) (0 : Int32).toNatClampNeg (-1))) 17 (upd (upd (σ.2 17) (0 : Int32).toNatClampNeg 0) (0 : Int32).toNatClampNeg ((σ.2 12) ((σ.2 3) x1.toNatClampNeg).toNatClampNeg))) 13 (upd (σ.2 13) (fX8_modulo ((σ.2 12) ((σ.2 2) x1.toNatClampNeg).toNatClampNeg) 64).toNatClampNeg ((σ.2 12) ((σ.2 3) x1.toNatClampNeg).toNatClampNeg))) 12 (upd (σ.2 12) ((σ.2 1) x1.toNatClampNeg).toNatClampNeg ((σ.2 12) ((σ.2 3) x1.toNatClampNeg).toNatClampNeg)))) rfl 10 (by decide) tb3_214 rfl (v := .ref (a 1)) rfl dX8_plainRun_199 ?_
              refine j_iload_n h 3 dX8_plainRun_202 rfl rfl ?_
              refine j_iald h 1 0 (mx_g1 (σ := (ar (ar (ar (ar (ar (ar σ 17 (upd (σ.2 17) (0 : Int32).toNatClampNeg 0)) 18 (upd (σ.2 18) (0 : Int32).toNatClampNeg (fX8_modulo ((σ.2 12) ((σ.2 2) x1.toNatClampNeg).toNatClampNeg) 64))) 19 (upd (σ.2 19) (0 : Int32).toNatClampNeg (-1))) 17 (upd (upd (σ.2 17) (0 : Int32).toNatClampNeg 0) (0 : Int32).toNatClampNeg ((σ.2 12) ((σ.2 3) x1.toNatClampNeg).toNatClampNeg))) 13 (upd (σ.2 13) (fX8_modulo ((σ.2 12) ((σ.2 2) x1.toNatClampNeg).toNatClampNeg) 64).toNatClampNeg ((σ.2 12) ((σ.2 3) x1.toNatClampNeg).toNatClampNeg))) 12 (upd (σ.2 12) ((σ.2 1) x1.toNatClampNeg).toNatClampNeg ((σ.2 12) ((σ.2 3) x1.toNatClampNeg).toNatClampNeg)))) (F := (σ.2 0)) rfl) rfl h1 dX8_plainRun_203 ?_
              refine j_iconst h (v := 4) dX8_plainRun_204 (by decide) ?_
              refine j_icmp_ne h dX8_plainRun_205 (tgt := 231) (by decide) (fun c40 => ?_) (fun c40 => ?_)
              ·
                refine j_aload_n h 2 dX8_plainRun_231 rfl rfl ?_
                refine j_get h iX8 0 (mx_c0 _ _ _ (ar (ar (ar (ar (ar (ar σ 17 (upd (σ.2 17) (0 : Int32).toNatClampNeg 0)) 18 (upd (σ.2 18) (0 : Int32).toNatClampNeg (fX8_modulo ((σ.2 12) ((σ.2 2) x1.toNatClampNeg).toNatClampNeg) 64))) 19 (upd (σ.2 19) (0 : Int32).toNatClampNeg (-1))) 17 (upd (upd (σ.2 17) (0 : Int32).toNatClampNeg 0) (0 : Int32).toNatClampNeg ((σ.2 12) ((σ.2 3) x1.toNatClampNeg).toNatClampNeg))) 13 (upd (σ.2 13) (fX8_modulo ((σ.2 12) ((σ.2 2) x1.toNatClampNeg).toNatClampNeg) 64).toNatClampNeg ((σ.2 12) ((σ.2 3) x1.toNatClampNeg).toNatClampNeg))) 12 (upd (σ.2 12) ((σ.2 1) x1.toNatClampNeg).toNatClampNeg ((σ.2 12) ((σ.2 3) x1.toNatClampNeg).toNatClampNeg)))) rfl 10 (by decide) tb3_214 rfl (v := .ref (a 1)) rfl dX8_plainRun_232 ?_
                refine j_iload_n h 3 dX8_plainRun_235 rfl rfl ?_
                refine j_iald h 1 0 (mx_g1 (σ := (ar (ar (ar (ar (ar (ar σ 17 (upd (σ.2 17) (0 : Int32).toNatClampNeg 0)) 18 (upd (σ.2 18) (0 : Int32).toNatClampNeg (fX8_modulo ((σ.2 12) ((σ.2 2) x1.toNatClampNeg).toNatClampNeg) 64))) 19 (upd (σ.2 19) (0 : Int32).toNatClampNeg (-1))) 17 (upd (upd (σ.2 17) (0 : Int32).toNatClampNeg 0) (0 : Int32).toNatClampNeg ((σ.2 12) ((σ.2 3) x1.toNatClampNeg).toNatClampNeg))) 13 (upd (σ.2 13) (fX8_modulo ((σ.2 12) ((σ.2 2) x1.toNatClampNeg).toNatClampNeg) 64).toNatClampNeg ((σ.2 12) ((σ.2 3) x1.toNatClampNeg).toNatClampNeg))) 12 (upd (σ.2 12) ((σ.2 1) x1.toNatClampNeg).toNatClampNeg ((σ.2 12) ((σ.2 3) x1.toNatClampNeg).toNatClampNeg)))) (F := (σ.2 0)) rfl) rfl h1 dX8_plainRun_236 ?_
                refine j_bipush h (v := 6) dX8_plainRun_237 (by decide) ?_
                refine j_icmp_ne h dX8_plainRun_239 (tgt := 247) (by decide) (fun c41 => ?_) (fun c41 => ?_)
                ·
                  refine j_aload_n h 2 dX8_plainRun_247 rfl rfl ?_
                  refine j_get h iX8 0 (mx_c0 _ _ _ (ar (ar (ar (ar (ar (ar σ 17 (upd (σ.2 17) (0 : Int32).toNatClampNeg 0)) 18 (upd (σ.2 18) (0 : Int32).toNatClampNeg (fX8_modulo ((σ.2 12) ((σ.2 2) x1.toNatClampNeg).toNatClampNeg) 64))) 19 (upd (σ.2 19) (0 : Int32).toNatClampNeg (-1))) 17 (upd (upd (σ.2 17) (0 : Int32).toNatClampNeg 0) (0 : Int32).toNatClampNeg ((σ.2 12) ((σ.2 3) x1.toNatClampNeg).toNatClampNeg))) 13 (upd (σ.2 13) (fX8_modulo ((σ.2 12) ((σ.2 2) x1.toNatClampNeg).toNatClampNeg) 64).toNatClampNeg ((σ.2 12) ((σ.2 3) x1.toNatClampNeg).toNatClampNeg))) 12 (upd (σ.2 12) ((σ.2 1) x1.toNatClampNeg).toNatClampNeg ((σ.2 12) ((σ.2 3) x1.toNatClampNeg).toNatClampNeg)))) rfl 10 (by decide) tb3_214 rfl (v := .ref (a 1)) rfl dX8_plainRun_248 ?_
                  refine j_iload_n h 3 dX8_plainRun_251 rfl rfl ?_
                  refine j_iald h 1 0 (mx_g1 (σ := (ar (ar (ar (ar (ar (ar σ 17 (upd (σ.2 17) (0 : Int32).toNatClampNeg 0)) 18 (upd (σ.2 18) (0 : Int32).toNatClampNeg (fX8_modulo ((σ.2 12) ((σ.2 2) x1.toNatClampNeg).toNatClampNeg) 64))) 19 (upd (σ.2 19) (0 : Int32).toNatClampNeg (-1))) 17 (upd (upd (σ.2 17) (0 : Int32).toNatClampNeg 0) (0 : Int32).toNatClampNeg ((σ.2 12) ((σ.2 3) x1.toNatClampNeg).toNatClampNeg))) 13 (upd (σ.2 13) (fX8_modulo ((σ.2 12) ((σ.2 2) x1.toNatClampNeg).toNatClampNeg) 64).toNatClampNeg ((σ.2 12) ((σ.2 3) x1.toNatClampNeg).toNatClampNeg))) 12 (upd (σ.2 12) ((σ.2 1) x1.toNatClampNeg).toNatClampNeg ((σ.2 12) ((σ.2 3) x1.toNatClampNeg).toNatClampNeg)))) (F := (σ.2 0)) rfl) rfl h1 dX8_plainRun_252 ?_
                  refine j_iconst h (v := 5) dX8_plainRun_253 (by decide) ?_
                  refine j_icmp_eq h dX8_plainRun_254 (tgt := 266) (by decide) (fun c42 => ?_) (fun c42 => ?_)
                  ·
                    exact absurd (c5.symm.trans c42) (by decide)
                  ·
                    refine j_aload_n h 2 dX8_plainRun_257 rfl rfl ?_
                    refine j_get h iX8 0 (mx_c0 _ _ _ (ar (ar (ar (ar (ar (ar σ 17 (upd (σ.2 17) (0 : Int32).toNatClampNeg 0)) 18 (upd (σ.2 18) (0 : Int32).toNatClampNeg (fX8_modulo ((σ.2 12) ((σ.2 2) x1.toNatClampNeg).toNatClampNeg) 64))) 19 (upd (σ.2 19) (0 : Int32).toNatClampNeg (-1))) 17 (upd (upd (σ.2 17) (0 : Int32).toNatClampNeg 0) (0 : Int32).toNatClampNeg ((σ.2 12) ((σ.2 3) x1.toNatClampNeg).toNatClampNeg))) 13 (upd (σ.2 13) (fX8_modulo ((σ.2 12) ((σ.2 2) x1.toNatClampNeg).toNatClampNeg) 64).toNatClampNeg ((σ.2 12) ((σ.2 3) x1.toNatClampNeg).toNatClampNeg))) 12 (upd (σ.2 12) ((σ.2 1) x1.toNatClampNeg).toNatClampNeg ((σ.2 12) ((σ.2 3) x1.toNatClampNeg).toNatClampNeg)))) rfl 21 (by decide) tb3_225 rfl (v := .ref (a 12)) rfl dX8_plainRun_258 ?_
                    refine j_iconst h (v := 0) dX8_plainRun_261 (by decide) ?_
                    refine j_iald h 12 0 (mx_g12 (σ := (ar (ar (ar (ar (ar (ar σ 17 (upd (σ.2 17) (0 : Int32).toNatClampNeg 0)) 18 (upd (σ.2 18) (0 : Int32).toNatClampNeg (fX8_modulo ((σ.2 12) ((σ.2 2) x1.toNatClampNeg).toNatClampNeg) 64))) 19 (upd (σ.2 19) (0 : Int32).toNatClampNeg (-1))) 17 (upd (upd (σ.2 17) (0 : Int32).toNatClampNeg 0) (0 : Int32).toNatClampNeg ((σ.2 12) ((σ.2 3) x1.toNatClampNeg).toNatClampNeg))) 13 (upd (σ.2 13) (fX8_modulo ((σ.2 12) ((σ.2 2) x1.toNatClampNeg).toNatClampNeg) 64).toNatClampNeg ((σ.2 12) ((σ.2 3) x1.toNatClampNeg).toNatClampNeg))) 12 (upd (σ.2 12) ((σ.2 1) x1.toNatClampNeg).toNatClampNeg ((σ.2 12) ((σ.2 3) x1.toNatClampNeg).toNatClampNeg)))) (F := (upd (σ.2 19) (0 : Int32).toNatClampNeg (-1))) rfl) rfl (vp_in_nI (n := 0) (N := 8) (by decide) (by decide)) dX8_plainRun_262 ?_
                    refine j_eqi (v' := (-1)) pk_us ?_
                    refine j_if_lt h dX8_plainRun_263 (tgt := 271) (by decide) (fun c43 => ?_) (fun c43 => ?_)
                    ·
                      subst hq34
                      have E : fX8_plainRun σ x1 = (ar (ar (ar (ar (ar (ar σ 17 (upd (σ.2 17) (0 : Int32).toNatClampNeg 0)) 18 (upd (σ.2 18) (0 : Int32).toNatClampNeg (fX8_modulo ((σ.2 12) ((σ.2 2) x1.toNatClampNeg).toNatClampNeg) 64))) 19 (upd (σ.2 19) (0 : Int32).toNatClampNeg (-1))) 17 (upd (upd (σ.2 17) (0 : Int32).toNatClampNeg 0) (0 : Int32).toNatClampNeg ((σ.2 12) ((σ.2 3) x1.toNatClampNeg).toNatClampNeg))) 13 (upd (σ.2 13) (fX8_modulo ((σ.2 12) ((σ.2 2) x1.toNatClampNeg).toNatClampNeg) 64).toNatClampNeg ((σ.2 12) ((σ.2 3) x1.toNatClampNeg).toNatClampNeg))) 12 (upd (σ.2 12) ((σ.2 1) x1.toNatClampNeg).toNatClampNeg ((σ.2 12) ((σ.2 3) x1.toNatClampNeg).toNatClampNeg))) := j_ig c1 (j_ig c2 (j_ig c3 (j_ig c4 (j_ip c5 (j_ig c35 rfl)))))
                      exact j_vreturn h hr (fun _ => 0) (congrArg (mx a cI cZ) E).symm dX8_plainRun_271
                    ·
                      exact absurd c43 (by decide)
                ·
                  exact absurd (c5.symm.trans c41) (by decide)
              ·
                exact absurd (c5.symm.trans c40) (by decide)
        ·
          refine j_aload_n h 2 dX8_plainRun_132 rfl rfl ?_
          refine j_get h iX8 0 (mx_c0 _ _ _ (ar (ar (ar σ 17 (upd (σ.2 17) (0 : Int32).toNatClampNeg 0)) 18 (upd (σ.2 18) (0 : Int32).toNatClampNeg (fX8_modulo ((σ.2 12) ((σ.2 2) x1.toNatClampNeg).toNatClampNeg) 64))) 19 (upd (σ.2 19) (0 : Int32).toNatClampNeg (-1)))) rfl 19 (by decide) tb3_223 rfl (v := .ref (a 10)) rfl dX8_plainRun_133 ?_
          refine j_iconst h (v := 0) dX8_plainRun_136 (by decide) ?_
          refine j_aload_n h 2 dX8_plainRun_137 rfl rfl ?_
          refine j_get h iX8 0 (mx_c0 _ _ _ (ar (ar (ar σ 17 (upd (σ.2 17) (0 : Int32).toNatClampNeg 0)) 18 (upd (σ.2 18) (0 : Int32).toNatClampNeg (fX8_modulo ((σ.2 12) ((σ.2 2) x1.toNatClampNeg).toNatClampNeg) 64))) 19 (upd (σ.2 19) (0 : Int32).toNatClampNeg (-1)))) rfl 14 (by decide) tb3_218 rfl (v := .ref (a 5)) rfl dX8_plainRun_138 ?_
          refine j_iload_n h 3 dX8_plainRun_141 rfl rfl ?_
          refine j_iald h 5 0 (mx_g5 (σ := (ar (ar (ar σ 17 (upd (σ.2 17) (0 : Int32).toNatClampNeg 0)) 18 (upd (σ.2 18) (0 : Int32).toNatClampNeg (fX8_modulo ((σ.2 12) ((σ.2 2) x1.toNatClampNeg).toNatClampNeg) 64))) 19 (upd (σ.2 19) (0 : Int32).toNatClampNeg (-1)))) (F := (σ.2 4)) rfl) rfl h1 dX8_plainRun_142 ?_
          refine j_iast h 10 0 (mx_g10 (σ := (ar (ar (ar σ 17 (upd (σ.2 17) (0 : Int32).toNatClampNeg 0)) 18 (upd (σ.2 18) (0 : Int32).toNatClampNeg (fX8_modulo ((σ.2 12) ((σ.2 2) x1.toNatClampNeg).toNatClampNeg) 64))) 19 (upd (σ.2 19) (0 : Int32).toNatClampNeg (-1)))) (F := (upd (σ.2 17) (0 : Int32).toNatClampNeg 0)) rfl) rfl (vp_in_nI (n := 0) (N := 8) (by decide) (by decide)) (w' := (mx a cI cZ (ar (ar (ar (ar σ 17 (upd (σ.2 17) (0 : Int32).toNatClampNeg 0)) 18 (upd (σ.2 18) (0 : Int32).toNatClampNeg (fX8_modulo ((σ.2 12) ((σ.2 2) x1.toNatClampNeg).toNatClampNeg) 64))) 19 (upd (σ.2 19) (0 : Int32).toNatClampNeg (-1))) 17 (upd (upd (σ.2 17) (0 : Int32).toNatClampNeg 0) (0 : Int32).toNatClampNeg ((σ.2 4) x1.toNatClampNeg))))) (mx_s10 _ _ _ (ar (ar (ar σ 17 (upd (σ.2 17) (0 : Int32).toNatClampNeg 0)) 18 (upd (σ.2 18) (0 : Int32).toNatClampNeg (fX8_modulo ((σ.2 12) ((σ.2 2) x1.toNatClampNeg).toNatClampNeg) 64))) 19 (upd (σ.2 19) (0 : Int32).toNatClampNeg (-1))) _) dX8_plainRun_143 ?_
          refine j_aload_n h 2 dX8_plainRun_144 rfl rfl ?_
          refine j_get h iX8 0 (mx_c0 _ _ _ (ar (ar (ar (ar σ 17 (upd (σ.2 17) (0 : Int32).toNatClampNeg 0)) 18 (upd (σ.2 18) (0 : Int32).toNatClampNeg (fX8_modulo ((σ.2 12) ((σ.2 2) x1.toNatClampNeg).toNatClampNeg) 64))) 19 (upd (σ.2 19) (0 : Int32).toNatClampNeg (-1))) 17 (upd (upd (σ.2 17) (0 : Int32).toNatClampNeg 0) (0 : Int32).toNatClampNeg ((σ.2 4) x1.toNatClampNeg)))) rfl 10 (by decide) tb3_214 rfl (v := .ref (a 1)) rfl dX8_plainRun_145 ?_
          refine j_iload_n h 3 dX8_plainRun_148 rfl rfl ?_
          refine j_iald h 1 0 (mx_g1 (σ := (ar (ar (ar (ar σ 17 (upd (σ.2 17) (0 : Int32).toNatClampNeg 0)) 18 (upd (σ.2 18) (0 : Int32).toNatClampNeg (fX8_modulo ((σ.2 12) ((σ.2 2) x1.toNatClampNeg).toNatClampNeg) 64))) 19 (upd (σ.2 19) (0 : Int32).toNatClampNeg (-1))) 17 (upd (upd (σ.2 17) (0 : Int32).toNatClampNeg 0) (0 : Int32).toNatClampNeg ((σ.2 4) x1.toNatClampNeg)))) (F := (σ.2 0)) rfl) rfl h1 dX8_plainRun_149 ?_
          refine j_iconst h (v := 2) dX8_plainRun_150 (by decide) ?_
          refine j_icmp_ne h dX8_plainRun_151 (tgt := 173) (by decide) (fun c44 => ?_) (fun c44 => ?_)
          ·
            refine j_aload_n h 2 dX8_plainRun_173 rfl rfl ?_
            refine j_iload_n h 3 dX8_plainRun_174 rfl rfl ?_
            refine j_callVi h (kX8_writes l D a cI cZ (ar (ar (ar (ar σ 17 (upd (σ.2 17) (0 : Int32).toNatClampNeg 0)) 18 (upd (σ.2 18) (0 : Int32).toNatClampNeg (fX8_modulo ((σ.2 12) ((σ.2 2) x1.toNatClampNeg).toNatClampNeg) 64))) 19 (upd (σ.2 19) (0 : Int32).toNatClampNeg (-1))) 17 (upd (upd (σ.2 17) (0 : Int32).toNatClampNeg 0) (0 : Int32).toNatClampNeg ((σ.2 4) x1.toNatClampNeg))) x1 h1) tb4_134 tb4_136 tp_18 tb1_11 tb4_137 ⟨rfl, rfl⟩ (n := 1) (by decide +kernel) ⟨Nat.le_of_ble_eq_true rfl, Nat.le_of_ble_eq_true rfl⟩ (As := [.int x1]) rfl (ci := 8) (q0 := 0) rfl (mx_c0 _ _ _ (ar (ar (ar (ar σ 17 (upd (σ.2 17) (0 : Int32).toNatClampNeg 0)) 18 (upd (σ.2 18) (0 : Int32).toNatClampNeg (fX8_modulo ((σ.2 12) ((σ.2 2) x1.toNatClampNeg).toNatClampNeg) 64))) 19 (upd (σ.2 19) (0 : Int32).toNatClampNeg (-1))) 17 (upd (upd (σ.2 17) (0 : Int32).toNatClampNeg 0) (0 : Int32).toNatClampNeg ((σ.2 4) x1.toNatClampNeg)))) (st := []) rfl (Nat.le_of_ble_eq_true rfl) dX8_plainRun_175 ⟨Nat.zero_le _, Nat.zero_le _⟩ ?_
            generalize hq45 : (fX8_writes (ar (ar (ar (ar σ 17 (upd (σ.2 17) (0 : Int32).toNatClampNeg 0)) 18 (upd (σ.2 18) (0 : Int32).toNatClampNeg (fX8_modulo ((σ.2 12) ((σ.2 2) x1.toNatClampNeg).toNatClampNeg) 64))) 19 (upd (σ.2 19) (0 : Int32).toNatClampNeg (-1))) 17 (upd (upd (σ.2 17) (0 : Int32).toNatClampNeg 0) (0 : Int32).toNatClampNeg ((σ.2 4) x1.toNatClampNeg))) x1) = q45
            refine j_if_eq h dX8_plainRun_178 (tgt := 198) (by decide) (fun c46 => ?_) (fun c46 => ?_)
            ·
              refine j_aload_n h 2 dX8_plainRun_198 rfl rfl ?_
              refine j_get h iX8 0 (mx_c0 _ _ _ (ar (ar (ar (ar σ 17 (upd (σ.2 17) (0 : Int32).toNatClampNeg 0)) 18 (upd (σ.2 18) (0 : Int32).toNatClampNeg (fX8_modulo ((σ.2 12) ((σ.2 2) x1.toNatClampNeg).toNatClampNeg) 64))) 19 (upd (σ.2 19) (0 : Int32).toNatClampNeg (-1))) 17 (upd (upd (σ.2 17) (0 : Int32).toNatClampNeg 0) (0 : Int32).toNatClampNeg ((σ.2 4) x1.toNatClampNeg)))) rfl 10 (by decide) tb3_214 rfl (v := .ref (a 1)) rfl dX8_plainRun_199 ?_
              refine j_iload_n h 3 dX8_plainRun_202 rfl rfl ?_
              refine j_iald h 1 0 (mx_g1 (σ := (ar (ar (ar (ar σ 17 (upd (σ.2 17) (0 : Int32).toNatClampNeg 0)) 18 (upd (σ.2 18) (0 : Int32).toNatClampNeg (fX8_modulo ((σ.2 12) ((σ.2 2) x1.toNatClampNeg).toNatClampNeg) 64))) 19 (upd (σ.2 19) (0 : Int32).toNatClampNeg (-1))) 17 (upd (upd (σ.2 17) (0 : Int32).toNatClampNeg 0) (0 : Int32).toNatClampNeg ((σ.2 4) x1.toNatClampNeg)))) (F := (σ.2 0)) rfl) rfl h1 dX8_plainRun_203 ?_
              refine j_iconst h (v := 4) dX8_plainRun_204 (by decide) ?_
              refine j_icmp_ne h dX8_plainRun_205 (tgt := 231) (by decide) (fun c47 => ?_) (fun c47 => ?_)
              ·
                refine j_aload_n h 2 dX8_plainRun_231 rfl rfl ?_
                refine j_get h iX8 0 (mx_c0 _ _ _ (ar (ar (ar (ar σ 17 (upd (σ.2 17) (0 : Int32).toNatClampNeg 0)) 18 (upd (σ.2 18) (0 : Int32).toNatClampNeg (fX8_modulo ((σ.2 12) ((σ.2 2) x1.toNatClampNeg).toNatClampNeg) 64))) 19 (upd (σ.2 19) (0 : Int32).toNatClampNeg (-1))) 17 (upd (upd (σ.2 17) (0 : Int32).toNatClampNeg 0) (0 : Int32).toNatClampNeg ((σ.2 4) x1.toNatClampNeg)))) rfl 10 (by decide) tb3_214 rfl (v := .ref (a 1)) rfl dX8_plainRun_232 ?_
                refine j_iload_n h 3 dX8_plainRun_235 rfl rfl ?_
                refine j_iald h 1 0 (mx_g1 (σ := (ar (ar (ar (ar σ 17 (upd (σ.2 17) (0 : Int32).toNatClampNeg 0)) 18 (upd (σ.2 18) (0 : Int32).toNatClampNeg (fX8_modulo ((σ.2 12) ((σ.2 2) x1.toNatClampNeg).toNatClampNeg) 64))) 19 (upd (σ.2 19) (0 : Int32).toNatClampNeg (-1))) 17 (upd (upd (σ.2 17) (0 : Int32).toNatClampNeg 0) (0 : Int32).toNatClampNeg ((σ.2 4) x1.toNatClampNeg)))) (F := (σ.2 0)) rfl) rfl h1 dX8_plainRun_236 ?_
                refine j_bipush h (v := 6) dX8_plainRun_237 (by decide) ?_
                refine j_icmp_ne h dX8_plainRun_239 (tgt := 247) (by decide) (fun c48 => ?_) (fun c48 => ?_)
                ·
                  refine j_aload_n h 2 dX8_plainRun_247 rfl rfl ?_
                  refine j_get h iX8 0 (mx_c0 _ _ _ (ar (ar (ar (ar σ 17 (upd (σ.2 17) (0 : Int32).toNatClampNeg 0)) 18 (upd (σ.2 18) (0 : Int32).toNatClampNeg (fX8_modulo ((σ.2 12) ((σ.2 2) x1.toNatClampNeg).toNatClampNeg) 64))) 19 (upd (σ.2 19) (0 : Int32).toNatClampNeg (-1))) 17 (upd (upd (σ.2 17) (0 : Int32).toNatClampNeg 0) (0 : Int32).toNatClampNeg ((σ.2 4) x1.toNatClampNeg)))) rfl 10 (by decide) tb3_214 rfl (v := .ref (a 1)) rfl dX8_plainRun_248 ?_
                  refine j_iload_n h 3 dX8_plainRun_251 rfl rfl ?_
                  refine j_iald h 1 0 (mx_g1 (σ := (ar (ar (ar (ar σ 17 (upd (σ.2 17) (0 : Int32).toNatClampNeg 0)) 18 (upd (σ.2 18) (0 : Int32).toNatClampNeg (fX8_modulo ((σ.2 12) ((σ.2 2) x1.toNatClampNeg).toNatClampNeg) 64))) 19 (upd (σ.2 19) (0 : Int32).toNatClampNeg (-1))) 17 (upd (upd (σ.2 17) (0 : Int32).toNatClampNeg 0) (0 : Int32).toNatClampNeg ((σ.2 4) x1.toNatClampNeg)))) (F := (σ.2 0)) rfl) rfl h1 dX8_plainRun_252 ?_
                  refine j_iconst h (v := 5) dX8_plainRun_253 (by decide) ?_
                  refine j_icmp_eq h dX8_plainRun_254 (tgt := 266) (by decide) (fun c49 => ?_) (fun c49 => ?_)
                  ·
                    exact absurd (c4.symm.trans c49) (by decide)
                  ·
                    refine j_aload_n h 2 dX8_plainRun_257 rfl rfl ?_
                    refine j_get h iX8 0 (mx_c0 _ _ _ (ar (ar (ar (ar σ 17 (upd (σ.2 17) (0 : Int32).toNatClampNeg 0)) 18 (upd (σ.2 18) (0 : Int32).toNatClampNeg (fX8_modulo ((σ.2 12) ((σ.2 2) x1.toNatClampNeg).toNatClampNeg) 64))) 19 (upd (σ.2 19) (0 : Int32).toNatClampNeg (-1))) 17 (upd (upd (σ.2 17) (0 : Int32).toNatClampNeg 0) (0 : Int32).toNatClampNeg ((σ.2 4) x1.toNatClampNeg)))) rfl 21 (by decide) tb3_225 rfl (v := .ref (a 12)) rfl dX8_plainRun_258 ?_
                    refine j_iconst h (v := 0) dX8_plainRun_261 (by decide) ?_
                    refine j_iald h 12 0 (mx_g12 (σ := (ar (ar (ar (ar σ 17 (upd (σ.2 17) (0 : Int32).toNatClampNeg 0)) 18 (upd (σ.2 18) (0 : Int32).toNatClampNeg (fX8_modulo ((σ.2 12) ((σ.2 2) x1.toNatClampNeg).toNatClampNeg) 64))) 19 (upd (σ.2 19) (0 : Int32).toNatClampNeg (-1))) 17 (upd (upd (σ.2 17) (0 : Int32).toNatClampNeg 0) (0 : Int32).toNatClampNeg ((σ.2 4) x1.toNatClampNeg)))) (F := (upd (σ.2 19) (0 : Int32).toNatClampNeg (-1))) rfl) rfl (vp_in_nI (n := 0) (N := 8) (by decide) (by decide)) dX8_plainRun_262 ?_
                    refine j_eqi (v' := (-1)) pk_us ?_
                    refine j_if_lt h dX8_plainRun_263 (tgt := 271) (by decide) (fun c50 => ?_) (fun c50 => ?_)
                    ·
                      subst hq45
                      have E : fX8_plainRun σ x1 = (ar (ar (ar (ar σ 17 (upd (σ.2 17) (0 : Int32).toNatClampNeg 0)) 18 (upd (σ.2 18) (0 : Int32).toNatClampNeg (fX8_modulo ((σ.2 12) ((σ.2 2) x1.toNatClampNeg).toNatClampNeg) 64))) 19 (upd (σ.2 19) (0 : Int32).toNatClampNeg (-1))) 17 (upd (upd (σ.2 17) (0 : Int32).toNatClampNeg 0) (0 : Int32).toNatClampNeg ((σ.2 4) x1.toNatClampNeg))) := j_ig c1 (j_ig c2 (j_ig c3 (j_ip c4 (j_ip c46 rfl))))
                      exact j_vreturn h hr (fun _ => 0) (congrArg (mx a cI cZ) E).symm dX8_plainRun_271
                    ·
                      exact absurd c50 (by decide)
                ·
                  exact absurd (c4.symm.trans c48) (by decide)
              ·
                exact absurd (c4.symm.trans c47) (by decide)
            ·
              refine j_aload_n h 2 dX8_plainRun_181 rfl rfl ?_
              refine j_get h iX8 0 (mx_c0 _ _ _ (ar (ar (ar (ar σ 17 (upd (σ.2 17) (0 : Int32).toNatClampNeg 0)) 18 (upd (σ.2 18) (0 : Int32).toNatClampNeg (fX8_modulo ((σ.2 12) ((σ.2 2) x1.toNatClampNeg).toNatClampNeg) 64))) 19 (upd (σ.2 19) (0 : Int32).toNatClampNeg (-1))) 17 (upd (upd (σ.2 17) (0 : Int32).toNatClampNeg 0) (0 : Int32).toNatClampNeg ((σ.2 4) x1.toNatClampNeg)))) rfl 22 (by decide) tb3_226 rfl (v := .ref (a 13)) rfl dX8_plainRun_182 ?_
              refine j_aload_n h 2 dX8_plainRun_185 rfl rfl ?_
              refine j_get h iX8 0 (mx_c0 _ _ _ (ar (ar (ar (ar σ 17 (upd (σ.2 17) (0 : Int32).toNatClampNeg 0)) 18 (upd (σ.2 18) (0 : Int32).toNatClampNeg (fX8_modulo ((σ.2 12) ((σ.2 2) x1.toNatClampNeg).toNatClampNeg) 64))) 19 (upd (σ.2 19) (0 : Int32).toNatClampNeg (-1))) 17 (upd (upd (σ.2 17) (0 : Int32).toNatClampNeg 0) (0 : Int32).toNatClampNeg ((σ.2 4) x1.toNatClampNeg)))) rfl 11 (by decide) tb3_215 rfl (v := .ref (a 2)) rfl dX8_plainRun_186 ?_
              refine j_iload_n h 3 dX8_plainRun_189 rfl rfl ?_
              refine j_iald h 2 0 (mx_g2 (σ := (ar (ar (ar (ar σ 17 (upd (σ.2 17) (0 : Int32).toNatClampNeg 0)) 18 (upd (σ.2 18) (0 : Int32).toNatClampNeg (fX8_modulo ((σ.2 12) ((σ.2 2) x1.toNatClampNeg).toNatClampNeg) 64))) 19 (upd (σ.2 19) (0 : Int32).toNatClampNeg (-1))) 17 (upd (upd (σ.2 17) (0 : Int32).toNatClampNeg 0) (0 : Int32).toNatClampNeg ((σ.2 4) x1.toNatClampNeg)))) (F := (σ.2 1)) rfl) rfl h1 dX8_plainRun_190 ?_
              refine j_aload_n h 2 dX8_plainRun_191 rfl rfl ?_
              refine j_get h iX8 0 (mx_c0 _ _ _ (ar (ar (ar (ar σ 17 (upd (σ.2 17) (0 : Int32).toNatClampNeg 0)) 18 (upd (σ.2 18) (0 : Int32).toNatClampNeg (fX8_modulo ((σ.2 12) ((σ.2 2) x1.toNatClampNeg).toNatClampNeg) 64))) 19 (upd (σ.2 19) (0 : Int32).toNatClampNeg (-1))) 17 (upd (upd (σ.2 17) (0 : Int32).toNatClampNeg 0) (0 : Int32).toNatClampNeg ((σ.2 4) x1.toNatClampNeg)))) rfl 19 (by decide) tb3_223 rfl (v := .ref (a 10)) rfl dX8_plainRun_192 ?_
              refine j_iconst h (v := 0) dX8_plainRun_195 (by decide) ?_
              refine j_iald h 10 0 (mx_g10 (σ := (ar (ar (ar (ar σ 17 (upd (σ.2 17) (0 : Int32).toNatClampNeg 0)) 18 (upd (σ.2 18) (0 : Int32).toNatClampNeg (fX8_modulo ((σ.2 12) ((σ.2 2) x1.toNatClampNeg).toNatClampNeg) 64))) 19 (upd (σ.2 19) (0 : Int32).toNatClampNeg (-1))) 17 (upd (upd (σ.2 17) (0 : Int32).toNatClampNeg 0) (0 : Int32).toNatClampNeg ((σ.2 4) x1.toNatClampNeg)))) (F := (upd (upd (σ.2 17) (0 : Int32).toNatClampNeg 0) (0 : Int32).toNatClampNeg ((σ.2 4) x1.toNatClampNeg))) rfl) rfl (vp_in_nI (n := 0) (N := 8) (by decide) (by decide)) dX8_plainRun_196 ?_
              refine j_eqi (v' := ((σ.2 4) x1.toNatClampNeg)) pk_us ?_
              refine j_iast h 13 0 (mx_g13 (σ := (ar (ar (ar (ar σ 17 (upd (σ.2 17) (0 : Int32).toNatClampNeg 0)) 18 (upd (σ.2 18) (0 : Int32).toNatClampNeg (fX8_modulo ((σ.2 12) ((σ.2 2) x1.toNatClampNeg).toNatClampNeg) 64))) 19 (upd (σ.2 19) (0 : Int32).toNatClampNeg (-1))) 17 (upd (upd (σ.2 17) (0 : Int32).toNatClampNeg 0) (0 : Int32).toNatClampNeg ((σ.2 4) x1.toNatClampNeg)))) (F := (σ.2 12)) rfl) rfl (hR _ (m_cl h1 (by decide))).1 (w' := (mx a cI cZ (ar (ar (ar (ar (ar σ 17 (upd (σ.2 17) (0 : Int32).toNatClampNeg 0)) 18 (upd (σ.2 18) (0 : Int32).toNatClampNeg (fX8_modulo ((σ.2 12) ((σ.2 2) x1.toNatClampNeg).toNatClampNeg) 64))) 19 (upd (σ.2 19) (0 : Int32).toNatClampNeg (-1))) 17 (upd (upd (σ.2 17) (0 : Int32).toNatClampNeg 0) (0 : Int32).toNatClampNeg ((σ.2 4) x1.toNatClampNeg))) 12 (upd (σ.2 12) ((σ.2 1) x1.toNatClampNeg).toNatClampNeg ((σ.2 4) x1.toNatClampNeg))))) (mx_s13 _ _ _ (ar (ar (ar (ar σ 17 (upd (σ.2 17) (0 : Int32).toNatClampNeg 0)) 18 (upd (σ.2 18) (0 : Int32).toNatClampNeg (fX8_modulo ((σ.2 12) ((σ.2 2) x1.toNatClampNeg).toNatClampNeg) 64))) 19 (upd (σ.2 19) (0 : Int32).toNatClampNeg (-1))) 17 (upd (upd (σ.2 17) (0 : Int32).toNatClampNeg 0) (0 : Int32).toNatClampNeg ((σ.2 4) x1.toNatClampNeg))) _) dX8_plainRun_197 ?_
              refine j_aload_n h 2 dX8_plainRun_198 rfl rfl ?_
              refine j_get h iX8 0 (mx_c0 _ _ _ (ar (ar (ar (ar (ar σ 17 (upd (σ.2 17) (0 : Int32).toNatClampNeg 0)) 18 (upd (σ.2 18) (0 : Int32).toNatClampNeg (fX8_modulo ((σ.2 12) ((σ.2 2) x1.toNatClampNeg).toNatClampNeg) 64))) 19 (upd (σ.2 19) (0 : Int32).toNatClampNeg (-1))) 17 (upd (upd (σ.2 17) (0 : Int32).toNatClampNeg 0) (0 : Int32).toNatClampNeg ((σ.2 4) x1.toNatClampNeg))) 12 (upd (σ.2 12) ((σ.2 1) x1.toNatClampNeg).toNatClampNeg ((σ.2 4) x1.toNatClampNeg)))) rfl 10 (by decide) tb3_214 rfl (v := .ref (a 1)) rfl dX8_plainRun_199 ?_
              refine j_iload_n h 3 dX8_plainRun_202 rfl rfl ?_
              refine j_iald h 1 0 (mx_g1 (σ := (ar (ar (ar (ar (ar σ 17 (upd (σ.2 17) (0 : Int32).toNatClampNeg 0)) 18 (upd (σ.2 18) (0 : Int32).toNatClampNeg (fX8_modulo ((σ.2 12) ((σ.2 2) x1.toNatClampNeg).toNatClampNeg) 64))) 19 (upd (σ.2 19) (0 : Int32).toNatClampNeg (-1))) 17 (upd (upd (σ.2 17) (0 : Int32).toNatClampNeg 0) (0 : Int32).toNatClampNeg ((σ.2 4) x1.toNatClampNeg))) 12 (upd (σ.2 12) ((σ.2 1) x1.toNatClampNeg).toNatClampNeg ((σ.2 4) x1.toNatClampNeg)))) (F := (σ.2 0)) rfl) rfl h1 dX8_plainRun_203 ?_
              refine j_iconst h (v := 4) dX8_plainRun_204 (by decide) ?_
              refine j_icmp_ne h dX8_plainRun_205 (tgt := 231) (by decide) (fun c51 => ?_) (fun c51 => ?_)
              ·
                refine j_aload_n h 2 dX8_plainRun_231 rfl rfl ?_
                refine j_get h iX8 0 (mx_c0 _ _ _ (ar (ar (ar (ar (ar σ 17 (upd (σ.2 17) (0 : Int32).toNatClampNeg 0)) 18 (upd (σ.2 18) (0 : Int32).toNatClampNeg (fX8_modulo ((σ.2 12) ((σ.2 2) x1.toNatClampNeg).toNatClampNeg) 64))) 19 (upd (σ.2 19) (0 : Int32).toNatClampNeg (-1))) 17 (upd (upd (σ.2 17) (0 : Int32).toNatClampNeg 0) (0 : Int32).toNatClampNeg ((σ.2 4) x1.toNatClampNeg))) 12 (upd (σ.2 12) ((σ.2 1) x1.toNatClampNeg).toNatClampNeg ((σ.2 4) x1.toNatClampNeg)))) rfl 10 (by decide) tb3_214 rfl (v := .ref (a 1)) rfl dX8_plainRun_232 ?_
                refine j_iload_n h 3 dX8_plainRun_235 rfl rfl ?_
                refine j_iald h 1 0 (mx_g1 (σ := (ar (ar (ar (ar (ar σ 17 (upd (σ.2 17) (0 : Int32).toNatClampNeg 0)) 18 (upd (σ.2 18) (0 : Int32).toNatClampNeg (fX8_modulo ((σ.2 12) ((σ.2 2) x1.toNatClampNeg).toNatClampNeg) 64))) 19 (upd (σ.2 19) (0 : Int32).toNatClampNeg (-1))) 17 (upd (upd (σ.2 17) (0 : Int32).toNatClampNeg 0) (0 : Int32).toNatClampNeg ((σ.2 4) x1.toNatClampNeg))) 12 (upd (σ.2 12) ((σ.2 1) x1.toNatClampNeg).toNatClampNeg ((σ.2 4) x1.toNatClampNeg)))) (F := (σ.2 0)) rfl) rfl h1 dX8_plainRun_236 ?_
                refine j_bipush h (v := 6) dX8_plainRun_237 (by decide) ?_
                refine j_icmp_ne h dX8_plainRun_239 (tgt := 247) (by decide) (fun c52 => ?_) (fun c52 => ?_)
                ·
                  refine j_aload_n h 2 dX8_plainRun_247 rfl rfl ?_
                  refine j_get h iX8 0 (mx_c0 _ _ _ (ar (ar (ar (ar (ar σ 17 (upd (σ.2 17) (0 : Int32).toNatClampNeg 0)) 18 (upd (σ.2 18) (0 : Int32).toNatClampNeg (fX8_modulo ((σ.2 12) ((σ.2 2) x1.toNatClampNeg).toNatClampNeg) 64))) 19 (upd (σ.2 19) (0 : Int32).toNatClampNeg (-1))) 17 (upd (upd (σ.2 17) (0 : Int32).toNatClampNeg 0) (0 : Int32).toNatClampNeg ((σ.2 4) x1.toNatClampNeg))) 12 (upd (σ.2 12) ((σ.2 1) x1.toNatClampNeg).toNatClampNeg ((σ.2 4) x1.toNatClampNeg)))) rfl 10 (by decide) tb3_214 rfl (v := .ref (a 1)) rfl dX8_plainRun_248 ?_
                  refine j_iload_n h 3 dX8_plainRun_251 rfl rfl ?_
                  refine j_iald h 1 0 (mx_g1 (σ := (ar (ar (ar (ar (ar σ 17 (upd (σ.2 17) (0 : Int32).toNatClampNeg 0)) 18 (upd (σ.2 18) (0 : Int32).toNatClampNeg (fX8_modulo ((σ.2 12) ((σ.2 2) x1.toNatClampNeg).toNatClampNeg) 64))) 19 (upd (σ.2 19) (0 : Int32).toNatClampNeg (-1))) 17 (upd (upd (σ.2 17) (0 : Int32).toNatClampNeg 0) (0 : Int32).toNatClampNeg ((σ.2 4) x1.toNatClampNeg))) 12 (upd (σ.2 12) ((σ.2 1) x1.toNatClampNeg).toNatClampNeg ((σ.2 4) x1.toNatClampNeg)))) (F := (σ.2 0)) rfl) rfl h1 dX8_plainRun_252 ?_
                  refine j_iconst h (v := 5) dX8_plainRun_253 (by decide) ?_
                  refine j_icmp_eq h dX8_plainRun_254 (tgt := 266) (by decide) (fun c53 => ?_) (fun c53 => ?_)
                  ·
                    exact absurd (c4.symm.trans c53) (by decide)
                  ·
                    refine j_aload_n h 2 dX8_plainRun_257 rfl rfl ?_
                    refine j_get h iX8 0 (mx_c0 _ _ _ (ar (ar (ar (ar (ar σ 17 (upd (σ.2 17) (0 : Int32).toNatClampNeg 0)) 18 (upd (σ.2 18) (0 : Int32).toNatClampNeg (fX8_modulo ((σ.2 12) ((σ.2 2) x1.toNatClampNeg).toNatClampNeg) 64))) 19 (upd (σ.2 19) (0 : Int32).toNatClampNeg (-1))) 17 (upd (upd (σ.2 17) (0 : Int32).toNatClampNeg 0) (0 : Int32).toNatClampNeg ((σ.2 4) x1.toNatClampNeg))) 12 (upd (σ.2 12) ((σ.2 1) x1.toNatClampNeg).toNatClampNeg ((σ.2 4) x1.toNatClampNeg)))) rfl 21 (by decide) tb3_225 rfl (v := .ref (a 12)) rfl dX8_plainRun_258 ?_
                    refine j_iconst h (v := 0) dX8_plainRun_261 (by decide) ?_
                    refine j_iald h 12 0 (mx_g12 (σ := (ar (ar (ar (ar (ar σ 17 (upd (σ.2 17) (0 : Int32).toNatClampNeg 0)) 18 (upd (σ.2 18) (0 : Int32).toNatClampNeg (fX8_modulo ((σ.2 12) ((σ.2 2) x1.toNatClampNeg).toNatClampNeg) 64))) 19 (upd (σ.2 19) (0 : Int32).toNatClampNeg (-1))) 17 (upd (upd (σ.2 17) (0 : Int32).toNatClampNeg 0) (0 : Int32).toNatClampNeg ((σ.2 4) x1.toNatClampNeg))) 12 (upd (σ.2 12) ((σ.2 1) x1.toNatClampNeg).toNatClampNeg ((σ.2 4) x1.toNatClampNeg)))) (F := (upd (σ.2 19) (0 : Int32).toNatClampNeg (-1))) rfl) rfl (vp_in_nI (n := 0) (N := 8) (by decide) (by decide)) dX8_plainRun_262 ?_
                    refine j_eqi (v' := (-1)) pk_us ?_
                    refine j_if_lt h dX8_plainRun_263 (tgt := 271) (by decide) (fun c54 => ?_) (fun c54 => ?_)
                    ·
                      subst hq45
                      have E : fX8_plainRun σ x1 = (ar (ar (ar (ar (ar σ 17 (upd (σ.2 17) (0 : Int32).toNatClampNeg 0)) 18 (upd (σ.2 18) (0 : Int32).toNatClampNeg (fX8_modulo ((σ.2 12) ((σ.2 2) x1.toNatClampNeg).toNatClampNeg) 64))) 19 (upd (σ.2 19) (0 : Int32).toNatClampNeg (-1))) 17 (upd (upd (σ.2 17) (0 : Int32).toNatClampNeg 0) (0 : Int32).toNatClampNeg ((σ.2 4) x1.toNatClampNeg))) 12 (upd (σ.2 12) ((σ.2 1) x1.toNatClampNeg).toNatClampNeg ((σ.2 4) x1.toNatClampNeg))) := j_ig c1 (j_ig c2 (j_ig c3 (j_ip c4 (j_ig c46 rfl))))
                      exact j_vreturn h hr (fun _ => 0) (congrArg (mx a cI cZ) E).symm dX8_plainRun_271
                    ·
                      exact absurd c54 (by decide)
                ·
                  exact absurd (c4.symm.trans c52) (by decide)
              ·
                exact absurd (c4.symm.trans c51) (by decide)
          ·
            exact absurd (c4.symm.trans c44) (by decide)
      ·
        refine j_aload_n h 2 dX8_plainRun_112 rfl rfl ?_
        refine j_get h iX8 0 (mx_c0 _ _ _ (ar (ar (ar σ 17 (upd (σ.2 17) (0 : Int32).toNatClampNeg 0)) 18 (upd (σ.2 18) (0 : Int32).toNatClampNeg (fX8_modulo ((σ.2 12) ((σ.2 2) x1.toNatClampNeg).toNatClampNeg) 64))) 19 (upd (σ.2 19) (0 : Int32).toNatClampNeg (-1)))) rfl 19 (by decide) tb3_223 rfl (v := .ref (a 10)) rfl dX8_plainRun_113 ?_
        refine j_iconst h (v := 0) dX8_plainRun_116 (by decide) ?_
        refine j_iload_n h 1 dX8_plainRun_117 rfl rfl ?_
        refine j_iload_n h 0 dX8_plainRun_118 rfl rfl ?_
        refine j_imul h dX8_plainRun_119 ?_
        refine j_iast h 10 0 (mx_g10 (σ := (ar (ar (ar σ 17 (upd (σ.2 17) (0 : Int32).toNatClampNeg 0)) 18 (upd (σ.2 18) (0 : Int32).toNatClampNeg (fX8_modulo ((σ.2 12) ((σ.2 2) x1.toNatClampNeg).toNatClampNeg) 64))) 19 (upd (σ.2 19) (0 : Int32).toNatClampNeg (-1)))) (F := (upd (σ.2 17) (0 : Int32).toNatClampNeg 0)) rfl) rfl (vp_in_nI (n := 0) (N := 8) (by decide) (by decide)) (w' := (mx a cI cZ (ar (ar (ar (ar σ 17 (upd (σ.2 17) (0 : Int32).toNatClampNeg 0)) 18 (upd (σ.2 18) (0 : Int32).toNatClampNeg (fX8_modulo ((σ.2 12) ((σ.2 2) x1.toNatClampNeg).toNatClampNeg) 64))) 19 (upd (σ.2 19) (0 : Int32).toNatClampNeg (-1))) 17 (upd (upd (σ.2 17) (0 : Int32).toNatClampNeg 0) (0 : Int32).toNatClampNeg (((σ.2 12) ((σ.2 2) x1.toNatClampNeg).toNatClampNeg) * ((σ.2 12) ((σ.2 3) x1.toNatClampNeg).toNatClampNeg)))))) (mx_s10 _ _ _ (ar (ar (ar σ 17 (upd (σ.2 17) (0 : Int32).toNatClampNeg 0)) 18 (upd (σ.2 18) (0 : Int32).toNatClampNeg (fX8_modulo ((σ.2 12) ((σ.2 2) x1.toNatClampNeg).toNatClampNeg) 64))) 19 (upd (σ.2 19) (0 : Int32).toNatClampNeg (-1))) _) dX8_plainRun_120 ?_
        refine j_aload_n h 2 dX8_plainRun_121 rfl rfl ?_
        refine j_get h iX8 0 (mx_c0 _ _ _ (ar (ar (ar (ar σ 17 (upd (σ.2 17) (0 : Int32).toNatClampNeg 0)) 18 (upd (σ.2 18) (0 : Int32).toNatClampNeg (fX8_modulo ((σ.2 12) ((σ.2 2) x1.toNatClampNeg).toNatClampNeg) 64))) 19 (upd (σ.2 19) (0 : Int32).toNatClampNeg (-1))) 17 (upd (upd (σ.2 17) (0 : Int32).toNatClampNeg 0) (0 : Int32).toNatClampNeg (((σ.2 12) ((σ.2 2) x1.toNatClampNeg).toNatClampNeg) * ((σ.2 12) ((σ.2 3) x1.toNatClampNeg).toNatClampNeg))))) rfl 10 (by decide) tb3_214 rfl (v := .ref (a 1)) rfl dX8_plainRun_122 ?_
        refine j_iload_n h 3 dX8_plainRun_125 rfl rfl ?_
        refine j_iald h 1 0 (mx_g1 (σ := (ar (ar (ar (ar σ 17 (upd (σ.2 17) (0 : Int32).toNatClampNeg 0)) 18 (upd (σ.2 18) (0 : Int32).toNatClampNeg (fX8_modulo ((σ.2 12) ((σ.2 2) x1.toNatClampNeg).toNatClampNeg) 64))) 19 (upd (σ.2 19) (0 : Int32).toNatClampNeg (-1))) 17 (upd (upd (σ.2 17) (0 : Int32).toNatClampNeg 0) (0 : Int32).toNatClampNeg (((σ.2 12) ((σ.2 2) x1.toNatClampNeg).toNatClampNeg) * ((σ.2 12) ((σ.2 3) x1.toNatClampNeg).toNatClampNeg))))) (F := (σ.2 0)) rfl) rfl h1 dX8_plainRun_126 ?_
        refine j_bipush h (v := 7) dX8_plainRun_127 (by decide) ?_
        refine j_icmp_ne h dX8_plainRun_129 (tgt := 144) (by decide) (fun c55 => ?_) (fun c55 => ?_)
        ·
          refine j_aload_n h 2 dX8_plainRun_144 rfl rfl ?_
          refine j_get h iX8 0 (mx_c0 _ _ _ (ar (ar (ar (ar σ 17 (upd (σ.2 17) (0 : Int32).toNatClampNeg 0)) 18 (upd (σ.2 18) (0 : Int32).toNatClampNeg (fX8_modulo ((σ.2 12) ((σ.2 2) x1.toNatClampNeg).toNatClampNeg) 64))) 19 (upd (σ.2 19) (0 : Int32).toNatClampNeg (-1))) 17 (upd (upd (σ.2 17) (0 : Int32).toNatClampNeg 0) (0 : Int32).toNatClampNeg (((σ.2 12) ((σ.2 2) x1.toNatClampNeg).toNatClampNeg) * ((σ.2 12) ((σ.2 3) x1.toNatClampNeg).toNatClampNeg))))) rfl 10 (by decide) tb3_214 rfl (v := .ref (a 1)) rfl dX8_plainRun_145 ?_
          refine j_iload_n h 3 dX8_plainRun_148 rfl rfl ?_
          refine j_iald h 1 0 (mx_g1 (σ := (ar (ar (ar (ar σ 17 (upd (σ.2 17) (0 : Int32).toNatClampNeg 0)) 18 (upd (σ.2 18) (0 : Int32).toNatClampNeg (fX8_modulo ((σ.2 12) ((σ.2 2) x1.toNatClampNeg).toNatClampNeg) 64))) 19 (upd (σ.2 19) (0 : Int32).toNatClampNeg (-1))) 17 (upd (upd (σ.2 17) (0 : Int32).toNatClampNeg 0) (0 : Int32).toNatClampNeg (((σ.2 12) ((σ.2 2) x1.toNatClampNeg).toNatClampNeg) * ((σ.2 12) ((σ.2 3) x1.toNatClampNeg).toNatClampNeg))))) (F := (σ.2 0)) rfl) rfl h1 dX8_plainRun_149 ?_
          refine j_iconst h (v := 2) dX8_plainRun_150 (by decide) ?_
          refine j_icmp_ne h dX8_plainRun_151 (tgt := 173) (by decide) (fun c56 => ?_) (fun c56 => ?_)
          ·
            refine j_aload_n h 2 dX8_plainRun_173 rfl rfl ?_
            refine j_iload_n h 3 dX8_plainRun_174 rfl rfl ?_
            refine j_callVi h (kX8_writes l D a cI cZ (ar (ar (ar (ar σ 17 (upd (σ.2 17) (0 : Int32).toNatClampNeg 0)) 18 (upd (σ.2 18) (0 : Int32).toNatClampNeg (fX8_modulo ((σ.2 12) ((σ.2 2) x1.toNatClampNeg).toNatClampNeg) 64))) 19 (upd (σ.2 19) (0 : Int32).toNatClampNeg (-1))) 17 (upd (upd (σ.2 17) (0 : Int32).toNatClampNeg 0) (0 : Int32).toNatClampNeg (((σ.2 12) ((σ.2 2) x1.toNatClampNeg).toNatClampNeg) * ((σ.2 12) ((σ.2 3) x1.toNatClampNeg).toNatClampNeg)))) x1 h1) tb4_134 tb4_136 tp_18 tb1_11 tb4_137 ⟨rfl, rfl⟩ (n := 1) (by decide +kernel) ⟨Nat.le_of_ble_eq_true rfl, Nat.le_of_ble_eq_true rfl⟩ (As := [.int x1]) rfl (ci := 8) (q0 := 0) rfl (mx_c0 _ _ _ (ar (ar (ar (ar σ 17 (upd (σ.2 17) (0 : Int32).toNatClampNeg 0)) 18 (upd (σ.2 18) (0 : Int32).toNatClampNeg (fX8_modulo ((σ.2 12) ((σ.2 2) x1.toNatClampNeg).toNatClampNeg) 64))) 19 (upd (σ.2 19) (0 : Int32).toNatClampNeg (-1))) 17 (upd (upd (σ.2 17) (0 : Int32).toNatClampNeg 0) (0 : Int32).toNatClampNeg (((σ.2 12) ((σ.2 2) x1.toNatClampNeg).toNatClampNeg) * ((σ.2 12) ((σ.2 3) x1.toNatClampNeg).toNatClampNeg))))) (st := []) rfl (Nat.le_of_ble_eq_true rfl) dX8_plainRun_175 ⟨Nat.zero_le _, Nat.zero_le _⟩ ?_
            generalize hq57 : (fX8_writes (ar (ar (ar (ar σ 17 (upd (σ.2 17) (0 : Int32).toNatClampNeg 0)) 18 (upd (σ.2 18) (0 : Int32).toNatClampNeg (fX8_modulo ((σ.2 12) ((σ.2 2) x1.toNatClampNeg).toNatClampNeg) 64))) 19 (upd (σ.2 19) (0 : Int32).toNatClampNeg (-1))) 17 (upd (upd (σ.2 17) (0 : Int32).toNatClampNeg 0) (0 : Int32).toNatClampNeg (((σ.2 12) ((σ.2 2) x1.toNatClampNeg).toNatClampNeg) * ((σ.2 12) ((σ.2 3) x1.toNatClampNeg).toNatClampNeg)))) x1) = q57
            refine j_if_eq h dX8_plainRun_178 (tgt := 198) (by decide) (fun c58 => ?_) (fun c58 => ?_)
            ·
              refine j_aload_n h 2 dX8_plainRun_198 rfl rfl ?_
              refine j_get h iX8 0 (mx_c0 _ _ _ (ar (ar (ar (ar σ 17 (upd (σ.2 17) (0 : Int32).toNatClampNeg 0)) 18 (upd (σ.2 18) (0 : Int32).toNatClampNeg (fX8_modulo ((σ.2 12) ((σ.2 2) x1.toNatClampNeg).toNatClampNeg) 64))) 19 (upd (σ.2 19) (0 : Int32).toNatClampNeg (-1))) 17 (upd (upd (σ.2 17) (0 : Int32).toNatClampNeg 0) (0 : Int32).toNatClampNeg (((σ.2 12) ((σ.2 2) x1.toNatClampNeg).toNatClampNeg) * ((σ.2 12) ((σ.2 3) x1.toNatClampNeg).toNatClampNeg))))) rfl 10 (by decide) tb3_214 rfl (v := .ref (a 1)) rfl dX8_plainRun_199 ?_
              refine j_iload_n h 3 dX8_plainRun_202 rfl rfl ?_
              refine j_iald h 1 0 (mx_g1 (σ := (ar (ar (ar (ar σ 17 (upd (σ.2 17) (0 : Int32).toNatClampNeg 0)) 18 (upd (σ.2 18) (0 : Int32).toNatClampNeg (fX8_modulo ((σ.2 12) ((σ.2 2) x1.toNatClampNeg).toNatClampNeg) 64))) 19 (upd (σ.2 19) (0 : Int32).toNatClampNeg (-1))) 17 (upd (upd (σ.2 17) (0 : Int32).toNatClampNeg 0) (0 : Int32).toNatClampNeg (((σ.2 12) ((σ.2 2) x1.toNatClampNeg).toNatClampNeg) * ((σ.2 12) ((σ.2 3) x1.toNatClampNeg).toNatClampNeg))))) (F := (σ.2 0)) rfl) rfl h1 dX8_plainRun_203 ?_
              refine j_iconst h (v := 4) dX8_plainRun_204 (by decide) ?_
              refine j_icmp_ne h dX8_plainRun_205 (tgt := 231) (by decide) (fun c59 => ?_) (fun c59 => ?_)
              ·
                refine j_aload_n h 2 dX8_plainRun_231 rfl rfl ?_
                refine j_get h iX8 0 (mx_c0 _ _ _ (ar (ar (ar (ar σ 17 (upd (σ.2 17) (0 : Int32).toNatClampNeg 0)) 18 (upd (σ.2 18) (0 : Int32).toNatClampNeg (fX8_modulo ((σ.2 12) ((σ.2 2) x1.toNatClampNeg).toNatClampNeg) 64))) 19 (upd (σ.2 19) (0 : Int32).toNatClampNeg (-1))) 17 (upd (upd (σ.2 17) (0 : Int32).toNatClampNeg 0) (0 : Int32).toNatClampNeg (((σ.2 12) ((σ.2 2) x1.toNatClampNeg).toNatClampNeg) * ((σ.2 12) ((σ.2 3) x1.toNatClampNeg).toNatClampNeg))))) rfl 10 (by decide) tb3_214 rfl (v := .ref (a 1)) rfl dX8_plainRun_232 ?_
                refine j_iload_n h 3 dX8_plainRun_235 rfl rfl ?_
                refine j_iald h 1 0 (mx_g1 (σ := (ar (ar (ar (ar σ 17 (upd (σ.2 17) (0 : Int32).toNatClampNeg 0)) 18 (upd (σ.2 18) (0 : Int32).toNatClampNeg (fX8_modulo ((σ.2 12) ((σ.2 2) x1.toNatClampNeg).toNatClampNeg) 64))) 19 (upd (σ.2 19) (0 : Int32).toNatClampNeg (-1))) 17 (upd (upd (σ.2 17) (0 : Int32).toNatClampNeg 0) (0 : Int32).toNatClampNeg (((σ.2 12) ((σ.2 2) x1.toNatClampNeg).toNatClampNeg) * ((σ.2 12) ((σ.2 3) x1.toNatClampNeg).toNatClampNeg))))) (F := (σ.2 0)) rfl) rfl h1 dX8_plainRun_236 ?_
                refine j_bipush h (v := 6) dX8_plainRun_237 (by decide) ?_
                refine j_icmp_ne h dX8_plainRun_239 (tgt := 247) (by decide) (fun c60 => ?_) (fun c60 => ?_)
                ·
                  refine j_aload_n h 2 dX8_plainRun_247 rfl rfl ?_
                  refine j_get h iX8 0 (mx_c0 _ _ _ (ar (ar (ar (ar σ 17 (upd (σ.2 17) (0 : Int32).toNatClampNeg 0)) 18 (upd (σ.2 18) (0 : Int32).toNatClampNeg (fX8_modulo ((σ.2 12) ((σ.2 2) x1.toNatClampNeg).toNatClampNeg) 64))) 19 (upd (σ.2 19) (0 : Int32).toNatClampNeg (-1))) 17 (upd (upd (σ.2 17) (0 : Int32).toNatClampNeg 0) (0 : Int32).toNatClampNeg (((σ.2 12) ((σ.2 2) x1.toNatClampNeg).toNatClampNeg) * ((σ.2 12) ((σ.2 3) x1.toNatClampNeg).toNatClampNeg))))) rfl 10 (by decide) tb3_214 rfl (v := .ref (a 1)) rfl dX8_plainRun_248 ?_
                  refine j_iload_n h 3 dX8_plainRun_251 rfl rfl ?_
                  refine j_iald h 1 0 (mx_g1 (σ := (ar (ar (ar (ar σ 17 (upd (σ.2 17) (0 : Int32).toNatClampNeg 0)) 18 (upd (σ.2 18) (0 : Int32).toNatClampNeg (fX8_modulo ((σ.2 12) ((σ.2 2) x1.toNatClampNeg).toNatClampNeg) 64))) 19 (upd (σ.2 19) (0 : Int32).toNatClampNeg (-1))) 17 (upd (upd (σ.2 17) (0 : Int32).toNatClampNeg 0) (0 : Int32).toNatClampNeg (((σ.2 12) ((σ.2 2) x1.toNatClampNeg).toNatClampNeg) * ((σ.2 12) ((σ.2 3) x1.toNatClampNeg).toNatClampNeg))))) (F := (σ.2 0)) rfl) rfl h1 dX8_plainRun_252 ?_
                  refine j_iconst h (v := 5) dX8_plainRun_253 (by decide) ?_
                  refine j_icmp_eq h dX8_plainRun_254 (tgt := 266) (by decide) (fun c61 => ?_) (fun c61 => ?_)
                  ·
                    exact absurd (c3.symm.trans c61) (by decide)
                  ·
                    refine j_aload_n h 2 dX8_plainRun_257 rfl rfl ?_
                    refine j_get h iX8 0 (mx_c0 _ _ _ (ar (ar (ar (ar σ 17 (upd (σ.2 17) (0 : Int32).toNatClampNeg 0)) 18 (upd (σ.2 18) (0 : Int32).toNatClampNeg (fX8_modulo ((σ.2 12) ((σ.2 2) x1.toNatClampNeg).toNatClampNeg) 64))) 19 (upd (σ.2 19) (0 : Int32).toNatClampNeg (-1))) 17 (upd (upd (σ.2 17) (0 : Int32).toNatClampNeg 0) (0 : Int32).toNatClampNeg (((σ.2 12) ((σ.2 2) x1.toNatClampNeg).toNatClampNeg) * ((σ.2 12) ((σ.2 3) x1.toNatClampNeg).toNatClampNeg))))) rfl 21 (by decide) tb3_225 rfl (v := .ref (a 12)) rfl dX8_plainRun_258 ?_
                    refine j_iconst h (v := 0) dX8_plainRun_261 (by decide) ?_
                    refine j_iald h 12 0 (mx_g12 (σ := (ar (ar (ar (ar σ 17 (upd (σ.2 17) (0 : Int32).toNatClampNeg 0)) 18 (upd (σ.2 18) (0 : Int32).toNatClampNeg (fX8_modulo ((σ.2 12) ((σ.2 2) x1.toNatClampNeg).toNatClampNeg) 64))) 19 (upd (σ.2 19) (0 : Int32).toNatClampNeg (-1))) 17 (upd (upd (σ.2 17) (0 : Int32).toNatClampNeg 0) (0 : Int32).toNatClampNeg (((σ.2 12) ((σ.2 2) x1.toNatClampNeg).toNatClampNeg) * ((σ.2 12) ((σ.2 3) x1.toNatClampNeg).toNatClampNeg))))) (F := (upd (σ.2 19) (0 : Int32).toNatClampNeg (-1))) rfl) rfl (vp_in_nI (n := 0) (N := 8) (by decide) (by decide)) dX8_plainRun_262 ?_
                    refine j_eqi (v' := (-1)) pk_us ?_
                    refine j_if_lt h dX8_plainRun_263 (tgt := 271) (by decide) (fun c62 => ?_) (fun c62 => ?_)
                    ·
                      subst hq57
                      have E : fX8_plainRun σ x1 = (ar (ar (ar (ar σ 17 (upd (σ.2 17) (0 : Int32).toNatClampNeg 0)) 18 (upd (σ.2 18) (0 : Int32).toNatClampNeg (fX8_modulo ((σ.2 12) ((σ.2 2) x1.toNatClampNeg).toNatClampNeg) 64))) 19 (upd (σ.2 19) (0 : Int32).toNatClampNeg (-1))) 17 (upd (upd (σ.2 17) (0 : Int32).toNatClampNeg 0) (0 : Int32).toNatClampNeg (((σ.2 12) ((σ.2 2) x1.toNatClampNeg).toNatClampNeg) * ((σ.2 12) ((σ.2 3) x1.toNatClampNeg).toNatClampNeg)))) := j_ig c1 (j_ig c2 (j_ip c3 (j_ip c58 rfl)))
                      exact j_vreturn h hr (fun _ => 0) (congrArg (mx a cI cZ) E).symm dX8_plainRun_271
                    ·
                      exact absurd c62 (by decide)
                ·
                  exact absurd (c3.symm.trans c60) (by decide)
              ·
                exact absurd (c3.symm.trans c59) (by decide)
            ·
              refine j_aload_n h 2 dX8_plainRun_181 rfl rfl ?_
              refine j_get h iX8 0 (mx_c0 _ _ _ (ar (ar (ar (ar σ 17 (upd (σ.2 17) (0 : Int32).toNatClampNeg 0)) 18 (upd (σ.2 18) (0 : Int32).toNatClampNeg (fX8_modulo ((σ.2 12) ((σ.2 2) x1.toNatClampNeg).toNatClampNeg) 64))) 19 (upd (σ.2 19) (0 : Int32).toNatClampNeg (-1))) 17 (upd (upd (σ.2 17) (0 : Int32).toNatClampNeg 0) (0 : Int32).toNatClampNeg (((σ.2 12) ((σ.2 2) x1.toNatClampNeg).toNatClampNeg) * ((σ.2 12) ((σ.2 3) x1.toNatClampNeg).toNatClampNeg))))) rfl 22 (by decide) tb3_226 rfl (v := .ref (a 13)) rfl dX8_plainRun_182 ?_
              refine j_aload_n h 2 dX8_plainRun_185 rfl rfl ?_
              refine j_get h iX8 0 (mx_c0 _ _ _ (ar (ar (ar (ar σ 17 (upd (σ.2 17) (0 : Int32).toNatClampNeg 0)) 18 (upd (σ.2 18) (0 : Int32).toNatClampNeg (fX8_modulo ((σ.2 12) ((σ.2 2) x1.toNatClampNeg).toNatClampNeg) 64))) 19 (upd (σ.2 19) (0 : Int32).toNatClampNeg (-1))) 17 (upd (upd (σ.2 17) (0 : Int32).toNatClampNeg 0) (0 : Int32).toNatClampNeg (((σ.2 12) ((σ.2 2) x1.toNatClampNeg).toNatClampNeg) * ((σ.2 12) ((σ.2 3) x1.toNatClampNeg).toNatClampNeg))))) rfl 11 (by decide) tb3_215 rfl (v := .ref (a 2)) rfl dX8_plainRun_186 ?_
              refine j_iload_n h 3 dX8_plainRun_189 rfl rfl ?_
              refine j_iald h 2 0 (mx_g2 (σ := (ar (ar (ar (ar σ 17 (upd (σ.2 17) (0 : Int32).toNatClampNeg 0)) 18 (upd (σ.2 18) (0 : Int32).toNatClampNeg (fX8_modulo ((σ.2 12) ((σ.2 2) x1.toNatClampNeg).toNatClampNeg) 64))) 19 (upd (σ.2 19) (0 : Int32).toNatClampNeg (-1))) 17 (upd (upd (σ.2 17) (0 : Int32).toNatClampNeg 0) (0 : Int32).toNatClampNeg (((σ.2 12) ((σ.2 2) x1.toNatClampNeg).toNatClampNeg) * ((σ.2 12) ((σ.2 3) x1.toNatClampNeg).toNatClampNeg))))) (F := (σ.2 1)) rfl) rfl h1 dX8_plainRun_190 ?_
              refine j_aload_n h 2 dX8_plainRun_191 rfl rfl ?_
              refine j_get h iX8 0 (mx_c0 _ _ _ (ar (ar (ar (ar σ 17 (upd (σ.2 17) (0 : Int32).toNatClampNeg 0)) 18 (upd (σ.2 18) (0 : Int32).toNatClampNeg (fX8_modulo ((σ.2 12) ((σ.2 2) x1.toNatClampNeg).toNatClampNeg) 64))) 19 (upd (σ.2 19) (0 : Int32).toNatClampNeg (-1))) 17 (upd (upd (σ.2 17) (0 : Int32).toNatClampNeg 0) (0 : Int32).toNatClampNeg (((σ.2 12) ((σ.2 2) x1.toNatClampNeg).toNatClampNeg) * ((σ.2 12) ((σ.2 3) x1.toNatClampNeg).toNatClampNeg))))) rfl 19 (by decide) tb3_223 rfl (v := .ref (a 10)) rfl dX8_plainRun_192 ?_
              refine j_iconst h (v := 0) dX8_plainRun_195 (by decide) ?_
              refine j_iald h 10 0 (mx_g10 (σ := (ar (ar (ar (ar σ 17 (upd (σ.2 17) (0 : Int32).toNatClampNeg 0)) 18 (upd (σ.2 18) (0 : Int32).toNatClampNeg (fX8_modulo ((σ.2 12) ((σ.2 2) x1.toNatClampNeg).toNatClampNeg) 64))) 19 (upd (σ.2 19) (0 : Int32).toNatClampNeg (-1))) 17 (upd (upd (σ.2 17) (0 : Int32).toNatClampNeg 0) (0 : Int32).toNatClampNeg (((σ.2 12) ((σ.2 2) x1.toNatClampNeg).toNatClampNeg) * ((σ.2 12) ((σ.2 3) x1.toNatClampNeg).toNatClampNeg))))) (F := (upd (upd (σ.2 17) (0 : Int32).toNatClampNeg 0) (0 : Int32).toNatClampNeg (((σ.2 12) ((σ.2 2) x1.toNatClampNeg).toNatClampNeg) * ((σ.2 12) ((σ.2 3) x1.toNatClampNeg).toNatClampNeg)))) rfl) rfl (vp_in_nI (n := 0) (N := 8) (by decide) (by decide)) dX8_plainRun_196 ?_
              refine j_eqi (v' := (((σ.2 12) ((σ.2 2) x1.toNatClampNeg).toNatClampNeg) * ((σ.2 12) ((σ.2 3) x1.toNatClampNeg).toNatClampNeg))) pk_us ?_
              refine j_iast h 13 0 (mx_g13 (σ := (ar (ar (ar (ar σ 17 (upd (σ.2 17) (0 : Int32).toNatClampNeg 0)) 18 (upd (σ.2 18) (0 : Int32).toNatClampNeg (fX8_modulo ((σ.2 12) ((σ.2 2) x1.toNatClampNeg).toNatClampNeg) 64))) 19 (upd (σ.2 19) (0 : Int32).toNatClampNeg (-1))) 17 (upd (upd (σ.2 17) (0 : Int32).toNatClampNeg 0) (0 : Int32).toNatClampNeg (((σ.2 12) ((σ.2 2) x1.toNatClampNeg).toNatClampNeg) * ((σ.2 12) ((σ.2 3) x1.toNatClampNeg).toNatClampNeg))))) (F := (σ.2 12)) rfl) rfl (hR _ (m_cl h1 (by decide))).1 (w' := (mx a cI cZ (ar (ar (ar (ar (ar σ 17 (upd (σ.2 17) (0 : Int32).toNatClampNeg 0)) 18 (upd (σ.2 18) (0 : Int32).toNatClampNeg (fX8_modulo ((σ.2 12) ((σ.2 2) x1.toNatClampNeg).toNatClampNeg) 64))) 19 (upd (σ.2 19) (0 : Int32).toNatClampNeg (-1))) 17 (upd (upd (σ.2 17) (0 : Int32).toNatClampNeg 0) (0 : Int32).toNatClampNeg (((σ.2 12) ((σ.2 2) x1.toNatClampNeg).toNatClampNeg) * ((σ.2 12) ((σ.2 3) x1.toNatClampNeg).toNatClampNeg)))) 12 (upd (σ.2 12) ((σ.2 1) x1.toNatClampNeg).toNatClampNeg (((σ.2 12) ((σ.2 2) x1.toNatClampNeg).toNatClampNeg) * ((σ.2 12) ((σ.2 3) x1.toNatClampNeg).toNatClampNeg)))))) (mx_s13 _ _ _ (ar (ar (ar (ar σ 17 (upd (σ.2 17) (0 : Int32).toNatClampNeg 0)) 18 (upd (σ.2 18) (0 : Int32).toNatClampNeg (fX8_modulo ((σ.2 12) ((σ.2 2) x1.toNatClampNeg).toNatClampNeg) 64))) 19 (upd (σ.2 19) (0 : Int32).toNatClampNeg (-1))) 17 (upd (upd (σ.2 17) (0 : Int32).toNatClampNeg 0) (0 : Int32).toNatClampNeg (((σ.2 12) ((σ.2 2) x1.toNatClampNeg).toNatClampNeg) * ((σ.2 12) ((σ.2 3) x1.toNatClampNeg).toNatClampNeg)))) _) dX8_plainRun_197 ?_
              refine j_aload_n h 2 dX8_plainRun_198 rfl rfl ?_
              refine j_get h iX8 0 (mx_c0 _ _ _ (ar (ar (ar (ar (ar σ 17 (upd (σ.2 17) (0 : Int32).toNatClampNeg 0)) 18 (upd (σ.2 18) (0 : Int32).toNatClampNeg (fX8_modulo ((σ.2 12) ((σ.2 2) x1.toNatClampNeg).toNatClampNeg) 64))) 19 (upd (σ.2 19) (0 : Int32).toNatClampNeg (-1))) 17 (upd (upd (σ.2 17) (0 : Int32).toNatClampNeg 0) (0 : Int32).toNatClampNeg (((σ.2 12) ((σ.2 2) x1.toNatClampNeg).toNatClampNeg) * ((σ.2 12) ((σ.2 3) x1.toNatClampNeg).toNatClampNeg)))) 12 (upd (σ.2 12) ((σ.2 1) x1.toNatClampNeg).toNatClampNeg (((σ.2 12) ((σ.2 2) x1.toNatClampNeg).toNatClampNeg) * ((σ.2 12) ((σ.2 3) x1.toNatClampNeg).toNatClampNeg))))) rfl 10 (by decide) tb3_214 rfl (v := .ref (a 1)) rfl dX8_plainRun_199 ?_
              refine j_iload_n h 3 dX8_plainRun_202 rfl rfl ?_
              refine j_iald h 1 0 (mx_g1 (σ := (ar (ar (ar (ar (ar σ 17 (upd (σ.2 17) (0 : Int32).toNatClampNeg 0)) 18 (upd (σ.2 18) (0 : Int32).toNatClampNeg (fX8_modulo ((σ.2 12) ((σ.2 2) x1.toNatClampNeg).toNatClampNeg) 64))) 19 (upd (σ.2 19) (0 : Int32).toNatClampNeg (-1))) 17 (upd (upd (σ.2 17) (0 : Int32).toNatClampNeg 0) (0 : Int32).toNatClampNeg (((σ.2 12) ((σ.2 2) x1.toNatClampNeg).toNatClampNeg) * ((σ.2 12) ((σ.2 3) x1.toNatClampNeg).toNatClampNeg)))) 12 (upd (σ.2 12) ((σ.2 1) x1.toNatClampNeg).toNatClampNeg (((σ.2 12) ((σ.2 2) x1.toNatClampNeg).toNatClampNeg) * ((σ.2 12) ((σ.2 3) x1.toNatClampNeg).toNatClampNeg))))) (F := (σ.2 0)) rfl) rfl h1 dX8_plainRun_203 ?_
              refine j_iconst h (v := 4) dX8_plainRun_204 (by decide) ?_
              refine j_icmp_ne h dX8_plainRun_205 (tgt := 231) (by decide) (fun c63 => ?_) (fun c63 => ?_)
              ·
                refine j_aload_n h 2 dX8_plainRun_231 rfl rfl ?_
                refine j_get h iX8 0 (mx_c0 _ _ _ (ar (ar (ar (ar (ar σ 17 (upd (σ.2 17) (0 : Int32).toNatClampNeg 0)) 18 (upd (σ.2 18) (0 : Int32).toNatClampNeg (fX8_modulo ((σ.2 12) ((σ.2 2) x1.toNatClampNeg).toNatClampNeg) 64))) 19 (upd (σ.2 19) (0 : Int32).toNatClampNeg (-1))) 17 (upd (upd (σ.2 17) (0 : Int32).toNatClampNeg 0) (0 : Int32).toNatClampNeg (((σ.2 12) ((σ.2 2) x1.toNatClampNeg).toNatClampNeg) * ((σ.2 12) ((σ.2 3) x1.toNatClampNeg).toNatClampNeg)))) 12 (upd (σ.2 12) ((σ.2 1) x1.toNatClampNeg).toNatClampNeg (((σ.2 12) ((σ.2 2) x1.toNatClampNeg).toNatClampNeg) * ((σ.2 12) ((σ.2 3) x1.toNatClampNeg).toNatClampNeg))))) rfl 10 (by decide) tb3_214 rfl (v := .ref (a 1)) rfl dX8_plainRun_232 ?_
                refine j_iload_n h 3 dX8_plainRun_235 rfl rfl ?_
                refine j_iald h 1 0 (mx_g1 (σ := (ar (ar (ar (ar (ar σ 17 (upd (σ.2 17) (0 : Int32).toNatClampNeg 0)) 18 (upd (σ.2 18) (0 : Int32).toNatClampNeg (fX8_modulo ((σ.2 12) ((σ.2 2) x1.toNatClampNeg).toNatClampNeg) 64))) 19 (upd (σ.2 19) (0 : Int32).toNatClampNeg (-1))) 17 (upd (upd (σ.2 17) (0 : Int32).toNatClampNeg 0) (0 : Int32).toNatClampNeg (((σ.2 12) ((σ.2 2) x1.toNatClampNeg).toNatClampNeg) * ((σ.2 12) ((σ.2 3) x1.toNatClampNeg).toNatClampNeg)))) 12 (upd (σ.2 12) ((σ.2 1) x1.toNatClampNeg).toNatClampNeg (((σ.2 12) ((σ.2 2) x1.toNatClampNeg).toNatClampNeg) * ((σ.2 12) ((σ.2 3) x1.toNatClampNeg).toNatClampNeg))))) (F := (σ.2 0)) rfl) rfl h1 dX8_plainRun_236 ?_
                refine j_bipush h (v := 6) dX8_plainRun_237 (by decide) ?_
                refine j_icmp_ne h dX8_plainRun_239 (tgt := 247) (by decide) (fun c64 => ?_) (fun c64 => ?_)
                ·
                  refine j_aload_n h 2 dX8_plainRun_247 rfl rfl ?_
                  refine j_get h iX8 0 (mx_c0 _ _ _ (ar (ar (ar (ar (ar σ 17 (upd (σ.2 17) (0 : Int32).toNatClampNeg 0)) 18 (upd (σ.2 18) (0 : Int32).toNatClampNeg (fX8_modulo ((σ.2 12) ((σ.2 2) x1.toNatClampNeg).toNatClampNeg) 64))) 19 (upd (σ.2 19) (0 : Int32).toNatClampNeg (-1))) 17 (upd (upd (σ.2 17) (0 : Int32).toNatClampNeg 0) (0 : Int32).toNatClampNeg (((σ.2 12) ((σ.2 2) x1.toNatClampNeg).toNatClampNeg) * ((σ.2 12) ((σ.2 3) x1.toNatClampNeg).toNatClampNeg)))) 12 (upd (σ.2 12) ((σ.2 1) x1.toNatClampNeg).toNatClampNeg (((σ.2 12) ((σ.2 2) x1.toNatClampNeg).toNatClampNeg) * ((σ.2 12) ((σ.2 3) x1.toNatClampNeg).toNatClampNeg))))) rfl 10 (by decide) tb3_214 rfl (v := .ref (a 1)) rfl dX8_plainRun_248 ?_
                  refine j_iload_n h 3 dX8_plainRun_251 rfl rfl ?_
                  refine j_iald h 1 0 (mx_g1 (σ := (ar (ar (ar (ar (ar σ 17 (upd (σ.2 17) (0 : Int32).toNatClampNeg 0)) 18 (upd (σ.2 18) (0 : Int32).toNatClampNeg (fX8_modulo ((σ.2 12) ((σ.2 2) x1.toNatClampNeg).toNatClampNeg) 64))) 19 (upd (σ.2 19) (0 : Int32).toNatClampNeg (-1))) 17 (upd (upd (σ.2 17) (0 : Int32).toNatClampNeg 0) (0 : Int32).toNatClampNeg (((σ.2 12) ((σ.2 2) x1.toNatClampNeg).toNatClampNeg) * ((σ.2 12) ((σ.2 3) x1.toNatClampNeg).toNatClampNeg)))) 12 (upd (σ.2 12) ((σ.2 1) x1.toNatClampNeg).toNatClampNeg (((σ.2 12) ((σ.2 2) x1.toNatClampNeg).toNatClampNeg) * ((σ.2 12) ((σ.2 3) x1.toNatClampNeg).toNatClampNeg))))) (F := (σ.2 0)) rfl) rfl h1 dX8_plainRun_252 ?_
                  refine j_iconst h (v := 5) dX8_plainRun_253 (by decide) ?_
                  refine j_icmp_eq h dX8_plainRun_254 (tgt := 266) (by decide) (fun c65 => ?_) (fun c65 => ?_)
                  ·
                    exact absurd (c3.symm.trans c65) (by decide)
                  ·
                    refine j_aload_n h 2 dX8_plainRun_257 rfl rfl ?_
                    refine j_get h iX8 0 (mx_c0 _ _ _ (ar (ar (ar (ar (ar σ 17 (upd (σ.2 17) (0 : Int32).toNatClampNeg 0)) 18 (upd (σ.2 18) (0 : Int32).toNatClampNeg (fX8_modulo ((σ.2 12) ((σ.2 2) x1.toNatClampNeg).toNatClampNeg) 64))) 19 (upd (σ.2 19) (0 : Int32).toNatClampNeg (-1))) 17 (upd (upd (σ.2 17) (0 : Int32).toNatClampNeg 0) (0 : Int32).toNatClampNeg (((σ.2 12) ((σ.2 2) x1.toNatClampNeg).toNatClampNeg) * ((σ.2 12) ((σ.2 3) x1.toNatClampNeg).toNatClampNeg)))) 12 (upd (σ.2 12) ((σ.2 1) x1.toNatClampNeg).toNatClampNeg (((σ.2 12) ((σ.2 2) x1.toNatClampNeg).toNatClampNeg) * ((σ.2 12) ((σ.2 3) x1.toNatClampNeg).toNatClampNeg))))) rfl 21 (by decide) tb3_225 rfl (v := .ref (a 12)) rfl dX8_plainRun_258 ?_
                    refine j_iconst h (v := 0) dX8_plainRun_261 (by decide) ?_
                    refine j_iald h 12 0 (mx_g12 (σ := (ar (ar (ar (ar (ar σ 17 (upd (σ.2 17) (0 : Int32).toNatClampNeg 0)) 18 (upd (σ.2 18) (0 : Int32).toNatClampNeg (fX8_modulo ((σ.2 12) ((σ.2 2) x1.toNatClampNeg).toNatClampNeg) 64))) 19 (upd (σ.2 19) (0 : Int32).toNatClampNeg (-1))) 17 (upd (upd (σ.2 17) (0 : Int32).toNatClampNeg 0) (0 : Int32).toNatClampNeg (((σ.2 12) ((σ.2 2) x1.toNatClampNeg).toNatClampNeg) * ((σ.2 12) ((σ.2 3) x1.toNatClampNeg).toNatClampNeg)))) 12 (upd (σ.2 12) ((σ.2 1) x1.toNatClampNeg).toNatClampNeg (((σ.2 12) ((σ.2 2) x1.toNatClampNeg).toNatClampNeg) * ((σ.2 12) ((σ.2 3) x1.toNatClampNeg).toNatClampNeg))))) (F := (upd (σ.2 19) (0 : Int32).toNatClampNeg (-1))) rfl) rfl (vp_in_nI (n := 0) (N := 8) (by decide) (by decide)) dX8_plainRun_262 ?_
                    refine j_eqi (v' := (-1)) pk_us ?_
                    refine j_if_lt h dX8_plainRun_263 (tgt := 271) (by decide) (fun c66 => ?_) (fun c66 => ?_)
                    ·
                      subst hq57
                      have E : fX8_plainRun σ x1 = (ar (ar (ar (ar (ar σ 17 (upd (σ.2 17) (0 : Int32).toNatClampNeg 0)) 18 (upd (σ.2 18) (0 : Int32).toNatClampNeg (fX8_modulo ((σ.2 12) ((σ.2 2) x1.toNatClampNeg).toNatClampNeg) 64))) 19 (upd (σ.2 19) (0 : Int32).toNatClampNeg (-1))) 17 (upd (upd (σ.2 17) (0 : Int32).toNatClampNeg 0) (0 : Int32).toNatClampNeg (((σ.2 12) ((σ.2 2) x1.toNatClampNeg).toNatClampNeg) * ((σ.2 12) ((σ.2 3) x1.toNatClampNeg).toNatClampNeg)))) 12 (upd (σ.2 12) ((σ.2 1) x1.toNatClampNeg).toNatClampNeg (((σ.2 12) ((σ.2 2) x1.toNatClampNeg).toNatClampNeg) * ((σ.2 12) ((σ.2 3) x1.toNatClampNeg).toNatClampNeg)))) := j_ig c1 (j_ig c2 (j_ip c3 (j_ig c58 rfl)))
                      exact j_vreturn h hr (fun _ => 0) (congrArg (mx a cI cZ) E).symm dX8_plainRun_271
                    ·
                      exact absurd c66 (by decide)
                ·
                  exact absurd (c3.symm.trans c64) (by decide)
              ·
                exact absurd (c3.symm.trans c63) (by decide)
          ·
            exact absurd (c3.symm.trans c56) (by decide)
        ·
          exact absurd (c3.symm.trans c55) (by decide)
    ·
      refine j_aload_n h 2 dX8_plainRun_85 rfl rfl ?_
      refine j_get h iX8 0 (mx_c0 _ _ _ (ar (ar (ar σ 17 (upd (σ.2 17) (0 : Int32).toNatClampNeg 0)) 18 (upd (σ.2 18) (0 : Int32).toNatClampNeg (fX8_modulo ((σ.2 12) ((σ.2 2) x1.toNatClampNeg).toNatClampNeg) 64))) 19 (upd (σ.2 19) (0 : Int32).toNatClampNeg (-1)))) rfl 19 (by decide) tb3_223 rfl (v := .ref (a 10)) rfl dX8_plainRun_86 ?_
      refine j_iconst h (v := 0) dX8_plainRun_89 (by decide) ?_
      refine j_aload_n h 2 dX8_plainRun_90 rfl rfl ?_
      refine j_get h iX8 0 (mx_c0 _ _ _ (ar (ar (ar σ 17 (upd (σ.2 17) (0 : Int32).toNatClampNeg 0)) 18 (upd (σ.2 18) (0 : Int32).toNatClampNeg (fX8_modulo ((σ.2 12) ((σ.2 2) x1.toNatClampNeg).toNatClampNeg) 64))) 19 (upd (σ.2 19) (0 : Int32).toNatClampNeg (-1)))) rfl 23 (by decide) tb3_227 rfl (v := .ref (a 14)) rfl dX8_plainRun_91 ?_
      refine j_aload_n h 2 dX8_plainRun_94 rfl rfl ?_
      refine j_get h iX8 0 (mx_c0 _ _ _ (ar (ar (ar σ 17 (upd (σ.2 17) (0 : Int32).toNatClampNeg 0)) 18 (upd (σ.2 18) (0 : Int32).toNatClampNeg (fX8_modulo ((σ.2 12) ((σ.2 2) x1.toNatClampNeg).toNatClampNeg) 64))) 19 (upd (σ.2 19) (0 : Int32).toNatClampNeg (-1)))) rfl 20 (by decide) tb3_224 rfl (v := .ref (a 11)) rfl dX8_plainRun_95 ?_
      refine j_iconst h (v := 0) dX8_plainRun_98 (by decide) ?_
      refine j_iald h 11 0 (mx_g11 (σ := (ar (ar (ar σ 17 (upd (σ.2 17) (0 : Int32).toNatClampNeg 0)) 18 (upd (σ.2 18) (0 : Int32).toNatClampNeg (fX8_modulo ((σ.2 12) ((σ.2 2) x1.toNatClampNeg).toNatClampNeg) 64))) 19 (upd (σ.2 19) (0 : Int32).toNatClampNeg (-1)))) (F := (upd (σ.2 18) (0 : Int32).toNatClampNeg (fX8_modulo ((σ.2 12) ((σ.2 2) x1.toNatClampNeg).toNatClampNeg) 64))) rfl) rfl (vp_in_nI (n := 0) (N := 8) (by decide) (by decide)) dX8_plainRun_99 ?_
      refine j_eqi (v' := (fX8_modulo ((σ.2 12) ((σ.2 2) x1.toNatClampNeg).toNatClampNeg) 64)) pk_us ?_
      refine j_iald h 14 0 (mx_g14 (σ := (ar (ar (ar σ 17 (upd (σ.2 17) (0 : Int32).toNatClampNeg 0)) 18 (upd (σ.2 18) (0 : Int32).toNatClampNeg (fX8_modulo ((σ.2 12) ((σ.2 2) x1.toNatClampNeg).toNatClampNeg) 64))) 19 (upd (σ.2 19) (0 : Int32).toNatClampNeg (-1)))) (F := (σ.2 13)) rfl) rfl (m_mod64 _) dX8_plainRun_100 ?_
      refine j_iast h 10 0 (mx_g10 (σ := (ar (ar (ar σ 17 (upd (σ.2 17) (0 : Int32).toNatClampNeg 0)) 18 (upd (σ.2 18) (0 : Int32).toNatClampNeg (fX8_modulo ((σ.2 12) ((σ.2 2) x1.toNatClampNeg).toNatClampNeg) 64))) 19 (upd (σ.2 19) (0 : Int32).toNatClampNeg (-1)))) (F := (upd (σ.2 17) (0 : Int32).toNatClampNeg 0)) rfl) rfl (vp_in_nI (n := 0) (N := 8) (by decide) (by decide)) (w' := (mx a cI cZ (ar (ar (ar (ar σ 17 (upd (σ.2 17) (0 : Int32).toNatClampNeg 0)) 18 (upd (σ.2 18) (0 : Int32).toNatClampNeg (fX8_modulo ((σ.2 12) ((σ.2 2) x1.toNatClampNeg).toNatClampNeg) 64))) 19 (upd (σ.2 19) (0 : Int32).toNatClampNeg (-1))) 17 (upd (upd (σ.2 17) (0 : Int32).toNatClampNeg 0) (0 : Int32).toNatClampNeg ((σ.2 13) (fX8_modulo ((σ.2 12) ((σ.2 2) x1.toNatClampNeg).toNatClampNeg) 64).toNatClampNeg))))) (mx_s10 _ _ _ (ar (ar (ar σ 17 (upd (σ.2 17) (0 : Int32).toNatClampNeg 0)) 18 (upd (σ.2 18) (0 : Int32).toNatClampNeg (fX8_modulo ((σ.2 12) ((σ.2 2) x1.toNatClampNeg).toNatClampNeg) 64))) 19 (upd (σ.2 19) (0 : Int32).toNatClampNeg (-1))) _) dX8_plainRun_101 ?_
      refine j_aload_n h 2 dX8_plainRun_102 rfl rfl ?_
      refine j_get h iX8 0 (mx_c0 _ _ _ (ar (ar (ar (ar σ 17 (upd (σ.2 17) (0 : Int32).toNatClampNeg 0)) 18 (upd (σ.2 18) (0 : Int32).toNatClampNeg (fX8_modulo ((σ.2 12) ((σ.2 2) x1.toNatClampNeg).toNatClampNeg) 64))) 19 (upd (σ.2 19) (0 : Int32).toNatClampNeg (-1))) 17 (upd (upd (σ.2 17) (0 : Int32).toNatClampNeg 0) (0 : Int32).toNatClampNeg ((σ.2 13) (fX8_modulo ((σ.2 12) ((σ.2 2) x1.toNatClampNeg).toNatClampNeg) 64).toNatClampNeg)))) rfl 10 (by decide) tb3_214 rfl (v := .ref (a 1)) rfl dX8_plainRun_103 ?_
      refine j_iload_n h 3 dX8_plainRun_106 rfl rfl ?_
      refine j_iald h 1 0 (mx_g1 (σ := (ar (ar (ar (ar σ 17 (upd (σ.2 17) (0 : Int32).toNatClampNeg 0)) 18 (upd (σ.2 18) (0 : Int32).toNatClampNeg (fX8_modulo ((σ.2 12) ((σ.2 2) x1.toNatClampNeg).toNatClampNeg) 64))) 19 (upd (σ.2 19) (0 : Int32).toNatClampNeg (-1))) 17 (upd (upd (σ.2 17) (0 : Int32).toNatClampNeg 0) (0 : Int32).toNatClampNeg ((σ.2 13) (fX8_modulo ((σ.2 12) ((σ.2 2) x1.toNatClampNeg).toNatClampNeg) 64).toNatClampNeg)))) (F := (σ.2 0)) rfl) rfl h1 dX8_plainRun_107 ?_
      refine j_iconst h (v := 3) dX8_plainRun_108 (by decide) ?_
      refine j_icmp_ne h dX8_plainRun_109 (tgt := 121) (by decide) (fun c67 => ?_) (fun c67 => ?_)
      ·
        refine j_aload_n h 2 dX8_plainRun_121 rfl rfl ?_
        refine j_get h iX8 0 (mx_c0 _ _ _ (ar (ar (ar (ar σ 17 (upd (σ.2 17) (0 : Int32).toNatClampNeg 0)) 18 (upd (σ.2 18) (0 : Int32).toNatClampNeg (fX8_modulo ((σ.2 12) ((σ.2 2) x1.toNatClampNeg).toNatClampNeg) 64))) 19 (upd (σ.2 19) (0 : Int32).toNatClampNeg (-1))) 17 (upd (upd (σ.2 17) (0 : Int32).toNatClampNeg 0) (0 : Int32).toNatClampNeg ((σ.2 13) (fX8_modulo ((σ.2 12) ((σ.2 2) x1.toNatClampNeg).toNatClampNeg) 64).toNatClampNeg)))) rfl 10 (by decide) tb3_214 rfl (v := .ref (a 1)) rfl dX8_plainRun_122 ?_
        refine j_iload_n h 3 dX8_plainRun_125 rfl rfl ?_
        refine j_iald h 1 0 (mx_g1 (σ := (ar (ar (ar (ar σ 17 (upd (σ.2 17) (0 : Int32).toNatClampNeg 0)) 18 (upd (σ.2 18) (0 : Int32).toNatClampNeg (fX8_modulo ((σ.2 12) ((σ.2 2) x1.toNatClampNeg).toNatClampNeg) 64))) 19 (upd (σ.2 19) (0 : Int32).toNatClampNeg (-1))) 17 (upd (upd (σ.2 17) (0 : Int32).toNatClampNeg 0) (0 : Int32).toNatClampNeg ((σ.2 13) (fX8_modulo ((σ.2 12) ((σ.2 2) x1.toNatClampNeg).toNatClampNeg) 64).toNatClampNeg)))) (F := (σ.2 0)) rfl) rfl h1 dX8_plainRun_126 ?_
        refine j_bipush h (v := 7) dX8_plainRun_127 (by decide) ?_
        refine j_icmp_ne h dX8_plainRun_129 (tgt := 144) (by decide) (fun c68 => ?_) (fun c68 => ?_)
        ·
          refine j_aload_n h 2 dX8_plainRun_144 rfl rfl ?_
          refine j_get h iX8 0 (mx_c0 _ _ _ (ar (ar (ar (ar σ 17 (upd (σ.2 17) (0 : Int32).toNatClampNeg 0)) 18 (upd (σ.2 18) (0 : Int32).toNatClampNeg (fX8_modulo ((σ.2 12) ((σ.2 2) x1.toNatClampNeg).toNatClampNeg) 64))) 19 (upd (σ.2 19) (0 : Int32).toNatClampNeg (-1))) 17 (upd (upd (σ.2 17) (0 : Int32).toNatClampNeg 0) (0 : Int32).toNatClampNeg ((σ.2 13) (fX8_modulo ((σ.2 12) ((σ.2 2) x1.toNatClampNeg).toNatClampNeg) 64).toNatClampNeg)))) rfl 10 (by decide) tb3_214 rfl (v := .ref (a 1)) rfl dX8_plainRun_145 ?_
          refine j_iload_n h 3 dX8_plainRun_148 rfl rfl ?_
          refine j_iald h 1 0 (mx_g1 (σ := (ar (ar (ar (ar σ 17 (upd (σ.2 17) (0 : Int32).toNatClampNeg 0)) 18 (upd (σ.2 18) (0 : Int32).toNatClampNeg (fX8_modulo ((σ.2 12) ((σ.2 2) x1.toNatClampNeg).toNatClampNeg) 64))) 19 (upd (σ.2 19) (0 : Int32).toNatClampNeg (-1))) 17 (upd (upd (σ.2 17) (0 : Int32).toNatClampNeg 0) (0 : Int32).toNatClampNeg ((σ.2 13) (fX8_modulo ((σ.2 12) ((σ.2 2) x1.toNatClampNeg).toNatClampNeg) 64).toNatClampNeg)))) (F := (σ.2 0)) rfl) rfl h1 dX8_plainRun_149 ?_
          refine j_iconst h (v := 2) dX8_plainRun_150 (by decide) ?_
          refine j_icmp_ne h dX8_plainRun_151 (tgt := 173) (by decide) (fun c69 => ?_) (fun c69 => ?_)
          ·
            refine j_aload_n h 2 dX8_plainRun_173 rfl rfl ?_
            refine j_iload_n h 3 dX8_plainRun_174 rfl rfl ?_
            refine j_callVi h (kX8_writes l D a cI cZ (ar (ar (ar (ar σ 17 (upd (σ.2 17) (0 : Int32).toNatClampNeg 0)) 18 (upd (σ.2 18) (0 : Int32).toNatClampNeg (fX8_modulo ((σ.2 12) ((σ.2 2) x1.toNatClampNeg).toNatClampNeg) 64))) 19 (upd (σ.2 19) (0 : Int32).toNatClampNeg (-1))) 17 (upd (upd (σ.2 17) (0 : Int32).toNatClampNeg 0) (0 : Int32).toNatClampNeg ((σ.2 13) (fX8_modulo ((σ.2 12) ((σ.2 2) x1.toNatClampNeg).toNatClampNeg) 64).toNatClampNeg))) x1 h1) tb4_134 tb4_136 tp_18 tb1_11 tb4_137 ⟨rfl, rfl⟩ (n := 1) (by decide +kernel) ⟨Nat.le_of_ble_eq_true rfl, Nat.le_of_ble_eq_true rfl⟩ (As := [.int x1]) rfl (ci := 8) (q0 := 0) rfl (mx_c0 _ _ _ (ar (ar (ar (ar σ 17 (upd (σ.2 17) (0 : Int32).toNatClampNeg 0)) 18 (upd (σ.2 18) (0 : Int32).toNatClampNeg (fX8_modulo ((σ.2 12) ((σ.2 2) x1.toNatClampNeg).toNatClampNeg) 64))) 19 (upd (σ.2 19) (0 : Int32).toNatClampNeg (-1))) 17 (upd (upd (σ.2 17) (0 : Int32).toNatClampNeg 0) (0 : Int32).toNatClampNeg ((σ.2 13) (fX8_modulo ((σ.2 12) ((σ.2 2) x1.toNatClampNeg).toNatClampNeg) 64).toNatClampNeg)))) (st := []) rfl (Nat.le_of_ble_eq_true rfl) dX8_plainRun_175 ⟨Nat.zero_le _, Nat.zero_le _⟩ ?_
            generalize hq70 : (fX8_writes (ar (ar (ar (ar σ 17 (upd (σ.2 17) (0 : Int32).toNatClampNeg 0)) 18 (upd (σ.2 18) (0 : Int32).toNatClampNeg (fX8_modulo ((σ.2 12) ((σ.2 2) x1.toNatClampNeg).toNatClampNeg) 64))) 19 (upd (σ.2 19) (0 : Int32).toNatClampNeg (-1))) 17 (upd (upd (σ.2 17) (0 : Int32).toNatClampNeg 0) (0 : Int32).toNatClampNeg ((σ.2 13) (fX8_modulo ((σ.2 12) ((σ.2 2) x1.toNatClampNeg).toNatClampNeg) 64).toNatClampNeg))) x1) = q70
            refine j_if_eq h dX8_plainRun_178 (tgt := 198) (by decide) (fun c71 => ?_) (fun c71 => ?_)
            ·
              refine j_aload_n h 2 dX8_plainRun_198 rfl rfl ?_
              refine j_get h iX8 0 (mx_c0 _ _ _ (ar (ar (ar (ar σ 17 (upd (σ.2 17) (0 : Int32).toNatClampNeg 0)) 18 (upd (σ.2 18) (0 : Int32).toNatClampNeg (fX8_modulo ((σ.2 12) ((σ.2 2) x1.toNatClampNeg).toNatClampNeg) 64))) 19 (upd (σ.2 19) (0 : Int32).toNatClampNeg (-1))) 17 (upd (upd (σ.2 17) (0 : Int32).toNatClampNeg 0) (0 : Int32).toNatClampNeg ((σ.2 13) (fX8_modulo ((σ.2 12) ((σ.2 2) x1.toNatClampNeg).toNatClampNeg) 64).toNatClampNeg)))) rfl 10 (by decide) tb3_214 rfl (v := .ref (a 1)) rfl dX8_plainRun_199 ?_
              refine j_iload_n h 3 dX8_plainRun_202 rfl rfl ?_
              refine j_iald h 1 0 (mx_g1 (σ := (ar (ar (ar (ar σ 17 (upd (σ.2 17) (0 : Int32).toNatClampNeg 0)) 18 (upd (σ.2 18) (0 : Int32).toNatClampNeg (fX8_modulo ((σ.2 12) ((σ.2 2) x1.toNatClampNeg).toNatClampNeg) 64))) 19 (upd (σ.2 19) (0 : Int32).toNatClampNeg (-1))) 17 (upd (upd (σ.2 17) (0 : Int32).toNatClampNeg 0) (0 : Int32).toNatClampNeg ((σ.2 13) (fX8_modulo ((σ.2 12) ((σ.2 2) x1.toNatClampNeg).toNatClampNeg) 64).toNatClampNeg)))) (F := (σ.2 0)) rfl) rfl h1 dX8_plainRun_203 ?_
              refine j_iconst h (v := 4) dX8_plainRun_204 (by decide) ?_
              refine j_icmp_ne h dX8_plainRun_205 (tgt := 231) (by decide) (fun c72 => ?_) (fun c72 => ?_)
              ·
                refine j_aload_n h 2 dX8_plainRun_231 rfl rfl ?_
                refine j_get h iX8 0 (mx_c0 _ _ _ (ar (ar (ar (ar σ 17 (upd (σ.2 17) (0 : Int32).toNatClampNeg 0)) 18 (upd (σ.2 18) (0 : Int32).toNatClampNeg (fX8_modulo ((σ.2 12) ((σ.2 2) x1.toNatClampNeg).toNatClampNeg) 64))) 19 (upd (σ.2 19) (0 : Int32).toNatClampNeg (-1))) 17 (upd (upd (σ.2 17) (0 : Int32).toNatClampNeg 0) (0 : Int32).toNatClampNeg ((σ.2 13) (fX8_modulo ((σ.2 12) ((σ.2 2) x1.toNatClampNeg).toNatClampNeg) 64).toNatClampNeg)))) rfl 10 (by decide) tb3_214 rfl (v := .ref (a 1)) rfl dX8_plainRun_232 ?_
                refine j_iload_n h 3 dX8_plainRun_235 rfl rfl ?_
                refine j_iald h 1 0 (mx_g1 (σ := (ar (ar (ar (ar σ 17 (upd (σ.2 17) (0 : Int32).toNatClampNeg 0)) 18 (upd (σ.2 18) (0 : Int32).toNatClampNeg (fX8_modulo ((σ.2 12) ((σ.2 2) x1.toNatClampNeg).toNatClampNeg) 64))) 19 (upd (σ.2 19) (0 : Int32).toNatClampNeg (-1))) 17 (upd (upd (σ.2 17) (0 : Int32).toNatClampNeg 0) (0 : Int32).toNatClampNeg ((σ.2 13) (fX8_modulo ((σ.2 12) ((σ.2 2) x1.toNatClampNeg).toNatClampNeg) 64).toNatClampNeg)))) (F := (σ.2 0)) rfl) rfl h1 dX8_plainRun_236 ?_
                refine j_bipush h (v := 6) dX8_plainRun_237 (by decide) ?_
                refine j_icmp_ne h dX8_plainRun_239 (tgt := 247) (by decide) (fun c73 => ?_) (fun c73 => ?_)
                ·
                  refine j_aload_n h 2 dX8_plainRun_247 rfl rfl ?_
                  refine j_get h iX8 0 (mx_c0 _ _ _ (ar (ar (ar (ar σ 17 (upd (σ.2 17) (0 : Int32).toNatClampNeg 0)) 18 (upd (σ.2 18) (0 : Int32).toNatClampNeg (fX8_modulo ((σ.2 12) ((σ.2 2) x1.toNatClampNeg).toNatClampNeg) 64))) 19 (upd (σ.2 19) (0 : Int32).toNatClampNeg (-1))) 17 (upd (upd (σ.2 17) (0 : Int32).toNatClampNeg 0) (0 : Int32).toNatClampNeg ((σ.2 13) (fX8_modulo ((σ.2 12) ((σ.2 2) x1.toNatClampNeg).toNatClampNeg) 64).toNatClampNeg)))) rfl 10 (by decide) tb3_214 rfl (v := .ref (a 1)) rfl dX8_plainRun_248 ?_
                  refine j_iload_n h 3 dX8_plainRun_251 rfl rfl ?_
                  refine j_iald h 1 0 (mx_g1 (σ := (ar (ar (ar (ar σ 17 (upd (σ.2 17) (0 : Int32).toNatClampNeg 0)) 18 (upd (σ.2 18) (0 : Int32).toNatClampNeg (fX8_modulo ((σ.2 12) ((σ.2 2) x1.toNatClampNeg).toNatClampNeg) 64))) 19 (upd (σ.2 19) (0 : Int32).toNatClampNeg (-1))) 17 (upd (upd (σ.2 17) (0 : Int32).toNatClampNeg 0) (0 : Int32).toNatClampNeg ((σ.2 13) (fX8_modulo ((σ.2 12) ((σ.2 2) x1.toNatClampNeg).toNatClampNeg) 64).toNatClampNeg)))) (F := (σ.2 0)) rfl) rfl h1 dX8_plainRun_252 ?_
                  refine j_iconst h (v := 5) dX8_plainRun_253 (by decide) ?_
                  refine j_icmp_eq h dX8_plainRun_254 (tgt := 266) (by decide) (fun c74 => ?_) (fun c74 => ?_)
                  ·
                    exact absurd (c2.symm.trans c74) (by decide)
                  ·
                    refine j_aload_n h 2 dX8_plainRun_257 rfl rfl ?_
                    refine j_get h iX8 0 (mx_c0 _ _ _ (ar (ar (ar (ar σ 17 (upd (σ.2 17) (0 : Int32).toNatClampNeg 0)) 18 (upd (σ.2 18) (0 : Int32).toNatClampNeg (fX8_modulo ((σ.2 12) ((σ.2 2) x1.toNatClampNeg).toNatClampNeg) 64))) 19 (upd (σ.2 19) (0 : Int32).toNatClampNeg (-1))) 17 (upd (upd (σ.2 17) (0 : Int32).toNatClampNeg 0) (0 : Int32).toNatClampNeg ((σ.2 13) (fX8_modulo ((σ.2 12) ((σ.2 2) x1.toNatClampNeg).toNatClampNeg) 64).toNatClampNeg)))) rfl 21 (by decide) tb3_225 rfl (v := .ref (a 12)) rfl dX8_plainRun_258 ?_
                    refine j_iconst h (v := 0) dX8_plainRun_261 (by decide) ?_
                    refine j_iald h 12 0 (mx_g12 (σ := (ar (ar (ar (ar σ 17 (upd (σ.2 17) (0 : Int32).toNatClampNeg 0)) 18 (upd (σ.2 18) (0 : Int32).toNatClampNeg (fX8_modulo ((σ.2 12) ((σ.2 2) x1.toNatClampNeg).toNatClampNeg) 64))) 19 (upd (σ.2 19) (0 : Int32).toNatClampNeg (-1))) 17 (upd (upd (σ.2 17) (0 : Int32).toNatClampNeg 0) (0 : Int32).toNatClampNeg ((σ.2 13) (fX8_modulo ((σ.2 12) ((σ.2 2) x1.toNatClampNeg).toNatClampNeg) 64).toNatClampNeg)))) (F := (upd (σ.2 19) (0 : Int32).toNatClampNeg (-1))) rfl) rfl (vp_in_nI (n := 0) (N := 8) (by decide) (by decide)) dX8_plainRun_262 ?_
                    refine j_eqi (v' := (-1)) pk_us ?_
                    refine j_if_lt h dX8_plainRun_263 (tgt := 271) (by decide) (fun c75 => ?_) (fun c75 => ?_)
                    ·
                      subst hq70
                      have E : fX8_plainRun σ x1 = (ar (ar (ar (ar σ 17 (upd (σ.2 17) (0 : Int32).toNatClampNeg 0)) 18 (upd (σ.2 18) (0 : Int32).toNatClampNeg (fX8_modulo ((σ.2 12) ((σ.2 2) x1.toNatClampNeg).toNatClampNeg) 64))) 19 (upd (σ.2 19) (0 : Int32).toNatClampNeg (-1))) 17 (upd (upd (σ.2 17) (0 : Int32).toNatClampNeg 0) (0 : Int32).toNatClampNeg ((σ.2 13) (fX8_modulo ((σ.2 12) ((σ.2 2) x1.toNatClampNeg).toNatClampNeg) 64).toNatClampNeg))) := j_ig c1 (j_ip c2 (j_ip c71 rfl))
                      exact j_vreturn h hr (fun _ => 0) (congrArg (mx a cI cZ) E).symm dX8_plainRun_271
                    ·
                      exact absurd c75 (by decide)
                ·
                  exact absurd (c2.symm.trans c73) (by decide)
              ·
                exact absurd (c2.symm.trans c72) (by decide)
            ·
              refine j_aload_n h 2 dX8_plainRun_181 rfl rfl ?_
              refine j_get h iX8 0 (mx_c0 _ _ _ (ar (ar (ar (ar σ 17 (upd (σ.2 17) (0 : Int32).toNatClampNeg 0)) 18 (upd (σ.2 18) (0 : Int32).toNatClampNeg (fX8_modulo ((σ.2 12) ((σ.2 2) x1.toNatClampNeg).toNatClampNeg) 64))) 19 (upd (σ.2 19) (0 : Int32).toNatClampNeg (-1))) 17 (upd (upd (σ.2 17) (0 : Int32).toNatClampNeg 0) (0 : Int32).toNatClampNeg ((σ.2 13) (fX8_modulo ((σ.2 12) ((σ.2 2) x1.toNatClampNeg).toNatClampNeg) 64).toNatClampNeg)))) rfl 22 (by decide) tb3_226 rfl (v := .ref (a 13)) rfl dX8_plainRun_182 ?_
              refine j_aload_n h 2 dX8_plainRun_185 rfl rfl ?_
              refine j_get h iX8 0 (mx_c0 _ _ _ (ar (ar (ar (ar σ 17 (upd (σ.2 17) (0 : Int32).toNatClampNeg 0)) 18 (upd (σ.2 18) (0 : Int32).toNatClampNeg (fX8_modulo ((σ.2 12) ((σ.2 2) x1.toNatClampNeg).toNatClampNeg) 64))) 19 (upd (σ.2 19) (0 : Int32).toNatClampNeg (-1))) 17 (upd (upd (σ.2 17) (0 : Int32).toNatClampNeg 0) (0 : Int32).toNatClampNeg ((σ.2 13) (fX8_modulo ((σ.2 12) ((σ.2 2) x1.toNatClampNeg).toNatClampNeg) 64).toNatClampNeg)))) rfl 11 (by decide) tb3_215 rfl (v := .ref (a 2)) rfl dX8_plainRun_186 ?_
              refine j_iload_n h 3 dX8_plainRun_189 rfl rfl ?_
              refine j_iald h 2 0 (mx_g2 (σ := (ar (ar (ar (ar σ 17 (upd (σ.2 17) (0 : Int32).toNatClampNeg 0)) 18 (upd (σ.2 18) (0 : Int32).toNatClampNeg (fX8_modulo ((σ.2 12) ((σ.2 2) x1.toNatClampNeg).toNatClampNeg) 64))) 19 (upd (σ.2 19) (0 : Int32).toNatClampNeg (-1))) 17 (upd (upd (σ.2 17) (0 : Int32).toNatClampNeg 0) (0 : Int32).toNatClampNeg ((σ.2 13) (fX8_modulo ((σ.2 12) ((σ.2 2) x1.toNatClampNeg).toNatClampNeg) 64).toNatClampNeg)))) (F := (σ.2 1)) rfl) rfl h1 dX8_plainRun_190 ?_
              refine j_aload_n h 2 dX8_plainRun_191 rfl rfl ?_
              refine j_get h iX8 0 (mx_c0 _ _ _ (ar (ar (ar (ar σ 17 (upd (σ.2 17) (0 : Int32).toNatClampNeg 0)) 18 (upd (σ.2 18) (0 : Int32).toNatClampNeg (fX8_modulo ((σ.2 12) ((σ.2 2) x1.toNatClampNeg).toNatClampNeg) 64))) 19 (upd (σ.2 19) (0 : Int32).toNatClampNeg (-1))) 17 (upd (upd (σ.2 17) (0 : Int32).toNatClampNeg 0) (0 : Int32).toNatClampNeg ((σ.2 13) (fX8_modulo ((σ.2 12) ((σ.2 2) x1.toNatClampNeg).toNatClampNeg) 64).toNatClampNeg)))) rfl 19 (by decide) tb3_223 rfl (v := .ref (a 10)) rfl dX8_plainRun_192 ?_
              refine j_iconst h (v := 0) dX8_plainRun_195 (by decide) ?_
              refine j_iald h 10 0 (mx_g10 (σ := (ar (ar (ar (ar σ 17 (upd (σ.2 17) (0 : Int32).toNatClampNeg 0)) 18 (upd (σ.2 18) (0 : Int32).toNatClampNeg (fX8_modulo ((σ.2 12) ((σ.2 2) x1.toNatClampNeg).toNatClampNeg) 64))) 19 (upd (σ.2 19) (0 : Int32).toNatClampNeg (-1))) 17 (upd (upd (σ.2 17) (0 : Int32).toNatClampNeg 0) (0 : Int32).toNatClampNeg ((σ.2 13) (fX8_modulo ((σ.2 12) ((σ.2 2) x1.toNatClampNeg).toNatClampNeg) 64).toNatClampNeg)))) (F := (upd (upd (σ.2 17) (0 : Int32).toNatClampNeg 0) (0 : Int32).toNatClampNeg ((σ.2 13) (fX8_modulo ((σ.2 12) ((σ.2 2) x1.toNatClampNeg).toNatClampNeg) 64).toNatClampNeg))) rfl) rfl (vp_in_nI (n := 0) (N := 8) (by decide) (by decide)) dX8_plainRun_196 ?_
              refine j_eqi (v' := ((σ.2 13) (fX8_modulo ((σ.2 12) ((σ.2 2) x1.toNatClampNeg).toNatClampNeg) 64).toNatClampNeg)) pk_us ?_
              refine j_iast h 13 0 (mx_g13 (σ := (ar (ar (ar (ar σ 17 (upd (σ.2 17) (0 : Int32).toNatClampNeg 0)) 18 (upd (σ.2 18) (0 : Int32).toNatClampNeg (fX8_modulo ((σ.2 12) ((σ.2 2) x1.toNatClampNeg).toNatClampNeg) 64))) 19 (upd (σ.2 19) (0 : Int32).toNatClampNeg (-1))) 17 (upd (upd (σ.2 17) (0 : Int32).toNatClampNeg 0) (0 : Int32).toNatClampNeg ((σ.2 13) (fX8_modulo ((σ.2 12) ((σ.2 2) x1.toNatClampNeg).toNatClampNeg) 64).toNatClampNeg)))) (F := (σ.2 12)) rfl) rfl (hR _ (m_cl h1 (by decide))).1 (w' := (mx a cI cZ (ar (ar (ar (ar (ar σ 17 (upd (σ.2 17) (0 : Int32).toNatClampNeg 0)) 18 (upd (σ.2 18) (0 : Int32).toNatClampNeg (fX8_modulo ((σ.2 12) ((σ.2 2) x1.toNatClampNeg).toNatClampNeg) 64))) 19 (upd (σ.2 19) (0 : Int32).toNatClampNeg (-1))) 17 (upd (upd (σ.2 17) (0 : Int32).toNatClampNeg 0) (0 : Int32).toNatClampNeg ((σ.2 13) (fX8_modulo ((σ.2 12) ((σ.2 2) x1.toNatClampNeg).toNatClampNeg) 64).toNatClampNeg))) 12 (upd (σ.2 12) ((σ.2 1) x1.toNatClampNeg).toNatClampNeg ((σ.2 13) (fX8_modulo ((σ.2 12) ((σ.2 2) x1.toNatClampNeg).toNatClampNeg) 64).toNatClampNeg))))) (mx_s13 _ _ _ (ar (ar (ar (ar σ 17 (upd (σ.2 17) (0 : Int32).toNatClampNeg 0)) 18 (upd (σ.2 18) (0 : Int32).toNatClampNeg (fX8_modulo ((σ.2 12) ((σ.2 2) x1.toNatClampNeg).toNatClampNeg) 64))) 19 (upd (σ.2 19) (0 : Int32).toNatClampNeg (-1))) 17 (upd (upd (σ.2 17) (0 : Int32).toNatClampNeg 0) (0 : Int32).toNatClampNeg ((σ.2 13) (fX8_modulo ((σ.2 12) ((σ.2 2) x1.toNatClampNeg).toNatClampNeg) 64).toNatClampNeg))) _) dX8_plainRun_197 ?_
              refine j_aload_n h 2 dX8_plainRun_198 rfl rfl ?_
              refine j_get h iX8 0 (mx_c0 _ _ _ (ar (ar (ar (ar (ar σ 17 (upd (σ.2 17) (0 : Int32).toNatClampNeg 0)) 18 (upd (σ.2 18) (0 : Int32).toNatClampNeg (fX8_modulo ((σ.2 12) ((σ.2 2) x1.toNatClampNeg).toNatClampNeg) 64))) 19 (upd (σ.2 19) (0 : Int32).toNatClampNeg (-1))) 17 (upd (upd (σ.2 17) (0 : Int32).toNatClampNeg 0) (0 : Int32).toNatClampNeg ((σ.2 13) (fX8_modulo ((σ.2 12) ((σ.2 2) x1.toNatClampNeg).toNatClampNeg) 64).toNatClampNeg))) 12 (upd (σ.2 12) ((σ.2 1) x1.toNatClampNeg).toNatClampNeg ((σ.2 13) (fX8_modulo ((σ.2 12) ((σ.2 2) x1.toNatClampNeg).toNatClampNeg) 64).toNatClampNeg)))) rfl 10 (by decide) tb3_214 rfl (v := .ref (a 1)) rfl dX8_plainRun_199 ?_
              refine j_iload_n h 3 dX8_plainRun_202 rfl rfl ?_
              refine j_iald h 1 0 (mx_g1 (σ := (ar (ar (ar (ar (ar σ 17 (upd (σ.2 17) (0 : Int32).toNatClampNeg 0)) 18 (upd (σ.2 18) (0 : Int32).toNatClampNeg (fX8_modulo ((σ.2 12) ((σ.2 2) x1.toNatClampNeg).toNatClampNeg) 64))) 19 (upd (σ.2 19) (0 : Int32).toNatClampNeg (-1))) 17 (upd (upd (σ.2 17) (0 : Int32).toNatClampNeg 0) (0 : Int32).toNatClampNeg ((σ.2 13) (fX8_modulo ((σ.2 12) ((σ.2 2) x1.toNatClampNeg).toNatClampNeg) 64).toNatClampNeg))) 12 (upd (σ.2 12) ((σ.2 1) x1.toNatClampNeg).toNatClampNeg ((σ.2 13) (fX8_modulo ((σ.2 12) ((σ.2 2) x1.toNatClampNeg).toNatClampNeg) 64).toNatClampNeg)))) (F := (σ.2 0)) rfl) rfl h1 dX8_plainRun_203 ?_
              refine j_iconst h (v := 4) dX8_plainRun_204 (by decide) ?_
              refine j_icmp_ne h dX8_plainRun_205 (tgt := 231) (by decide) (fun c76 => ?_) (fun c76 => ?_)
              ·
                refine j_aload_n h 2 dX8_plainRun_231 rfl rfl ?_
                refine j_get h iX8 0 (mx_c0 _ _ _ (ar (ar (ar (ar (ar σ 17 (upd (σ.2 17) (0 : Int32).toNatClampNeg 0)) 18 (upd (σ.2 18) (0 : Int32).toNatClampNeg (fX8_modulo ((σ.2 12) ((σ.2 2) x1.toNatClampNeg).toNatClampNeg) 64))) 19 (upd (σ.2 19) (0 : Int32).toNatClampNeg (-1))) 17 (upd (upd (σ.2 17) (0 : Int32).toNatClampNeg 0) (0 : Int32).toNatClampNeg ((σ.2 13) (fX8_modulo ((σ.2 12) ((σ.2 2) x1.toNatClampNeg).toNatClampNeg) 64).toNatClampNeg))) 12 (upd (σ.2 12) ((σ.2 1) x1.toNatClampNeg).toNatClampNeg ((σ.2 13) (fX8_modulo ((σ.2 12) ((σ.2 2) x1.toNatClampNeg).toNatClampNeg) 64).toNatClampNeg)))) rfl 10 (by decide) tb3_214 rfl (v := .ref (a 1)) rfl dX8_plainRun_232 ?_
                refine j_iload_n h 3 dX8_plainRun_235 rfl rfl ?_
                refine j_iald h 1 0 (mx_g1 (σ := (ar (ar (ar (ar (ar σ 17 (upd (σ.2 17) (0 : Int32).toNatClampNeg 0)) 18 (upd (σ.2 18) (0 : Int32).toNatClampNeg (fX8_modulo ((σ.2 12) ((σ.2 2) x1.toNatClampNeg).toNatClampNeg) 64))) 19 (upd (σ.2 19) (0 : Int32).toNatClampNeg (-1))) 17 (upd (upd (σ.2 17) (0 : Int32).toNatClampNeg 0) (0 : Int32).toNatClampNeg ((σ.2 13) (fX8_modulo ((σ.2 12) ((σ.2 2) x1.toNatClampNeg).toNatClampNeg) 64).toNatClampNeg))) 12 (upd (σ.2 12) ((σ.2 1) x1.toNatClampNeg).toNatClampNeg ((σ.2 13) (fX8_modulo ((σ.2 12) ((σ.2 2) x1.toNatClampNeg).toNatClampNeg) 64).toNatClampNeg)))) (F := (σ.2 0)) rfl) rfl h1 dX8_plainRun_236 ?_
                refine j_bipush h (v := 6) dX8_plainRun_237 (by decide) ?_
                refine j_icmp_ne h dX8_plainRun_239 (tgt := 247) (by decide) (fun c77 => ?_) (fun c77 => ?_)
                ·
                  refine j_aload_n h 2 dX8_plainRun_247 rfl rfl ?_
                  refine j_get h iX8 0 (mx_c0 _ _ _ (ar (ar (ar (ar (ar σ 17 (upd (σ.2 17) (0 : Int32).toNatClampNeg 0)) 18 (upd (σ.2 18) (0 : Int32).toNatClampNeg (fX8_modulo ((σ.2 12) ((σ.2 2) x1.toNatClampNeg).toNatClampNeg) 64))) 19 (upd (σ.2 19) (0 : Int32).toNatClampNeg (-1))) 17 (upd (upd (σ.2 17) (0 : Int32).toNatClampNeg 0) (0 : Int32).toNatClampNeg ((σ.2 13) (fX8_modulo ((σ.2 12) ((σ.2 2) x1.toNatClampNeg).toNatClampNeg) 64).toNatClampNeg))) 12 (upd (σ.2 12) ((σ.2 1) x1.toNatClampNeg).toNatClampNeg ((σ.2 13) (fX8_modulo ((σ.2 12) ((σ.2 2) x1.toNatClampNeg).toNatClampNeg) 64).toNatClampNeg)))) rfl 10 (by decide) tb3_214 rfl (v := .ref (a 1)) rfl dX8_plainRun_248 ?_
                  refine j_iload_n h 3 dX8_plainRun_251 rfl rfl ?_
                  refine j_iald h 1 0 (mx_g1 (σ := (ar (ar (ar (ar (ar σ 17 (upd (σ.2 17) (0 : Int32).toNatClampNeg 0)) 18 (upd (σ.2 18) (0 : Int32).toNatClampNeg (fX8_modulo ((σ.2 12) ((σ.2 2) x1.toNatClampNeg).toNatClampNeg) 64))) 19 (upd (σ.2 19) (0 : Int32).toNatClampNeg (-1))) 17 (upd (upd (σ.2 17) (0 : Int32).toNatClampNeg 0) (0 : Int32).toNatClampNeg ((σ.2 13) (fX8_modulo ((σ.2 12) ((σ.2 2) x1.toNatClampNeg).toNatClampNeg) 64).toNatClampNeg))) 12 (upd (σ.2 12) ((σ.2 1) x1.toNatClampNeg).toNatClampNeg ((σ.2 13) (fX8_modulo ((σ.2 12) ((σ.2 2) x1.toNatClampNeg).toNatClampNeg) 64).toNatClampNeg)))) (F := (σ.2 0)) rfl) rfl h1 dX8_plainRun_252 ?_
                  refine j_iconst h (v := 5) dX8_plainRun_253 (by decide) ?_
                  refine j_icmp_eq h dX8_plainRun_254 (tgt := 266) (by decide) (fun c78 => ?_) (fun c78 => ?_)
                  ·
                    exact absurd (c2.symm.trans c78) (by decide)
                  ·
                    refine j_aload_n h 2 dX8_plainRun_257 rfl rfl ?_
                    refine j_get h iX8 0 (mx_c0 _ _ _ (ar (ar (ar (ar (ar σ 17 (upd (σ.2 17) (0 : Int32).toNatClampNeg 0)) 18 (upd (σ.2 18) (0 : Int32).toNatClampNeg (fX8_modulo ((σ.2 12) ((σ.2 2) x1.toNatClampNeg).toNatClampNeg) 64))) 19 (upd (σ.2 19) (0 : Int32).toNatClampNeg (-1))) 17 (upd (upd (σ.2 17) (0 : Int32).toNatClampNeg 0) (0 : Int32).toNatClampNeg ((σ.2 13) (fX8_modulo ((σ.2 12) ((σ.2 2) x1.toNatClampNeg).toNatClampNeg) 64).toNatClampNeg))) 12 (upd (σ.2 12) ((σ.2 1) x1.toNatClampNeg).toNatClampNeg ((σ.2 13) (fX8_modulo ((σ.2 12) ((σ.2 2) x1.toNatClampNeg).toNatClampNeg) 64).toNatClampNeg)))) rfl 21 (by decide) tb3_225 rfl (v := .ref (a 12)) rfl dX8_plainRun_258 ?_
                    refine j_iconst h (v := 0) dX8_plainRun_261 (by decide) ?_
                    refine j_iald h 12 0 (mx_g12 (σ := (ar (ar (ar (ar (ar σ 17 (upd (σ.2 17) (0 : Int32).toNatClampNeg 0)) 18 (upd (σ.2 18) (0 : Int32).toNatClampNeg (fX8_modulo ((σ.2 12) ((σ.2 2) x1.toNatClampNeg).toNatClampNeg) 64))) 19 (upd (σ.2 19) (0 : Int32).toNatClampNeg (-1))) 17 (upd (upd (σ.2 17) (0 : Int32).toNatClampNeg 0) (0 : Int32).toNatClampNeg ((σ.2 13) (fX8_modulo ((σ.2 12) ((σ.2 2) x1.toNatClampNeg).toNatClampNeg) 64).toNatClampNeg))) 12 (upd (σ.2 12) ((σ.2 1) x1.toNatClampNeg).toNatClampNeg ((σ.2 13) (fX8_modulo ((σ.2 12) ((σ.2 2) x1.toNatClampNeg).toNatClampNeg) 64).toNatClampNeg)))) (F := (upd (σ.2 19) (0 : Int32).toNatClampNeg (-1))) rfl) rfl (vp_in_nI (n := 0) (N := 8) (by decide) (by decide)) dX8_plainRun_262 ?_
                    refine j_eqi (v' := (-1)) pk_us ?_
                    refine j_if_lt h dX8_plainRun_263 (tgt := 271) (by decide) (fun c79 => ?_) (fun c79 => ?_)
                    ·
                      subst hq70
                      have E : fX8_plainRun σ x1 = (ar (ar (ar (ar (ar σ 17 (upd (σ.2 17) (0 : Int32).toNatClampNeg 0)) 18 (upd (σ.2 18) (0 : Int32).toNatClampNeg (fX8_modulo ((σ.2 12) ((σ.2 2) x1.toNatClampNeg).toNatClampNeg) 64))) 19 (upd (σ.2 19) (0 : Int32).toNatClampNeg (-1))) 17 (upd (upd (σ.2 17) (0 : Int32).toNatClampNeg 0) (0 : Int32).toNatClampNeg ((σ.2 13) (fX8_modulo ((σ.2 12) ((σ.2 2) x1.toNatClampNeg).toNatClampNeg) 64).toNatClampNeg))) 12 (upd (σ.2 12) ((σ.2 1) x1.toNatClampNeg).toNatClampNeg ((σ.2 13) (fX8_modulo ((σ.2 12) ((σ.2 2) x1.toNatClampNeg).toNatClampNeg) 64).toNatClampNeg))) := j_ig c1 (j_ip c2 (j_ig c71 rfl))
                      exact j_vreturn h hr (fun _ => 0) (congrArg (mx a cI cZ) E).symm dX8_plainRun_271
                    ·
                      exact absurd c79 (by decide)
                ·
                  exact absurd (c2.symm.trans c77) (by decide)
              ·
                exact absurd (c2.symm.trans c76) (by decide)
          ·
            exact absurd (c2.symm.trans c69) (by decide)
        ·
          exact absurd (c2.symm.trans c68) (by decide)
      ·
        exact absurd (c2.symm.trans c67) (by decide)
  ·
    refine j_aload_n h 2 dX8_plainRun_59 rfl rfl ?_
    refine j_get h iX8 0 (mx_c0 _ _ _ (ar (ar (ar σ 17 (upd (σ.2 17) (0 : Int32).toNatClampNeg 0)) 18 (upd (σ.2 18) (0 : Int32).toNatClampNeg (fX8_modulo ((σ.2 12) ((σ.2 2) x1.toNatClampNeg).toNatClampNeg) 64))) 19 (upd (σ.2 19) (0 : Int32).toNatClampNeg (-1)))) rfl 19 (by decide) tb3_223 rfl (v := .ref (a 10)) rfl dX8_plainRun_60 ?_
    refine j_iconst h (v := 0) dX8_plainRun_63 (by decide) ?_
    refine j_iload_n h 1 dX8_plainRun_64 rfl rfl ?_
    refine j_iload_n h 0 dX8_plainRun_65 rfl rfl ?_
    refine j_iadd h dX8_plainRun_66 ?_
    refine j_aload_n h 2 dX8_plainRun_67 rfl rfl ?_
    refine j_get h iX8 0 (mx_c0 _ _ _ (ar (ar (ar σ 17 (upd (σ.2 17) (0 : Int32).toNatClampNeg 0)) 18 (upd (σ.2 18) (0 : Int32).toNatClampNeg (fX8_modulo ((σ.2 12) ((σ.2 2) x1.toNatClampNeg).toNatClampNeg) 64))) 19 (upd (σ.2 19) (0 : Int32).toNatClampNeg (-1)))) rfl 14 (by decide) tb3_218 rfl (v := .ref (a 5)) rfl dX8_plainRun_68 ?_
    refine j_iload_n h 3 dX8_plainRun_71 rfl rfl ?_
    refine j_iald h 5 0 (mx_g5 (σ := (ar (ar (ar σ 17 (upd (σ.2 17) (0 : Int32).toNatClampNeg 0)) 18 (upd (σ.2 18) (0 : Int32).toNatClampNeg (fX8_modulo ((σ.2 12) ((σ.2 2) x1.toNatClampNeg).toNatClampNeg) 64))) 19 (upd (σ.2 19) (0 : Int32).toNatClampNeg (-1)))) (F := (σ.2 4)) rfl) rfl h1 dX8_plainRun_72 ?_
    refine j_iadd h dX8_plainRun_73 ?_
    refine j_iast h 10 0 (mx_g10 (σ := (ar (ar (ar σ 17 (upd (σ.2 17) (0 : Int32).toNatClampNeg 0)) 18 (upd (σ.2 18) (0 : Int32).toNatClampNeg (fX8_modulo ((σ.2 12) ((σ.2 2) x1.toNatClampNeg).toNatClampNeg) 64))) 19 (upd (σ.2 19) (0 : Int32).toNatClampNeg (-1)))) (F := (upd (σ.2 17) (0 : Int32).toNatClampNeg 0)) rfl) rfl (vp_in_nI (n := 0) (N := 8) (by decide) (by decide)) (w' := (mx a cI cZ (ar (ar (ar (ar σ 17 (upd (σ.2 17) (0 : Int32).toNatClampNeg 0)) 18 (upd (σ.2 18) (0 : Int32).toNatClampNeg (fX8_modulo ((σ.2 12) ((σ.2 2) x1.toNatClampNeg).toNatClampNeg) 64))) 19 (upd (σ.2 19) (0 : Int32).toNatClampNeg (-1))) 17 (upd (upd (σ.2 17) (0 : Int32).toNatClampNeg 0) (0 : Int32).toNatClampNeg ((((σ.2 12) ((σ.2 2) x1.toNatClampNeg).toNatClampNeg) + ((σ.2 12) ((σ.2 3) x1.toNatClampNeg).toNatClampNeg)) + ((σ.2 4) x1.toNatClampNeg)))))) (mx_s10 _ _ _ (ar (ar (ar σ 17 (upd (σ.2 17) (0 : Int32).toNatClampNeg 0)) 18 (upd (σ.2 18) (0 : Int32).toNatClampNeg (fX8_modulo ((σ.2 12) ((σ.2 2) x1.toNatClampNeg).toNatClampNeg) 64))) 19 (upd (σ.2 19) (0 : Int32).toNatClampNeg (-1))) _) dX8_plainRun_74 ?_
    refine j_aload_n h 2 dX8_plainRun_75 rfl rfl ?_
    refine j_get h iX8 0 (mx_c0 _ _ _ (ar (ar (ar (ar σ 17 (upd (σ.2 17) (0 : Int32).toNatClampNeg 0)) 18 (upd (σ.2 18) (0 : Int32).toNatClampNeg (fX8_modulo ((σ.2 12) ((σ.2 2) x1.toNatClampNeg).toNatClampNeg) 64))) 19 (upd (σ.2 19) (0 : Int32).toNatClampNeg (-1))) 17 (upd (upd (σ.2 17) (0 : Int32).toNatClampNeg 0) (0 : Int32).toNatClampNeg ((((σ.2 12) ((σ.2 2) x1.toNatClampNeg).toNatClampNeg) + ((σ.2 12) ((σ.2 3) x1.toNatClampNeg).toNatClampNeg)) + ((σ.2 4) x1.toNatClampNeg))))) rfl 10 (by decide) tb3_214 rfl (v := .ref (a 1)) rfl dX8_plainRun_76 ?_
    refine j_iload_n h 3 dX8_plainRun_79 rfl rfl ?_
    refine j_iald h 1 0 (mx_g1 (σ := (ar (ar (ar (ar σ 17 (upd (σ.2 17) (0 : Int32).toNatClampNeg 0)) 18 (upd (σ.2 18) (0 : Int32).toNatClampNeg (fX8_modulo ((σ.2 12) ((σ.2 2) x1.toNatClampNeg).toNatClampNeg) 64))) 19 (upd (σ.2 19) (0 : Int32).toNatClampNeg (-1))) 17 (upd (upd (σ.2 17) (0 : Int32).toNatClampNeg 0) (0 : Int32).toNatClampNeg ((((σ.2 12) ((σ.2 2) x1.toNatClampNeg).toNatClampNeg) + ((σ.2 12) ((σ.2 3) x1.toNatClampNeg).toNatClampNeg)) + ((σ.2 4) x1.toNatClampNeg))))) (F := (σ.2 0)) rfl) rfl h1 dX8_plainRun_80 ?_
    refine j_iconst h (v := 1) dX8_plainRun_81 (by decide) ?_
    refine j_icmp_ne h dX8_plainRun_82 (tgt := 102) (by decide) (fun c80 => ?_) (fun c80 => ?_)
    ·
      refine j_aload_n h 2 dX8_plainRun_102 rfl rfl ?_
      refine j_get h iX8 0 (mx_c0 _ _ _ (ar (ar (ar (ar σ 17 (upd (σ.2 17) (0 : Int32).toNatClampNeg 0)) 18 (upd (σ.2 18) (0 : Int32).toNatClampNeg (fX8_modulo ((σ.2 12) ((σ.2 2) x1.toNatClampNeg).toNatClampNeg) 64))) 19 (upd (σ.2 19) (0 : Int32).toNatClampNeg (-1))) 17 (upd (upd (σ.2 17) (0 : Int32).toNatClampNeg 0) (0 : Int32).toNatClampNeg ((((σ.2 12) ((σ.2 2) x1.toNatClampNeg).toNatClampNeg) + ((σ.2 12) ((σ.2 3) x1.toNatClampNeg).toNatClampNeg)) + ((σ.2 4) x1.toNatClampNeg))))) rfl 10 (by decide) tb3_214 rfl (v := .ref (a 1)) rfl dX8_plainRun_103 ?_
      refine j_iload_n h 3 dX8_plainRun_106 rfl rfl ?_
      refine j_iald h 1 0 (mx_g1 (σ := (ar (ar (ar (ar σ 17 (upd (σ.2 17) (0 : Int32).toNatClampNeg 0)) 18 (upd (σ.2 18) (0 : Int32).toNatClampNeg (fX8_modulo ((σ.2 12) ((σ.2 2) x1.toNatClampNeg).toNatClampNeg) 64))) 19 (upd (σ.2 19) (0 : Int32).toNatClampNeg (-1))) 17 (upd (upd (σ.2 17) (0 : Int32).toNatClampNeg 0) (0 : Int32).toNatClampNeg ((((σ.2 12) ((σ.2 2) x1.toNatClampNeg).toNatClampNeg) + ((σ.2 12) ((σ.2 3) x1.toNatClampNeg).toNatClampNeg)) + ((σ.2 4) x1.toNatClampNeg))))) (F := (σ.2 0)) rfl) rfl h1 dX8_plainRun_107 ?_
      refine j_iconst h (v := 3) dX8_plainRun_108 (by decide) ?_
      refine j_icmp_ne h dX8_plainRun_109 (tgt := 121) (by decide) (fun c81 => ?_) (fun c81 => ?_)
      ·
        refine j_aload_n h 2 dX8_plainRun_121 rfl rfl ?_
        refine j_get h iX8 0 (mx_c0 _ _ _ (ar (ar (ar (ar σ 17 (upd (σ.2 17) (0 : Int32).toNatClampNeg 0)) 18 (upd (σ.2 18) (0 : Int32).toNatClampNeg (fX8_modulo ((σ.2 12) ((σ.2 2) x1.toNatClampNeg).toNatClampNeg) 64))) 19 (upd (σ.2 19) (0 : Int32).toNatClampNeg (-1))) 17 (upd (upd (σ.2 17) (0 : Int32).toNatClampNeg 0) (0 : Int32).toNatClampNeg ((((σ.2 12) ((σ.2 2) x1.toNatClampNeg).toNatClampNeg) + ((σ.2 12) ((σ.2 3) x1.toNatClampNeg).toNatClampNeg)) + ((σ.2 4) x1.toNatClampNeg))))) rfl 10 (by decide) tb3_214 rfl (v := .ref (a 1)) rfl dX8_plainRun_122 ?_
        refine j_iload_n h 3 dX8_plainRun_125 rfl rfl ?_
        refine j_iald h 1 0 (mx_g1 (σ := (ar (ar (ar (ar σ 17 (upd (σ.2 17) (0 : Int32).toNatClampNeg 0)) 18 (upd (σ.2 18) (0 : Int32).toNatClampNeg (fX8_modulo ((σ.2 12) ((σ.2 2) x1.toNatClampNeg).toNatClampNeg) 64))) 19 (upd (σ.2 19) (0 : Int32).toNatClampNeg (-1))) 17 (upd (upd (σ.2 17) (0 : Int32).toNatClampNeg 0) (0 : Int32).toNatClampNeg ((((σ.2 12) ((σ.2 2) x1.toNatClampNeg).toNatClampNeg) + ((σ.2 12) ((σ.2 3) x1.toNatClampNeg).toNatClampNeg)) + ((σ.2 4) x1.toNatClampNeg))))) (F := (σ.2 0)) rfl) rfl h1 dX8_plainRun_126 ?_
        refine j_bipush h (v := 7) dX8_plainRun_127 (by decide) ?_
        refine j_icmp_ne h dX8_plainRun_129 (tgt := 144) (by decide) (fun c82 => ?_) (fun c82 => ?_)
        ·
          refine j_aload_n h 2 dX8_plainRun_144 rfl rfl ?_
          refine j_get h iX8 0 (mx_c0 _ _ _ (ar (ar (ar (ar σ 17 (upd (σ.2 17) (0 : Int32).toNatClampNeg 0)) 18 (upd (σ.2 18) (0 : Int32).toNatClampNeg (fX8_modulo ((σ.2 12) ((σ.2 2) x1.toNatClampNeg).toNatClampNeg) 64))) 19 (upd (σ.2 19) (0 : Int32).toNatClampNeg (-1))) 17 (upd (upd (σ.2 17) (0 : Int32).toNatClampNeg 0) (0 : Int32).toNatClampNeg ((((σ.2 12) ((σ.2 2) x1.toNatClampNeg).toNatClampNeg) + ((σ.2 12) ((σ.2 3) x1.toNatClampNeg).toNatClampNeg)) + ((σ.2 4) x1.toNatClampNeg))))) rfl 10 (by decide) tb3_214 rfl (v := .ref (a 1)) rfl dX8_plainRun_145 ?_
          refine j_iload_n h 3 dX8_plainRun_148 rfl rfl ?_
          refine j_iald h 1 0 (mx_g1 (σ := (ar (ar (ar (ar σ 17 (upd (σ.2 17) (0 : Int32).toNatClampNeg 0)) 18 (upd (σ.2 18) (0 : Int32).toNatClampNeg (fX8_modulo ((σ.2 12) ((σ.2 2) x1.toNatClampNeg).toNatClampNeg) 64))) 19 (upd (σ.2 19) (0 : Int32).toNatClampNeg (-1))) 17 (upd (upd (σ.2 17) (0 : Int32).toNatClampNeg 0) (0 : Int32).toNatClampNeg ((((σ.2 12) ((σ.2 2) x1.toNatClampNeg).toNatClampNeg) + ((σ.2 12) ((σ.2 3) x1.toNatClampNeg).toNatClampNeg)) + ((σ.2 4) x1.toNatClampNeg))))) (F := (σ.2 0)) rfl) rfl h1 dX8_plainRun_149 ?_
          refine j_iconst h (v := 2) dX8_plainRun_150 (by decide) ?_
          refine j_icmp_ne h dX8_plainRun_151 (tgt := 173) (by decide) (fun c83 => ?_) (fun c83 => ?_)
          ·
            refine j_aload_n h 2 dX8_plainRun_173 rfl rfl ?_
            refine j_iload_n h 3 dX8_plainRun_174 rfl rfl ?_
            refine j_callVi h (kX8_writes l D a cI cZ (ar (ar (ar (ar σ 17 (upd (σ.2 17) (0 : Int32).toNatClampNeg 0)) 18 (upd (σ.2 18) (0 : Int32).toNatClampNeg (fX8_modulo ((σ.2 12) ((σ.2 2) x1.toNatClampNeg).toNatClampNeg) 64))) 19 (upd (σ.2 19) (0 : Int32).toNatClampNeg (-1))) 17 (upd (upd (σ.2 17) (0 : Int32).toNatClampNeg 0) (0 : Int32).toNatClampNeg ((((σ.2 12) ((σ.2 2) x1.toNatClampNeg).toNatClampNeg) + ((σ.2 12) ((σ.2 3) x1.toNatClampNeg).toNatClampNeg)) + ((σ.2 4) x1.toNatClampNeg)))) x1 h1) tb4_134 tb4_136 tp_18 tb1_11 tb4_137 ⟨rfl, rfl⟩ (n := 1) (by decide +kernel) ⟨Nat.le_of_ble_eq_true rfl, Nat.le_of_ble_eq_true rfl⟩ (As := [.int x1]) rfl (ci := 8) (q0 := 0) rfl (mx_c0 _ _ _ (ar (ar (ar (ar σ 17 (upd (σ.2 17) (0 : Int32).toNatClampNeg 0)) 18 (upd (σ.2 18) (0 : Int32).toNatClampNeg (fX8_modulo ((σ.2 12) ((σ.2 2) x1.toNatClampNeg).toNatClampNeg) 64))) 19 (upd (σ.2 19) (0 : Int32).toNatClampNeg (-1))) 17 (upd (upd (σ.2 17) (0 : Int32).toNatClampNeg 0) (0 : Int32).toNatClampNeg ((((σ.2 12) ((σ.2 2) x1.toNatClampNeg).toNatClampNeg) + ((σ.2 12) ((σ.2 3) x1.toNatClampNeg).toNatClampNeg)) + ((σ.2 4) x1.toNatClampNeg))))) (st := []) rfl (Nat.le_of_ble_eq_true rfl) dX8_plainRun_175 ⟨Nat.zero_le _, Nat.zero_le _⟩ ?_
            generalize hq84 : (fX8_writes (ar (ar (ar (ar σ 17 (upd (σ.2 17) (0 : Int32).toNatClampNeg 0)) 18 (upd (σ.2 18) (0 : Int32).toNatClampNeg (fX8_modulo ((σ.2 12) ((σ.2 2) x1.toNatClampNeg).toNatClampNeg) 64))) 19 (upd (σ.2 19) (0 : Int32).toNatClampNeg (-1))) 17 (upd (upd (σ.2 17) (0 : Int32).toNatClampNeg 0) (0 : Int32).toNatClampNeg ((((σ.2 12) ((σ.2 2) x1.toNatClampNeg).toNatClampNeg) + ((σ.2 12) ((σ.2 3) x1.toNatClampNeg).toNatClampNeg)) + ((σ.2 4) x1.toNatClampNeg)))) x1) = q84
            refine j_if_eq h dX8_plainRun_178 (tgt := 198) (by decide) (fun c85 => ?_) (fun c85 => ?_)
            ·
              refine j_aload_n h 2 dX8_plainRun_198 rfl rfl ?_
              refine j_get h iX8 0 (mx_c0 _ _ _ (ar (ar (ar (ar σ 17 (upd (σ.2 17) (0 : Int32).toNatClampNeg 0)) 18 (upd (σ.2 18) (0 : Int32).toNatClampNeg (fX8_modulo ((σ.2 12) ((σ.2 2) x1.toNatClampNeg).toNatClampNeg) 64))) 19 (upd (σ.2 19) (0 : Int32).toNatClampNeg (-1))) 17 (upd (upd (σ.2 17) (0 : Int32).toNatClampNeg 0) (0 : Int32).toNatClampNeg ((((σ.2 12) ((σ.2 2) x1.toNatClampNeg).toNatClampNeg) + ((σ.2 12) ((σ.2 3) x1.toNatClampNeg).toNatClampNeg)) + ((σ.2 4) x1.toNatClampNeg))))) rfl 10 (by decide) tb3_214 rfl (v := .ref (a 1)) rfl dX8_plainRun_199 ?_
              refine j_iload_n h 3 dX8_plainRun_202 rfl rfl ?_
              refine j_iald h 1 0 (mx_g1 (σ := (ar (ar (ar (ar σ 17 (upd (σ.2 17) (0 : Int32).toNatClampNeg 0)) 18 (upd (σ.2 18) (0 : Int32).toNatClampNeg (fX8_modulo ((σ.2 12) ((σ.2 2) x1.toNatClampNeg).toNatClampNeg) 64))) 19 (upd (σ.2 19) (0 : Int32).toNatClampNeg (-1))) 17 (upd (upd (σ.2 17) (0 : Int32).toNatClampNeg 0) (0 : Int32).toNatClampNeg ((((σ.2 12) ((σ.2 2) x1.toNatClampNeg).toNatClampNeg) + ((σ.2 12) ((σ.2 3) x1.toNatClampNeg).toNatClampNeg)) + ((σ.2 4) x1.toNatClampNeg))))) (F := (σ.2 0)) rfl) rfl h1 dX8_plainRun_203 ?_
              refine j_iconst h (v := 4) dX8_plainRun_204 (by decide) ?_
              refine j_icmp_ne h dX8_plainRun_205 (tgt := 231) (by decide) (fun c86 => ?_) (fun c86 => ?_)
              ·
                refine j_aload_n h 2 dX8_plainRun_231 rfl rfl ?_
                refine j_get h iX8 0 (mx_c0 _ _ _ (ar (ar (ar (ar σ 17 (upd (σ.2 17) (0 : Int32).toNatClampNeg 0)) 18 (upd (σ.2 18) (0 : Int32).toNatClampNeg (fX8_modulo ((σ.2 12) ((σ.2 2) x1.toNatClampNeg).toNatClampNeg) 64))) 19 (upd (σ.2 19) (0 : Int32).toNatClampNeg (-1))) 17 (upd (upd (σ.2 17) (0 : Int32).toNatClampNeg 0) (0 : Int32).toNatClampNeg ((((σ.2 12) ((σ.2 2) x1.toNatClampNeg).toNatClampNeg) + ((σ.2 12) ((σ.2 3) x1.toNatClampNeg).toNatClampNeg)) + ((σ.2 4) x1.toNatClampNeg))))) rfl 10 (by decide) tb3_214 rfl (v := .ref (a 1)) rfl dX8_plainRun_232 ?_
                refine j_iload_n h 3 dX8_plainRun_235 rfl rfl ?_
                refine j_iald h 1 0 (mx_g1 (σ := (ar (ar (ar (ar σ 17 (upd (σ.2 17) (0 : Int32).toNatClampNeg 0)) 18 (upd (σ.2 18) (0 : Int32).toNatClampNeg (fX8_modulo ((σ.2 12) ((σ.2 2) x1.toNatClampNeg).toNatClampNeg) 64))) 19 (upd (σ.2 19) (0 : Int32).toNatClampNeg (-1))) 17 (upd (upd (σ.2 17) (0 : Int32).toNatClampNeg 0) (0 : Int32).toNatClampNeg ((((σ.2 12) ((σ.2 2) x1.toNatClampNeg).toNatClampNeg) + ((σ.2 12) ((σ.2 3) x1.toNatClampNeg).toNatClampNeg)) + ((σ.2 4) x1.toNatClampNeg))))) (F := (σ.2 0)) rfl) rfl h1 dX8_plainRun_236 ?_
                refine j_bipush h (v := 6) dX8_plainRun_237 (by decide) ?_
                refine j_icmp_ne h dX8_plainRun_239 (tgt := 247) (by decide) (fun c87 => ?_) (fun c87 => ?_)
                ·
                  refine j_aload_n h 2 dX8_plainRun_247 rfl rfl ?_
                  refine j_get h iX8 0 (mx_c0 _ _ _ (ar (ar (ar (ar σ 17 (upd (σ.2 17) (0 : Int32).toNatClampNeg 0)) 18 (upd (σ.2 18) (0 : Int32).toNatClampNeg (fX8_modulo ((σ.2 12) ((σ.2 2) x1.toNatClampNeg).toNatClampNeg) 64))) 19 (upd (σ.2 19) (0 : Int32).toNatClampNeg (-1))) 17 (upd (upd (σ.2 17) (0 : Int32).toNatClampNeg 0) (0 : Int32).toNatClampNeg ((((σ.2 12) ((σ.2 2) x1.toNatClampNeg).toNatClampNeg) + ((σ.2 12) ((σ.2 3) x1.toNatClampNeg).toNatClampNeg)) + ((σ.2 4) x1.toNatClampNeg))))) rfl 10 (by decide) tb3_214 rfl (v := .ref (a 1)) rfl dX8_plainRun_248 ?_
                  refine j_iload_n h 3 dX8_plainRun_251 rfl rfl ?_
                  refine j_iald h 1 0 (mx_g1 (σ := (ar (ar (ar (ar σ 17 (upd (σ.2 17) (0 : Int32).toNatClampNeg 0)) 18 (upd (σ.2 18) (0 : Int32).toNatClampNeg (fX8_modulo ((σ.2 12) ((σ.2 2) x1.toNatClampNeg).toNatClampNeg) 64))) 19 (upd (σ.2 19) (0 : Int32).toNatClampNeg (-1))) 17 (upd (upd (σ.2 17) (0 : Int32).toNatClampNeg 0) (0 : Int32).toNatClampNeg ((((σ.2 12) ((σ.2 2) x1.toNatClampNeg).toNatClampNeg) + ((σ.2 12) ((σ.2 3) x1.toNatClampNeg).toNatClampNeg)) + ((σ.2 4) x1.toNatClampNeg))))) (F := (σ.2 0)) rfl) rfl h1 dX8_plainRun_252 ?_
                  refine j_iconst h (v := 5) dX8_plainRun_253 (by decide) ?_
                  refine j_icmp_eq h dX8_plainRun_254 (tgt := 266) (by decide) (fun c88 => ?_) (fun c88 => ?_)
                  ·
                    exact absurd (c1.symm.trans c88) (by decide)
                  ·
                    refine j_aload_n h 2 dX8_plainRun_257 rfl rfl ?_
                    refine j_get h iX8 0 (mx_c0 _ _ _ (ar (ar (ar (ar σ 17 (upd (σ.2 17) (0 : Int32).toNatClampNeg 0)) 18 (upd (σ.2 18) (0 : Int32).toNatClampNeg (fX8_modulo ((σ.2 12) ((σ.2 2) x1.toNatClampNeg).toNatClampNeg) 64))) 19 (upd (σ.2 19) (0 : Int32).toNatClampNeg (-1))) 17 (upd (upd (σ.2 17) (0 : Int32).toNatClampNeg 0) (0 : Int32).toNatClampNeg ((((σ.2 12) ((σ.2 2) x1.toNatClampNeg).toNatClampNeg) + ((σ.2 12) ((σ.2 3) x1.toNatClampNeg).toNatClampNeg)) + ((σ.2 4) x1.toNatClampNeg))))) rfl 21 (by decide) tb3_225 rfl (v := .ref (a 12)) rfl dX8_plainRun_258 ?_
                    refine j_iconst h (v := 0) dX8_plainRun_261 (by decide) ?_
                    refine j_iald h 12 0 (mx_g12 (σ := (ar (ar (ar (ar σ 17 (upd (σ.2 17) (0 : Int32).toNatClampNeg 0)) 18 (upd (σ.2 18) (0 : Int32).toNatClampNeg (fX8_modulo ((σ.2 12) ((σ.2 2) x1.toNatClampNeg).toNatClampNeg) 64))) 19 (upd (σ.2 19) (0 : Int32).toNatClampNeg (-1))) 17 (upd (upd (σ.2 17) (0 : Int32).toNatClampNeg 0) (0 : Int32).toNatClampNeg ((((σ.2 12) ((σ.2 2) x1.toNatClampNeg).toNatClampNeg) + ((σ.2 12) ((σ.2 3) x1.toNatClampNeg).toNatClampNeg)) + ((σ.2 4) x1.toNatClampNeg))))) (F := (upd (σ.2 19) (0 : Int32).toNatClampNeg (-1))) rfl) rfl (vp_in_nI (n := 0) (N := 8) (by decide) (by decide)) dX8_plainRun_262 ?_
                    refine j_eqi (v' := (-1)) pk_us ?_
                    refine j_if_lt h dX8_plainRun_263 (tgt := 271) (by decide) (fun c89 => ?_) (fun c89 => ?_)
                    ·
                      subst hq84
                      have E : fX8_plainRun σ x1 = (ar (ar (ar (ar σ 17 (upd (σ.2 17) (0 : Int32).toNatClampNeg 0)) 18 (upd (σ.2 18) (0 : Int32).toNatClampNeg (fX8_modulo ((σ.2 12) ((σ.2 2) x1.toNatClampNeg).toNatClampNeg) 64))) 19 (upd (σ.2 19) (0 : Int32).toNatClampNeg (-1))) 17 (upd (upd (σ.2 17) (0 : Int32).toNatClampNeg 0) (0 : Int32).toNatClampNeg ((((σ.2 12) ((σ.2 2) x1.toNatClampNeg).toNatClampNeg) + ((σ.2 12) ((σ.2 3) x1.toNatClampNeg).toNatClampNeg)) + ((σ.2 4) x1.toNatClampNeg)))) := j_ip c1 (j_ip c85 rfl)
                      exact j_vreturn h hr (fun _ => 0) (congrArg (mx a cI cZ) E).symm dX8_plainRun_271
                    ·
                      exact absurd c89 (by decide)
                ·
                  exact absurd (c1.symm.trans c87) (by decide)
              ·
                exact absurd (c1.symm.trans c86) (by decide)
            ·
              refine j_aload_n h 2 dX8_plainRun_181 rfl rfl ?_
              refine j_get h iX8 0 (mx_c0 _ _ _ (ar (ar (ar (ar σ 17 (upd (σ.2 17) (0 : Int32).toNatClampNeg 0)) 18 (upd (σ.2 18) (0 : Int32).toNatClampNeg (fX8_modulo ((σ.2 12) ((σ.2 2) x1.toNatClampNeg).toNatClampNeg) 64))) 19 (upd (σ.2 19) (0 : Int32).toNatClampNeg (-1))) 17 (upd (upd (σ.2 17) (0 : Int32).toNatClampNeg 0) (0 : Int32).toNatClampNeg ((((σ.2 12) ((σ.2 2) x1.toNatClampNeg).toNatClampNeg) + ((σ.2 12) ((σ.2 3) x1.toNatClampNeg).toNatClampNeg)) + ((σ.2 4) x1.toNatClampNeg))))) rfl 22 (by decide) tb3_226 rfl (v := .ref (a 13)) rfl dX8_plainRun_182 ?_
              refine j_aload_n h 2 dX8_plainRun_185 rfl rfl ?_
              refine j_get h iX8 0 (mx_c0 _ _ _ (ar (ar (ar (ar σ 17 (upd (σ.2 17) (0 : Int32).toNatClampNeg 0)) 18 (upd (σ.2 18) (0 : Int32).toNatClampNeg (fX8_modulo ((σ.2 12) ((σ.2 2) x1.toNatClampNeg).toNatClampNeg) 64))) 19 (upd (σ.2 19) (0 : Int32).toNatClampNeg (-1))) 17 (upd (upd (σ.2 17) (0 : Int32).toNatClampNeg 0) (0 : Int32).toNatClampNeg ((((σ.2 12) ((σ.2 2) x1.toNatClampNeg).toNatClampNeg) + ((σ.2 12) ((σ.2 3) x1.toNatClampNeg).toNatClampNeg)) + ((σ.2 4) x1.toNatClampNeg))))) rfl 11 (by decide) tb3_215 rfl (v := .ref (a 2)) rfl dX8_plainRun_186 ?_
              refine j_iload_n h 3 dX8_plainRun_189 rfl rfl ?_
              refine j_iald h 2 0 (mx_g2 (σ := (ar (ar (ar (ar σ 17 (upd (σ.2 17) (0 : Int32).toNatClampNeg 0)) 18 (upd (σ.2 18) (0 : Int32).toNatClampNeg (fX8_modulo ((σ.2 12) ((σ.2 2) x1.toNatClampNeg).toNatClampNeg) 64))) 19 (upd (σ.2 19) (0 : Int32).toNatClampNeg (-1))) 17 (upd (upd (σ.2 17) (0 : Int32).toNatClampNeg 0) (0 : Int32).toNatClampNeg ((((σ.2 12) ((σ.2 2) x1.toNatClampNeg).toNatClampNeg) + ((σ.2 12) ((σ.2 3) x1.toNatClampNeg).toNatClampNeg)) + ((σ.2 4) x1.toNatClampNeg))))) (F := (σ.2 1)) rfl) rfl h1 dX8_plainRun_190 ?_
              refine j_aload_n h 2 dX8_plainRun_191 rfl rfl ?_
              refine j_get h iX8 0 (mx_c0 _ _ _ (ar (ar (ar (ar σ 17 (upd (σ.2 17) (0 : Int32).toNatClampNeg 0)) 18 (upd (σ.2 18) (0 : Int32).toNatClampNeg (fX8_modulo ((σ.2 12) ((σ.2 2) x1.toNatClampNeg).toNatClampNeg) 64))) 19 (upd (σ.2 19) (0 : Int32).toNatClampNeg (-1))) 17 (upd (upd (σ.2 17) (0 : Int32).toNatClampNeg 0) (0 : Int32).toNatClampNeg ((((σ.2 12) ((σ.2 2) x1.toNatClampNeg).toNatClampNeg) + ((σ.2 12) ((σ.2 3) x1.toNatClampNeg).toNatClampNeg)) + ((σ.2 4) x1.toNatClampNeg))))) rfl 19 (by decide) tb3_223 rfl (v := .ref (a 10)) rfl dX8_plainRun_192 ?_
              refine j_iconst h (v := 0) dX8_plainRun_195 (by decide) ?_
              refine j_iald h 10 0 (mx_g10 (σ := (ar (ar (ar (ar σ 17 (upd (σ.2 17) (0 : Int32).toNatClampNeg 0)) 18 (upd (σ.2 18) (0 : Int32).toNatClampNeg (fX8_modulo ((σ.2 12) ((σ.2 2) x1.toNatClampNeg).toNatClampNeg) 64))) 19 (upd (σ.2 19) (0 : Int32).toNatClampNeg (-1))) 17 (upd (upd (σ.2 17) (0 : Int32).toNatClampNeg 0) (0 : Int32).toNatClampNeg ((((σ.2 12) ((σ.2 2) x1.toNatClampNeg).toNatClampNeg) + ((σ.2 12) ((σ.2 3) x1.toNatClampNeg).toNatClampNeg)) + ((σ.2 4) x1.toNatClampNeg))))) (F := (upd (upd (σ.2 17) (0 : Int32).toNatClampNeg 0) (0 : Int32).toNatClampNeg ((((σ.2 12) ((σ.2 2) x1.toNatClampNeg).toNatClampNeg) + ((σ.2 12) ((σ.2 3) x1.toNatClampNeg).toNatClampNeg)) + ((σ.2 4) x1.toNatClampNeg)))) rfl) rfl (vp_in_nI (n := 0) (N := 8) (by decide) (by decide)) dX8_plainRun_196 ?_
              refine j_eqi (v' := ((((σ.2 12) ((σ.2 2) x1.toNatClampNeg).toNatClampNeg) + ((σ.2 12) ((σ.2 3) x1.toNatClampNeg).toNatClampNeg)) + ((σ.2 4) x1.toNatClampNeg))) pk_us ?_
              refine j_iast h 13 0 (mx_g13 (σ := (ar (ar (ar (ar σ 17 (upd (σ.2 17) (0 : Int32).toNatClampNeg 0)) 18 (upd (σ.2 18) (0 : Int32).toNatClampNeg (fX8_modulo ((σ.2 12) ((σ.2 2) x1.toNatClampNeg).toNatClampNeg) 64))) 19 (upd (σ.2 19) (0 : Int32).toNatClampNeg (-1))) 17 (upd (upd (σ.2 17) (0 : Int32).toNatClampNeg 0) (0 : Int32).toNatClampNeg ((((σ.2 12) ((σ.2 2) x1.toNatClampNeg).toNatClampNeg) + ((σ.2 12) ((σ.2 3) x1.toNatClampNeg).toNatClampNeg)) + ((σ.2 4) x1.toNatClampNeg))))) (F := (σ.2 12)) rfl) rfl (hR _ (m_cl h1 (by decide))).1 (w' := (mx a cI cZ (ar (ar (ar (ar (ar σ 17 (upd (σ.2 17) (0 : Int32).toNatClampNeg 0)) 18 (upd (σ.2 18) (0 : Int32).toNatClampNeg (fX8_modulo ((σ.2 12) ((σ.2 2) x1.toNatClampNeg).toNatClampNeg) 64))) 19 (upd (σ.2 19) (0 : Int32).toNatClampNeg (-1))) 17 (upd (upd (σ.2 17) (0 : Int32).toNatClampNeg 0) (0 : Int32).toNatClampNeg ((((σ.2 12) ((σ.2 2) x1.toNatClampNeg).toNatClampNeg) + ((σ.2 12) ((σ.2 3) x1.toNatClampNeg).toNatClampNeg)) + ((σ.2 4) x1.toNatClampNeg)))) 12 (upd (σ.2 12) ((σ.2 1) x1.toNatClampNeg).toNatClampNeg ((((σ.2 12) ((σ.2 2) x1.toNatClampNeg).toNatClampNeg) + ((σ.2 12) ((σ.2 3) x1.toNatClampNeg).toNatClampNeg)) + ((σ.2 4) x1.toNatClampNeg)))))) (mx_s13 _ _ _ (ar (ar (ar (ar σ 17 (upd (σ.2 17) (0 : Int32).toNatClampNeg 0)) 18 (upd (σ.2 18) (0 : Int32).toNatClampNeg (fX8_modulo ((σ.2 12) ((σ.2 2) x1.toNatClampNeg).toNatClampNeg) 64))) 19 (upd (σ.2 19) (0 : Int32).toNatClampNeg (-1))) 17 (upd (upd (σ.2 17) (0 : Int32).toNatClampNeg 0) (0 : Int32).toNatClampNeg ((((σ.2 12) ((σ.2 2) x1.toNatClampNeg).toNatClampNeg) + ((σ.2 12) ((σ.2 3) x1.toNatClampNeg).toNatClampNeg)) + ((σ.2 4) x1.toNatClampNeg)))) _) dX8_plainRun_197 ?_
              refine j_aload_n h 2 dX8_plainRun_198 rfl rfl ?_
              refine j_get h iX8 0 (mx_c0 _ _ _ (ar (ar (ar (ar (ar σ 17 (upd (σ.2 17) (0 : Int32).toNatClampNeg 0)) 18 (upd (σ.2 18) (0 : Int32).toNatClampNeg (fX8_modulo ((σ.2 12) ((σ.2 2) x1.toNatClampNeg).toNatClampNeg) 64))) 19 (upd (σ.2 19) (0 : Int32).toNatClampNeg (-1))) 17 (upd (upd (σ.2 17) (0 : Int32).toNatClampNeg 0) (0 : Int32).toNatClampNeg ((((σ.2 12) ((σ.2 2) x1.toNatClampNeg).toNatClampNeg) + ((σ.2 12) ((σ.2 3) x1.toNatClampNeg).toNatClampNeg)) + ((σ.2 4) x1.toNatClampNeg)))) 12 (upd (σ.2 12) ((σ.2 1) x1.toNatClampNeg).toNatClampNeg ((((σ.2 12) ((σ.2 2) x1.toNatClampNeg).toNatClampNeg) + ((σ.2 12) ((σ.2 3) x1.toNatClampNeg).toNatClampNeg)) + ((σ.2 4) x1.toNatClampNeg))))) rfl 10 (by decide) tb3_214 rfl (v := .ref (a 1)) rfl dX8_plainRun_199 ?_
              refine j_iload_n h 3 dX8_plainRun_202 rfl rfl ?_
              refine j_iald h 1 0 (mx_g1 (σ := (ar (ar (ar (ar (ar σ 17 (upd (σ.2 17) (0 : Int32).toNatClampNeg 0)) 18 (upd (σ.2 18) (0 : Int32).toNatClampNeg (fX8_modulo ((σ.2 12) ((σ.2 2) x1.toNatClampNeg).toNatClampNeg) 64))) 19 (upd (σ.2 19) (0 : Int32).toNatClampNeg (-1))) 17 (upd (upd (σ.2 17) (0 : Int32).toNatClampNeg 0) (0 : Int32).toNatClampNeg ((((σ.2 12) ((σ.2 2) x1.toNatClampNeg).toNatClampNeg) + ((σ.2 12) ((σ.2 3) x1.toNatClampNeg).toNatClampNeg)) + ((σ.2 4) x1.toNatClampNeg)))) 12 (upd (σ.2 12) ((σ.2 1) x1.toNatClampNeg).toNatClampNeg ((((σ.2 12) ((σ.2 2) x1.toNatClampNeg).toNatClampNeg) + ((σ.2 12) ((σ.2 3) x1.toNatClampNeg).toNatClampNeg)) + ((σ.2 4) x1.toNatClampNeg))))) (F := (σ.2 0)) rfl) rfl h1 dX8_plainRun_203 ?_
              refine j_iconst h (v := 4) dX8_plainRun_204 (by decide) ?_
              refine j_icmp_ne h dX8_plainRun_205 (tgt := 231) (by decide) (fun c90 => ?_) (fun c90 => ?_)
              ·
                refine j_aload_n h 2 dX8_plainRun_231 rfl rfl ?_
                refine j_get h iX8 0 (mx_c0 _ _ _ (ar (ar (ar (ar (ar σ 17 (upd (σ.2 17) (0 : Int32).toNatClampNeg 0)) 18 (upd (σ.2 18) (0 : Int32).toNatClampNeg (fX8_modulo ((σ.2 12) ((σ.2 2) x1.toNatClampNeg).toNatClampNeg) 64))) 19 (upd (σ.2 19) (0 : Int32).toNatClampNeg (-1))) 17 (upd (upd (σ.2 17) (0 : Int32).toNatClampNeg 0) (0 : Int32).toNatClampNeg ((((σ.2 12) ((σ.2 2) x1.toNatClampNeg).toNatClampNeg) + ((σ.2 12) ((σ.2 3) x1.toNatClampNeg).toNatClampNeg)) + ((σ.2 4) x1.toNatClampNeg)))) 12 (upd (σ.2 12) ((σ.2 1) x1.toNatClampNeg).toNatClampNeg ((((σ.2 12) ((σ.2 2) x1.toNatClampNeg).toNatClampNeg) + ((σ.2 12) ((σ.2 3) x1.toNatClampNeg).toNatClampNeg)) + ((σ.2 4) x1.toNatClampNeg))))) rfl 10 (by decide) tb3_214 rfl (v := .ref (a 1)) rfl dX8_plainRun_232 ?_
                refine j_iload_n h 3 dX8_plainRun_235 rfl rfl ?_
                refine j_iald h 1 0 (mx_g1 (σ := (ar (ar (ar (ar (ar σ 17 (upd (σ.2 17) (0 : Int32).toNatClampNeg 0)) 18 (upd (σ.2 18) (0 : Int32).toNatClampNeg (fX8_modulo ((σ.2 12) ((σ.2 2) x1.toNatClampNeg).toNatClampNeg) 64))) 19 (upd (σ.2 19) (0 : Int32).toNatClampNeg (-1))) 17 (upd (upd (σ.2 17) (0 : Int32).toNatClampNeg 0) (0 : Int32).toNatClampNeg ((((σ.2 12) ((σ.2 2) x1.toNatClampNeg).toNatClampNeg) + ((σ.2 12) ((σ.2 3) x1.toNatClampNeg).toNatClampNeg)) + ((σ.2 4) x1.toNatClampNeg)))) 12 (upd (σ.2 12) ((σ.2 1) x1.toNatClampNeg).toNatClampNeg ((((σ.2 12) ((σ.2 2) x1.toNatClampNeg).toNatClampNeg) + ((σ.2 12) ((σ.2 3) x1.toNatClampNeg).toNatClampNeg)) + ((σ.2 4) x1.toNatClampNeg))))) (F := (σ.2 0)) rfl) rfl h1 dX8_plainRun_236 ?_
                refine j_bipush h (v := 6) dX8_plainRun_237 (by decide) ?_
                refine j_icmp_ne h dX8_plainRun_239 (tgt := 247) (by decide) (fun c91 => ?_) (fun c91 => ?_)
                ·
                  refine j_aload_n h 2 dX8_plainRun_247 rfl rfl ?_
                  refine j_get h iX8 0 (mx_c0 _ _ _ (ar (ar (ar (ar (ar σ 17 (upd (σ.2 17) (0 : Int32).toNatClampNeg 0)) 18 (upd (σ.2 18) (0 : Int32).toNatClampNeg (fX8_modulo ((σ.2 12) ((σ.2 2) x1.toNatClampNeg).toNatClampNeg) 64))) 19 (upd (σ.2 19) (0 : Int32).toNatClampNeg (-1))) 17 (upd (upd (σ.2 17) (0 : Int32).toNatClampNeg 0) (0 : Int32).toNatClampNeg ((((σ.2 12) ((σ.2 2) x1.toNatClampNeg).toNatClampNeg) + ((σ.2 12) ((σ.2 3) x1.toNatClampNeg).toNatClampNeg)) + ((σ.2 4) x1.toNatClampNeg)))) 12 (upd (σ.2 12) ((σ.2 1) x1.toNatClampNeg).toNatClampNeg ((((σ.2 12) ((σ.2 2) x1.toNatClampNeg).toNatClampNeg) + ((σ.2 12) ((σ.2 3) x1.toNatClampNeg).toNatClampNeg)) + ((σ.2 4) x1.toNatClampNeg))))) rfl 10 (by decide) tb3_214 rfl (v := .ref (a 1)) rfl dX8_plainRun_248 ?_
                  refine j_iload_n h 3 dX8_plainRun_251 rfl rfl ?_
                  refine j_iald h 1 0 (mx_g1 (σ := (ar (ar (ar (ar (ar σ 17 (upd (σ.2 17) (0 : Int32).toNatClampNeg 0)) 18 (upd (σ.2 18) (0 : Int32).toNatClampNeg (fX8_modulo ((σ.2 12) ((σ.2 2) x1.toNatClampNeg).toNatClampNeg) 64))) 19 (upd (σ.2 19) (0 : Int32).toNatClampNeg (-1))) 17 (upd (upd (σ.2 17) (0 : Int32).toNatClampNeg 0) (0 : Int32).toNatClampNeg ((((σ.2 12) ((σ.2 2) x1.toNatClampNeg).toNatClampNeg) + ((σ.2 12) ((σ.2 3) x1.toNatClampNeg).toNatClampNeg)) + ((σ.2 4) x1.toNatClampNeg)))) 12 (upd (σ.2 12) ((σ.2 1) x1.toNatClampNeg).toNatClampNeg ((((σ.2 12) ((σ.2 2) x1.toNatClampNeg).toNatClampNeg) + ((σ.2 12) ((σ.2 3) x1.toNatClampNeg).toNatClampNeg)) + ((σ.2 4) x1.toNatClampNeg))))) (F := (σ.2 0)) rfl) rfl h1 dX8_plainRun_252 ?_
                  refine j_iconst h (v := 5) dX8_plainRun_253 (by decide) ?_
                  refine j_icmp_eq h dX8_plainRun_254 (tgt := 266) (by decide) (fun c92 => ?_) (fun c92 => ?_)
                  ·
                    exact absurd (c1.symm.trans c92) (by decide)
                  ·
                    refine j_aload_n h 2 dX8_plainRun_257 rfl rfl ?_
                    refine j_get h iX8 0 (mx_c0 _ _ _ (ar (ar (ar (ar (ar σ 17 (upd (σ.2 17) (0 : Int32).toNatClampNeg 0)) 18 (upd (σ.2 18) (0 : Int32).toNatClampNeg (fX8_modulo ((σ.2 12) ((σ.2 2) x1.toNatClampNeg).toNatClampNeg) 64))) 19 (upd (σ.2 19) (0 : Int32).toNatClampNeg (-1))) 17 (upd (upd (σ.2 17) (0 : Int32).toNatClampNeg 0) (0 : Int32).toNatClampNeg ((((σ.2 12) ((σ.2 2) x1.toNatClampNeg).toNatClampNeg) + ((σ.2 12) ((σ.2 3) x1.toNatClampNeg).toNatClampNeg)) + ((σ.2 4) x1.toNatClampNeg)))) 12 (upd (σ.2 12) ((σ.2 1) x1.toNatClampNeg).toNatClampNeg ((((σ.2 12) ((σ.2 2) x1.toNatClampNeg).toNatClampNeg) + ((σ.2 12) ((σ.2 3) x1.toNatClampNeg).toNatClampNeg)) + ((σ.2 4) x1.toNatClampNeg))))) rfl 21 (by decide) tb3_225 rfl (v := .ref (a 12)) rfl dX8_plainRun_258 ?_
                    refine j_iconst h (v := 0) dX8_plainRun_261 (by decide) ?_
                    refine j_iald h 12 0 (mx_g12 (σ := (ar (ar (ar (ar (ar σ 17 (upd (σ.2 17) (0 : Int32).toNatClampNeg 0)) 18 (upd (σ.2 18) (0 : Int32).toNatClampNeg (fX8_modulo ((σ.2 12) ((σ.2 2) x1.toNatClampNeg).toNatClampNeg) 64))) 19 (upd (σ.2 19) (0 : Int32).toNatClampNeg (-1))) 17 (upd (upd (σ.2 17) (0 : Int32).toNatClampNeg 0) (0 : Int32).toNatClampNeg ((((σ.2 12) ((σ.2 2) x1.toNatClampNeg).toNatClampNeg) + ((σ.2 12) ((σ.2 3) x1.toNatClampNeg).toNatClampNeg)) + ((σ.2 4) x1.toNatClampNeg)))) 12 (upd (σ.2 12) ((σ.2 1) x1.toNatClampNeg).toNatClampNeg ((((σ.2 12) ((σ.2 2) x1.toNatClampNeg).toNatClampNeg) + ((σ.2 12) ((σ.2 3) x1.toNatClampNeg).toNatClampNeg)) + ((σ.2 4) x1.toNatClampNeg))))) (F := (upd (σ.2 19) (0 : Int32).toNatClampNeg (-1))) rfl) rfl (vp_in_nI (n := 0) (N := 8) (by decide) (by decide)) dX8_plainRun_262 ?_
                    refine j_eqi (v' := (-1)) pk_us ?_
                    refine j_if_lt h dX8_plainRun_263 (tgt := 271) (by decide) (fun c93 => ?_) (fun c93 => ?_)
                    ·
                      subst hq84
                      have E : fX8_plainRun σ x1 = (ar (ar (ar (ar (ar σ 17 (upd (σ.2 17) (0 : Int32).toNatClampNeg 0)) 18 (upd (σ.2 18) (0 : Int32).toNatClampNeg (fX8_modulo ((σ.2 12) ((σ.2 2) x1.toNatClampNeg).toNatClampNeg) 64))) 19 (upd (σ.2 19) (0 : Int32).toNatClampNeg (-1))) 17 (upd (upd (σ.2 17) (0 : Int32).toNatClampNeg 0) (0 : Int32).toNatClampNeg ((((σ.2 12) ((σ.2 2) x1.toNatClampNeg).toNatClampNeg) + ((σ.2 12) ((σ.2 3) x1.toNatClampNeg).toNatClampNeg)) + ((σ.2 4) x1.toNatClampNeg)))) 12 (upd (σ.2 12) ((σ.2 1) x1.toNatClampNeg).toNatClampNeg ((((σ.2 12) ((σ.2 2) x1.toNatClampNeg).toNatClampNeg) + ((σ.2 12) ((σ.2 3) x1.toNatClampNeg).toNatClampNeg)) + ((σ.2 4) x1.toNatClampNeg)))) := j_ip c1 (j_ig c85 rfl)
                      exact j_vreturn h hr (fun _ => 0) (congrArg (mx a cI cZ) E).symm dX8_plainRun_271
                    ·
                      exact absurd c93 (by decide)
                ·
                  exact absurd (c1.symm.trans c91) (by decide)
              ·
                exact absurd (c1.symm.trans c90) (by decide)
          ·
            exact absurd (c1.symm.trans c83) (by decide)
        ·
          exact absurd (c1.symm.trans c82) (by decide)
      ·
        exact absurd (c1.symm.trans c81) (by decide)
    ·
      exact absurd (c1.symm.trans c80) (by decide)
