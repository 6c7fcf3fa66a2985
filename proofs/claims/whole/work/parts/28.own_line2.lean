def gfX1_goOn : Nat → St → Int32 → Int32 → (Int32 × St)
  | 0, σ, x1, x2 => (0, σ)
  | n + 1, σ, x1, x2 => (if x2 < 0 then (x1, σ) else (let q1002 := (fX5_wordIn σ x2); (if q1002 = (-1) then gfX1_goOn n σ x1 (x2 + (-1)) else (if x2 = (σ.1 1) then (let q1021 := (fX1_work σ q1002); (if q1021.1 = 4 then (let q1024 := (fX5_wordIn q1021.2 (x2 + 1)); (if q1024 = (-1) then (let q1026 := (fX5_moveOnFrom q1021.2 x2); (if (x2 + 1) = (q1026.1 1) then (if x2 = (q1026.1 4) then (let q1033 := (fX5_isGoing (sg q1026 22 0) (x2 + 1)); (if q1033 = 0 then gfX1_goOn n (sg q1026 22 0) x1 (x2 + (-1)) else (let q1035 := (fX1_takeBranch (sg q1026 22 0) x2 q1002); gfX1_goOn n q1035 x1 (x2 + (-1))))) else gfX1_goOn n (sg q1026 22 0) x1 (x2 + (-1))) else (if x2 = (q1026.1 4) then (let q1029 := (fX5_isGoing (sg q1026 22 (q1026.1 22)) (x2 + 1)); (if q1029 = 0 then gfX1_goOn n (sg q1026 22 (q1026.1 22)) x1 (x2 + (-1)) else (let q1031 := (fX1_takeBranch (sg q1026 22 (q1026.1 22)) x2 q1002); gfX1_goOn n q1031 x1 (x2 + (-1))))) else gfX1_goOn n (sg q1026 22 (q1026.1 22)) x1 (x2 + (-1))))) else gfX1_goOn n q1021.2 x1 (x2 + (-1)))) else gfX1_goOn n q1021.2 q1021.1 (x2 + (-1)))) else (let q1009 := (fX5_wordIn σ (x2 + 1)); (if q1009 = (-1) then (let q1011 := (fX5_moveOnFrom σ x2); (if (x2 + 1) = (q1011.1 1) then (if x2 = (q1011.1 4) then (let q1018 := (fX5_isGoing (sg q1011 22 0) (x2 + 1)); (if q1018 = 0 then gfX1_goOn n (sg q1011 22 0) x1 (x2 + (-1)) else (let q1020 := (fX1_takeBranch (sg q1011 22 0) x2 q1002); gfX1_goOn n q1020 x1 (x2 + (-1))))) else gfX1_goOn n (sg q1011 22 0) x1 (x2 + (-1))) else (if x2 = (q1011.1 4) then (let q1014 := (fX5_isGoing (sg q1011 22 (q1011.1 22)) (x2 + 1)); (if q1014 = 0 then gfX1_goOn n (sg q1011 22 (q1011.1 22)) x1 (x2 + (-1)) else (let q1016 := (fX1_takeBranch (sg q1011 22 (q1011.1 22)) x2 q1002); gfX1_goOn n q1016 x1 (x2 + (-1))))) else gfX1_goOn n (sg q1011 22 (q1011.1 22)) x1 (x2 + (-1))))) else gfX1_goOn n σ x1 (x2 + (-1))))))))
def fX1_goOn (σ : St) : Int32 × St := (let q1 := (fX4_last σ); gfX1_goOn 9 σ 4 (q1 - 1))
def rmX1_goOn : Room := { frames := 4, cells := 0, slots := 0, locals := 91 }
set_option maxRecDepth 100000 in
set_option maxHeartbeats 4000000 in
theorem kX1_goOn (l : Launch) (D : va_G) (a : Nat → Nat) (cI cZ : ClassId) (σ : St) (hs : shp σ) : Ci l yX1_goOn cX1_goOn 5 (some .int) TB rmX1_goOn D vwCl [(cI, .int), (cZ, .boolean)] [.ref (a 8)] (fx a cI cZ σ) (fx a cI cZ (fX1_goOn σ).2) (fX1_goOn σ).1 := by
  refine Ci_of (cc := cX1_goOn) (maxL := 5) (ret := (some .int)) (by decide +kernel) TBg (Nat.le_of_ble_eq_true rfl) ?_
  intro p e s m args below meth c A h hr
  have loop : ∀ (n : Nat) (σ : St) (x1 x2 : Int32), shp σ → -1 ≤ x2.toInt → x2.toInt + 1 < n → J p l e rmX1_goOn s m args below meth c D vwCl A 5 0 0 (MQ below (jEi D vwCl [(cI, .int), (cZ, .boolean)] A (fx a cI cZ (gfX1_goOn n σ x1 x2).2) (gfX1_goOn n σ x1 x2).1) args s 0 0 A) (fx a cI cZ σ) 12 [(1, .int x1), (2, .int x2), (0, .ref (a 8))] [] := by
    intro n
    induction n with
    | zero => intro σ x1 x2 hs h1 h2; exact absurd h2 (by omega)
    | succ n ih =>
      intro σ x1 x2 hs h1 h2
      refine j_iload_n h 1 dX1_goOn_12 rfl rfl ?_
      refine j_if_lt h dX1_goOn_13 (tgt := 152) (by decide) (fun c1001 => ?_) (fun c1001 => ?_)
      ·
        refine j_iload_n h 0 dX1_goOn_152 rfl rfl ?_
        have E : gfX1_goOn (n + 1) σ x1 x2 = (x1, σ) := j_ip c1001 rfl
        exact j_ireturn h hr (congrArg Prod.fst E).symm (congrArg (fun z => fx a cI cZ z.2) E).symm dX1_goOn_153
      ·
        refine j_aload_n h 2 dX1_goOn_16 rfl rfl ?_
        refine j_get h iX1 8 (fx_c8 _ _ _ σ) rfl 2 (by decide) tb1_204 rfl (v := .ref (a 9)) rfl dX1_goOn_17 ?_
        refine j_iload_n h 1 dX1_goOn_20 rfl rfl ?_
        refine j_callVi h (kX5_wordIn l D a cI cZ σ x2) tb2_227 tb2_228 tb2_229 tb1_6 tb2_230 ⟨rfl, rfl⟩ (n := 1) (by decide +kernel) ⟨Nat.le_of_ble_eq_true rfl, Nat.le_of_ble_eq_true rfl⟩ (As := [.int x2]) rfl (ci := 5) (q0 := 9) rfl (fx_c9 _ _ _ σ) (st := []) rfl (Nat.le_of_ble_eq_true rfl) dX1_goOn_21 ⟨Nat.zero_le _, Nat.zero_le _⟩ ?_
        generalize hq1002 : (fX5_wordIn σ x2) = q1002
        refine j_istore_n h (lv' := [(3, .int q1002), (1, .int x1), (2, .int x2), (0, .ref (a 8))]) dX1_goOn_24 rfl (by decide) rfl ?_
        refine j_iload_n h 0 dX1_goOn_25 rfl rfl ?_
        refine j_iconst h (v := (-1)) dX1_goOn_26 (by decide) ?_
        refine j_icmp_eq h dX1_goOn_27 (tgt := 49) (by decide) (fun c1003 => ?_) (fun c1003 => ?_)
        ·
          refine j_iconst h (v := 4) dX1_goOn_49 (by decide) ?_
          refine j_istore h (lv' := [(4, .int 4), (3, .int q1002), (1, .int x1), (2, .int x2), (0, .ref (a 8))]) dX1_goOn_50 (by decide) rfl ?_
          refine j_iload h 0 dX1_goOn_52 rfl ?_
          refine j_iconst h (v := 4) dX1_goOn_54 (by decide) ?_
          refine j_icmp_eq h dX1_goOn_55 (tgt := 64) (by decide) (fun c1004 => ?_) (fun c1004 => ?_)
          ·
            refine j_iload_n h 1 dX1_goOn_64 rfl rfl ?_
            refine j_iconst h (v := (-1)) dX1_goOn_65 (by decide) ?_
            refine j_icmp_eq h dX1_goOn_66 (tgt := 146) (by decide) (fun c1005 => ?_) (fun c1005 => ?_)
            ·
              refine j_iinc h 3 (v := (x2 + (-1))) (lv' := [(2, .int (x2 + (-1))), (4, .int 4), (3, .int q1002), (1, .int x1), (0, .ref (a 8))]) dX1_goOn_146 rfl (rfl) (by decide) rfl ?_
              refine j_goto h dX1_goOn_149 (tgt := 12) (by decide) ?_
              have hi := j_dec c1001
              have hl := j_toGe c1001
              subst hq1002
              have E : gfX1_goOn (n + 1) σ x1 x2 = gfX1_goOn n σ x1 (x2 + (-1)) := j_ig c1001 (j_ip c1003 rfl)
              rw [E]
              refine j_lv [3, 0, 4] rfl ?_
              exact ih σ x1 (x2 + (-1)) hs (by omega) (by omega)
            ·
              exact absurd c1003 c1005
          ·
            exact absurd c1004 (by decide)
        ·
          refine j_iload_n h 2 dX1_goOn_30 rfl rfl ?_
          refine j_aload_n h 3 dX1_goOn_31 rfl rfl ?_
          refine j_get h iX1 8 (fx_c8 _ _ _ σ) rfl 0 (by decide) tb1_202 rfl (v := .ref (a 1)) rfl dX1_goOn_32 ?_
          refine j_get h iX4 1 (fx_c1 _ _ _ σ) rfl 1 (by decide) tb1_43 rfl (v := .int (σ.1 1)) rfl dX1_goOn_35 ?_
          refine j_icmp_ne h dX1_goOn_38 (tgt := 49) (by decide) (fun c1006 => ?_) (fun c1006 => ?_)
          ·
            refine j_iconst h (v := 4) dX1_goOn_49 (by decide) ?_
            refine j_istore h (lv' := [(4, .int 4), (3, .int q1002), (1, .int x1), (2, .int x2), (0, .ref (a 8))]) dX1_goOn_50 (by decide) rfl ?_
            refine j_iload h 0 dX1_goOn_52 rfl ?_
            refine j_iconst h (v := 4) dX1_goOn_54 (by decide) ?_
            refine j_icmp_eq h dX1_goOn_55 (tgt := 64) (by decide) (fun c1007 => ?_) (fun c1007 => ?_)
            ·
              refine j_iload_n h 1 dX1_goOn_64 rfl rfl ?_
              refine j_iconst h (v := (-1)) dX1_goOn_65 (by decide) ?_
              refine j_icmp_eq h dX1_goOn_66 (tgt := 146) (by decide) (fun c1008 => ?_) (fun c1008 => ?_)
              ·
                exact absurd c1008 c1003
              ·
                refine j_aload_n h 4 dX1_goOn_69 rfl rfl ?_
                refine j_get h iX1 8 (fx_c8 _ _ _ σ) rfl 2 (by decide) tb1_204 rfl (v := .ref (a 9)) rfl dX1_goOn_70 ?_
                refine j_iload_n h 3 dX1_goOn_73 rfl rfl ?_
                refine j_iconst h (v := 1) dX1_goOn_74 (by decide) ?_
                refine j_iadd h dX1_goOn_75 ?_
                refine j_callVi h (kX5_wordIn l D a cI cZ σ (x2 + 1)) tb2_227 tb2_228 tb2_229 tb1_6 tb2_230 ⟨rfl, rfl⟩ (n := 1) (by decide +kernel) ⟨Nat.le_of_ble_eq_true rfl, Nat.le_of_ble_eq_true rfl⟩ (As := [.int (x2 + 1)]) rfl (ci := 5) (q0 := 9) rfl (fx_c9 _ _ _ σ) (st := []) rfl (Nat.le_of_ble_eq_true rfl) dX1_goOn_76 ⟨Nat.zero_le _, Nat.zero_le _⟩ ?_
                generalize hq1009 : (fX5_wordIn σ (x2 + 1)) = q1009
                refine j_iconst h (v := (-1)) dX1_goOn_79 (by decide) ?_
                refine j_icmp_ne h dX1_goOn_80 (tgt := 146) (by decide) (fun c1010 => ?_) (fun c1010 => ?_)
                ·
                  refine j_iinc h 3 (v := (x2 + (-1))) (lv' := [(2, .int (x2 + (-1))), (4, .int 4), (3, .int q1002), (1, .int x1), (0, .ref (a 8))]) dX1_goOn_146 rfl (rfl) (by decide) rfl ?_
                  refine j_goto h dX1_goOn_149 (tgt := 12) (by decide) ?_
                  have hi := j_dec c1001
                  have hl := j_toGe c1001
                  subst hq1002 hq1009
                  have E : gfX1_goOn (n + 1) σ x1 x2 = gfX1_goOn n σ x1 (x2 + (-1)) := j_ig c1001 (j_ig c1003 (j_ig c1006 (j_ig c1010 rfl)))
                  rw [E]
                  refine j_lv [3, 0, 4] rfl ?_
                  exact ih σ x1 (x2 + (-1)) hs (by omega) (by omega)
                ·
                  refine j_aload_n h 4 dX1_goOn_83 rfl rfl ?_
                  refine j_get h iX1 8 (fx_c8 _ _ _ σ) rfl 2 (by decide) tb1_204 rfl (v := .ref (a 9)) rfl dX1_goOn_84 ?_
                  refine j_iload_n h 3 dX1_goOn_87 rfl rfl ?_
                  refine j_callVv h (kX5_moveOnFrom l D a cI cZ σ x2) tb3_92 tb3_93 tb3_94 tb1_6 tb3_95 ⟨rfl, rfl⟩ (n := 1) (by decide +kernel) ⟨Nat.le_of_ble_eq_true rfl, Nat.le_of_ble_eq_true rfl⟩ (As := [.int x2]) rfl (ci := 5) (q0 := 9) rfl (fx_c9 _ _ _ σ) (st := []) rfl (Nat.le_of_ble_eq_true rfl) dX1_goOn_88 ⟨Nat.zero_le _, Nat.zero_le _⟩ ?_
                  generalize hq1011 : (fX5_moveOnFrom σ x2) = q1011
                  refine j_aload_n h 4 dX1_goOn_91 rfl rfl ?_
                  refine j_iload_n h 3 dX1_goOn_92 rfl rfl ?_
                  refine j_iconst h (v := 1) dX1_goOn_93 (by decide) ?_
                  refine j_iadd h dX1_goOn_94 ?_
                  refine j_aload_n h 4 dX1_goOn_95 rfl rfl ?_
                  refine j_get h iX1 8 (fx_c8 _ _ _ q1011) rfl 0 (by decide) tb1_202 rfl (v := .ref (a 1)) rfl dX1_goOn_96 ?_
                  refine j_get h iX4 1 (fx_c1 _ _ _ q1011) rfl 1 (by decide) tb1_43 rfl (v := .int (q1011.1 1)) rfl dX1_goOn_99 ?_
                  refine j_icmp_ne h dX1_goOn_102 (tgt := 109) (by decide) (fun c1012 => ?_) (fun c1012 => ?_)
                  ·
                    refine j_aload_n h 4 dX1_goOn_109 rfl rfl ?_
                    refine j_get h iX1 8 (fx_c8 _ _ _ q1011) rfl 13 (by decide) tb1_221 rfl (v := .int (q1011.1 22)) rfl dX1_goOn_110 ?_
                    refine j_put h iX1 tyX1 tyX1_ok nmX1 8 (fx_c8 _ _ _ q1011) rfl 13 (by decide) tb1_221 rfl rfl rfl rfl (Nat.le_of_ble_eq_true rfl) (w' := (fx a cI cZ (sg q1011 22 (q1011.1 22)))) (fx_p8_13 _ _ _ q1011 _) dX1_goOn_113 ?_
                    refine j_iload_n h 3 dX1_goOn_116 rfl rfl ?_
                    refine j_aload_n h 4 dX1_goOn_117 rfl rfl ?_
                    refine j_get h iX1 8 (fx_c8 _ _ _ (sg q1011 22 (q1011.1 22))) rfl 0 (by decide) tb1_202 rfl (v := .ref (a 1)) rfl dX1_goOn_118 ?_
                    refine j_get h iX4 1 (fx_c1 _ _ _ (sg q1011 22 (q1011.1 22))) rfl 4 (by decide) tb1_50 rfl (v := .int (q1011.1 4)) rfl dX1_goOn_121 ?_
                    refine j_icmp_ne h dX1_goOn_124 (tgt := 146) (by decide) (fun c1013 => ?_) (fun c1013 => ?_)
                    ·
                      refine j_iinc h 3 (v := (x2 + (-1))) (lv' := [(2, .int (x2 + (-1))), (4, .int 4), (3, .int q1002), (1, .int x1), (0, .ref (a 8))]) dX1_goOn_146 rfl (rfl) (by decide) rfl ?_
                      refine j_goto h dX1_goOn_149 (tgt := 12) (by decide) ?_
                      have hi := j_dec c1001
                      have hl := j_toGe c1001
                      subst hq1002 hq1009 hq1011
                      have E : gfX1_goOn (n + 1) σ x1 x2 = gfX1_goOn n (sg (fX5_moveOnFrom σ x2) 22 ((fX5_moveOnFrom σ x2).1 22)) x1 (x2 + (-1)) := j_ig c1001 (j_ig c1003 (j_ig c1006 (j_ip c1010 (j_ig c1012 (j_ig c1013 rfl)))))
                      rw [E]
                      refine j_lv [3, 0, 4] rfl ?_
                      exact ih (sg (fX5_moveOnFrom σ x2) 22 ((fX5_moveOnFrom σ x2).1 22)) x1 (x2 + (-1)) (shp.fr (shp.fr hs (fr_fX5_moveOnFrom _ _)) (Fr.sg (by decide))) (by omega) (by omega)
                    ·
                      refine j_aload_n h 4 dX1_goOn_127 rfl rfl ?_
                      refine j_get h iX1 8 (fx_c8 _ _ _ (sg q1011 22 (q1011.1 22))) rfl 2 (by decide) tb1_204 rfl (v := .ref (a 9)) rfl dX1_goOn_128 ?_
                      refine j_iload_n h 3 dX1_goOn_131 rfl rfl ?_
                      refine j_iconst h (v := 1) dX1_goOn_132 (by decide) ?_
                      refine j_iadd h dX1_goOn_133 ?_
                      refine j_callVi h (kX5_isGoing l D a cI cZ (sg q1011 22 (q1011.1 22)) (x2 + 1)) tb2_231 tb2_232 tb2_233 tb1_6 tb2_234 ⟨rfl, rfl⟩ (n := 1) (by decide +kernel) ⟨Nat.le_of_ble_eq_true rfl, Nat.le_of_ble_eq_true rfl⟩ (As := [.int (x2 + 1)]) rfl (ci := 5) (q0 := 9) rfl (fx_c9 _ _ _ (sg q1011 22 (q1011.1 22))) (st := []) rfl (Nat.le_of_ble_eq_true rfl) dX1_goOn_134 ⟨Nat.zero_le _, Nat.zero_le _⟩ ?_
                      generalize hq1014 : (fX5_isGoing (sg q1011 22 (q1011.1 22)) (x2 + 1)) = q1014
                      refine j_if_eq h dX1_goOn_137 (tgt := 146) (by decide) (fun c1015 => ?_) (fun c1015 => ?_)
                      ·
                        refine j_iinc h 3 (v := (x2 + (-1))) (lv' := [(2, .int (x2 + (-1))), (4, .int 4), (3, .int q1002), (1, .int x1), (0, .ref (a 8))]) dX1_goOn_146 rfl (rfl) (by decide) rfl ?_
                        refine j_goto h dX1_goOn_149 (tgt := 12) (by decide) ?_
                        have hi := j_dec c1001
                        have hl := j_toGe c1001
                        subst hq1002 hq1009 hq1011 hq1014
                        have E : gfX1_goOn (n + 1) σ x1 x2 = gfX1_goOn n (sg (fX5_moveOnFrom σ x2) 22 ((fX5_moveOnFrom σ x2).1 22)) x1 (x2 + (-1)) := j_ig c1001 (j_ig c1003 (j_ig c1006 (j_ip c1010 (j_ig c1012 (j_ip c1013 (j_ip c1015 rfl))))))
                        rw [E]
                        refine j_lv [3, 0, 4] rfl ?_
                        exact ih (sg (fX5_moveOnFrom σ x2) 22 ((fX5_moveOnFrom σ x2).1 22)) x1 (x2 + (-1)) (shp.fr (shp.fr hs (fr_fX5_moveOnFrom _ _)) (Fr.sg (by decide))) (by omega) (by omega)
                      ·
                        refine j_aload_n h 4 dX1_goOn_140 rfl rfl ?_
                        refine j_iload_n h 3 dX1_goOn_141 rfl rfl ?_
                        refine j_iload_n h 1 dX1_goOn_142 rfl rfl ?_
                        refine j_callVv h (kX1_takeBranch l D a cI cZ (sg q1011 22 (q1011.1 22)) x2 q1002) tb3_60 tb3_62 tp_6 tb1_5 tb3_63 ⟨rfl, rfl⟩ (n := 2) (by decide +kernel) ⟨Nat.le_of_ble_eq_true rfl, Nat.le_of_ble_eq_true rfl⟩ (As := [.int x2, .int q1002]) rfl (ci := 1) (q0 := 8) rfl (fx_c8 _ _ _ (sg q1011 22 (q1011.1 22))) (st := []) rfl (Nat.le_of_ble_eq_true rfl) dX1_goOn_143 ⟨Nat.zero_le _, Nat.zero_le _⟩ ?_
                        generalize hq1016 : (fX1_takeBranch (sg q1011 22 (q1011.1 22)) x2 q1002) = q1016
                        refine j_iinc h 3 (v := (x2 + (-1))) (lv' := [(2, .int (x2 + (-1))), (4, .int 4), (3, .int q1002), (1, .int x1), (0, .ref (a 8))]) dX1_goOn_146 rfl (rfl) (by decide) rfl ?_
                        refine j_goto h dX1_goOn_149 (tgt := 12) (by decide) ?_
                        have hi := j_dec c1001
                        have hl := j_toGe c1001
                        subst hq1002 hq1009 hq1011 hq1014 hq1016
                        have E : gfX1_goOn (n + 1) σ x1 x2 = gfX1_goOn n (fX1_takeBranch (sg (fX5_moveOnFrom σ x2) 22 ((fX5_moveOnFrom σ x2).1 22)) x2 (fX5_wordIn σ x2)) x1 (x2 + (-1)) := j_ig c1001 (j_ig c1003 (j_ig c1006 (j_ip c1010 (j_ig c1012 (j_ip c1013 (j_ig c1015 rfl))))))
                        rw [E]
                        refine j_lv [3, 0, 4] rfl ?_
                        exact ih (fX1_takeBranch (sg (fX5_moveOnFrom σ x2) 22 ((fX5_moveOnFrom σ x2).1 22)) x2 (fX5_wordIn σ x2)) x1 (x2 + (-1)) (shp.fr (shp.fr (shp.fr hs (fr_fX5_moveOnFrom _ _)) (Fr.sg (by decide))) (fr_fX1_takeBranch _ _ _)) (by omega) (by omega)
                  ·
                    refine j_iconst h (v := 0) dX1_goOn_105 (by decide) ?_
                    refine j_goto h dX1_goOn_106 (tgt := 113) (by decide) ?_
                    refine j_put h iX1 tyX1 tyX1_ok nmX1 8 (fx_c8 _ _ _ q1011) rfl 13 (by decide) tb1_221 rfl rfl rfl rfl (Nat.le_of_ble_eq_true rfl) (w' := (fx a cI cZ (sg q1011 22 0))) (fx_p8_13 _ _ _ q1011 _) dX1_goOn_113 ?_
                    refine j_iload_n h 3 dX1_goOn_116 rfl rfl ?_
                    refine j_aload_n h 4 dX1_goOn_117 rfl rfl ?_
                    refine j_get h iX1 8 (fx_c8 _ _ _ (sg q1011 22 0)) rfl 0 (by decide) tb1_202 rfl (v := .ref (a 1)) rfl dX1_goOn_118 ?_
                    refine j_get h iX4 1 (fx_c1 _ _ _ (sg q1011 22 0)) rfl 4 (by decide) tb1_50 rfl (v := .int (q1011.1 4)) rfl dX1_goOn_121 ?_
                    refine j_icmp_ne h dX1_goOn_124 (tgt := 146) (by decide) (fun c1017 => ?_) (fun c1017 => ?_)
                    ·
                      refine j_iinc h 3 (v := (x2 + (-1))) (lv' := [(2, .int (x2 + (-1))), (4, .int 4), (3, .int q1002), (1, .int x1), (0, .ref (a 8))]) dX1_goOn_146 rfl (rfl) (by decide) rfl ?_
                      refine j_goto h dX1_goOn_149 (tgt := 12) (by decide) ?_
                      have hi := j_dec c1001
                      have hl := j_toGe c1001
                      subst hq1002 hq1009 hq1011
                      have E : gfX1_goOn (n + 1) σ x1 x2 = gfX1_goOn n (sg (fX5_moveOnFrom σ x2) 22 0) x1 (x2 + (-1)) := j_ig c1001 (j_ig c1003 (j_ig c1006 (j_ip c1010 (j_ip c1012 (j_ig c1017 rfl)))))
                      rw [E]
                      refine j_lv [3, 0, 4] rfl ?_
                      exact ih (sg (fX5_moveOnFrom σ x2) 22 0) x1 (x2 + (-1)) (shp.fr (shp.fr hs (fr_fX5_moveOnFrom _ _)) (Fr.sg (by decide))) (by omega) (by omega)
                    ·
                      refine j_aload_n h 4 dX1_goOn_127 rfl rfl ?_
                      refine j_get h iX1 8 (fx_c8 _ _ _ (sg q1011 22 0)) rfl 2 (by decide) tb1_204 rfl (v := .ref (a 9)) rfl dX1_goOn_128 ?_
                      refine j_iload_n h 3 dX1_goOn_131 rfl rfl ?_
                      refine j_iconst h (v := 1) dX1_goOn_132 (by decide) ?_
                      refine j_iadd h dX1_goOn_133 ?_
                      refine j_callVi h (kX5_isGoing l D a cI cZ (sg q1011 22 0) (x2 + 1)) tb2_231 tb2_232 tb2_233 tb1_6 tb2_234 ⟨rfl, rfl⟩ (n := 1) (by decide +kernel) ⟨Nat.le_of_ble_eq_true rfl, Nat.le_of_ble_eq_true rfl⟩ (As := [.int (x2 + 1)]) rfl (ci := 5) (q0 := 9) rfl (fx_c9 _ _ _ (sg q1011 22 0)) (st := []) rfl (Nat.le_of_ble_eq_true rfl) dX1_goOn_134 ⟨Nat.zero_le _, Nat.zero_le _⟩ ?_
                      generalize hq1018 : (fX5_isGoing (sg q1011 22 0) (x2 + 1)) = q1018
                      refine j_if_eq h dX1_goOn_137 (tgt := 146) (by decide) (fun c1019 => ?_) (fun c1019 => ?_)
                      ·
                        refine j_iinc h 3 (v := (x2 + (-1))) (lv' := [(2, .int (x2 + (-1))), (4, .int 4), (3, .int q1002), (1, .int x1), (0, .ref (a 8))]) dX1_goOn_146 rfl (rfl) (by decide) rfl ?_
                        refine j_goto h dX1_goOn_149 (tgt := 12) (by decide) ?_
                        have hi := j_dec c1001
                        have hl := j_toGe c1001
                        subst hq1002 hq1009 hq1011 hq1018
                        have E : gfX1_goOn (n + 1) σ x1 x2 = gfX1_goOn n (sg (fX5_moveOnFrom σ x2) 22 0) x1 (x2 + (-1)) := j_ig c1001 (j_ig c1003 (j_ig c1006 (j_ip c1010 (j_ip c1012 (j_ip c1017 (j_ip c1019 rfl))))))
                        rw [E]
                        refine j_lv [3, 0, 4] rfl ?_
                        exact ih (sg (fX5_moveOnFrom σ x2) 22 0) x1 (x2 + (-1)) (shp.fr (shp.fr hs (fr_fX5_moveOnFrom _ _)) (Fr.sg (by decide))) (by omega) (by omega)
                      ·
                        refine j_aload_n h 4 dX1_goOn_140 rfl rfl ?_
                        refine j_iload_n h 3 dX1_goOn_141 rfl rfl ?_
                        refine j_iload_n h 1 dX1_goOn_142 rfl rfl ?_
                        refine j_callVv h (kX1_takeBranch l D a cI cZ (sg q1011 22 0) x2 q1002) tb3_60 tb3_62 tp_6 tb1_5 tb3_63 ⟨rfl, rfl⟩ (n := 2) (by decide +kernel) ⟨Nat.le_of_ble_eq_true rfl, Nat.le_of_ble_eq_true rfl⟩ (As := [.int x2, .int q1002]) rfl (ci := 1) (q0 := 8) rfl (fx_c8 _ _ _ (sg q1011 22 0)) (st := []) rfl (Nat.le_of_ble_eq_true rfl) dX1_goOn_143 ⟨Nat.zero_le _, Nat.zero_le _⟩ ?_
                        generalize hq1020 : (fX1_takeBranch (sg q1011 22 0) x2 q1002) = q1020
                        refine j_iinc h 3 (v := (x2 + (-1))) (lv' := [(2, .int (x2 + (-1))), (4, .int 4), (3, .int q1002), (1, .int x1), (0, .ref (a 8))]) dX1_goOn_146 rfl (rfl) (by decide) rfl ?_
                        refine j_goto h dX1_goOn_149 (tgt := 12) (by decide) ?_
                        have hi := j_dec c1001
                        have hl := j_toGe c1001
                        subst hq1002 hq1009 hq1011 hq1018 hq1020
                        have E : gfX1_goOn (n + 1) σ x1 x2 = gfX1_goOn n (fX1_takeBranch (sg (fX5_moveOnFrom σ x2) 22 0) x2 (fX5_wordIn σ x2)) x1 (x2 + (-1)) := j_ig c1001 (j_ig c1003 (j_ig c1006 (j_ip c1010 (j_ip c1012 (j_ip c1017 (j_ig c1019 rfl))))))
                        rw [E]
                        refine j_lv [3, 0, 4] rfl ?_
                        exact ih (fX1_takeBranch (sg (fX5_moveOnFrom σ x2) 22 0) x2 (fX5_wordIn σ x2)) x1 (x2 + (-1)) (shp.fr (shp.fr (shp.fr hs (fr_fX5_moveOnFrom _ _)) (Fr.sg (by decide))) (fr_fX1_takeBranch _ _ _)) (by omega) (by omega)
            ·
              exact absurd c1007 (by decide)
          ·
            refine j_aload_n h 3 dX1_goOn_41 rfl rfl ?_
            refine j_iload_n h 0 dX1_goOn_42 rfl rfl ?_
            refine j_callVi h (kX1_work l D a cI cZ σ q1002 hs) tb3_69 tb3_71 tp_8 tb1_5 tb3_72 ⟨rfl, rfl⟩ (n := 1) (by decide +kernel) ⟨Nat.le_of_ble_eq_true rfl, Nat.le_of_ble_eq_true rfl⟩ (As := [.int q1002]) rfl (ci := 1) (q0 := 8) rfl (fx_c8 _ _ _ σ) (st := []) rfl (Nat.le_of_ble_eq_true rfl) dX1_goOn_43 ⟨Nat.zero_le _, Nat.zero_le _⟩ ?_
            generalize hq1021 : (fX1_work σ q1002) = q1021
            refine j_goto h dX1_goOn_46 (tgt := 50) (by decide) ?_
            refine j_istore h (lv' := [(4, .int q1021.1), (3, .int q1002), (1, .int x1), (2, .int x2), (0, .ref (a 8))]) dX1_goOn_50 (by decide) rfl ?_
            refine j_iload h 0 dX1_goOn_52 rfl ?_
            refine j_iconst h (v := 4) dX1_goOn_54 (by decide) ?_
            refine j_icmp_eq h dX1_goOn_55 (tgt := 64) (by decide) (fun c1022 => ?_) (fun c1022 => ?_)
            ·
              refine j_iload_n h 1 dX1_goOn_64 rfl rfl ?_
              refine j_iconst h (v := (-1)) dX1_goOn_65 (by decide) ?_
              refine j_icmp_eq h dX1_goOn_66 (tgt := 146) (by decide) (fun c1023 => ?_) (fun c1023 => ?_)
              ·
                exact absurd c1023 c1003
              ·
                refine j_aload_n h 4 dX1_goOn_69 rfl rfl ?_
                refine j_get h iX1 8 (fx_c8 _ _ _ q1021.2) rfl 2 (by decide) tb1_204 rfl (v := .ref (a 9)) rfl dX1_goOn_70 ?_
                refine j_iload_n h 3 dX1_goOn_73 rfl rfl ?_
                refine j_iconst h (v := 1) dX1_goOn_74 (by decide) ?_
                refine j_iadd h dX1_goOn_75 ?_
                refine j_callVi h (kX5_wordIn l D a cI cZ q1021.2 (x2 + 1)) tb2_227 tb2_228 tb2_229 tb1_6 tb2_230 ⟨rfl, rfl⟩ (n := 1) (by decide +kernel) ⟨Nat.le_of_ble_eq_true rfl, Nat.le_of_ble_eq_true rfl⟩ (As := [.int (x2 + 1)]) rfl (ci := 5) (q0 := 9) rfl (fx_c9 _ _ _ q1021.2) (st := []) rfl (Nat.le_of_ble_eq_true rfl) dX1_goOn_76 ⟨Nat.zero_le _, Nat.zero_le _⟩ ?_
                generalize hq1024 : (fX5_wordIn q1021.2 (x2 + 1)) = q1024
                refine j_iconst h (v := (-1)) dX1_goOn_79 (by decide) ?_
                refine j_icmp_ne h dX1_goOn_80 (tgt := 146) (by decide) (fun c1025 => ?_) (fun c1025 => ?_)
                ·
                  refine j_iinc h 3 (v := (x2 + (-1))) (lv' := [(2, .int (x2 + (-1))), (4, .int q1021.1), (3, .int q1002), (1, .int x1), (0, .ref (a 8))]) dX1_goOn_146 rfl (rfl) (by decide) rfl ?_
                  refine j_goto h dX1_goOn_149 (tgt := 12) (by decide) ?_
                  have hi := j_dec c1001
                  have hl := j_toGe c1001
                  subst hq1002 hq1021 hq1024
                  have E : gfX1_goOn (n + 1) σ x1 x2 = gfX1_goOn n (fX1_work σ (fX5_wordIn σ x2)).2 x1 (x2 + (-1)) := j_ig c1001 (j_ig c1003 (j_ip c1006 (j_ip c1022 (j_ig c1025 rfl))))
                  rw [E]
                  refine j_lv [3, 0, 4] rfl ?_
                  exact ih ((fX1_work σ (fX5_wordIn σ x2)).2) x1 (x2 + (-1)) (shp.fr hs (fr_fX1_work _ _)) (by omega) (by omega)
                ·
                  refine j_aload_n h 4 dX1_goOn_83 rfl rfl ?_
                  refine j_get h iX1 8 (fx_c8 _ _ _ q1021.2) rfl 2 (by decide) tb1_204 rfl (v := .ref (a 9)) rfl dX1_goOn_84 ?_
                  refine j_iload_n h 3 dX1_goOn_87 rfl rfl ?_
                  refine j_callVv h (kX5_moveOnFrom l D a cI cZ q1021.2 x2) tb3_92 tb3_93 tb3_94 tb1_6 tb3_95 ⟨rfl, rfl⟩ (n := 1) (by decide +kernel) ⟨Nat.le_of_ble_eq_true rfl, Nat.le_of_ble_eq_true rfl⟩ (As := [.int x2]) rfl (ci := 5) (q0 := 9) rfl (fx_c9 _ _ _ q1021.2) (st := []) rfl (Nat.le_of_ble_eq_true rfl) dX1_goOn_88 ⟨Nat.zero_le _, Nat.zero_le _⟩ ?_
                  generalize hq1026 : (fX5_moveOnFrom q1021.2 x2) = q1026
                  refine j_aload_n h 4 dX1_goOn_91 rfl rfl ?_
                  refine j_iload_n h 3 dX1_goOn_92 rfl rfl ?_
                  refine j_iconst h (v := 1) dX1_goOn_93 (by decide) ?_
                  refine j_iadd h dX1_goOn_94 ?_
                  refine j_aload_n h 4 dX1_goOn_95 rfl rfl ?_
                  refine j_get h iX1 8 (fx_c8 _ _ _ q1026) rfl 0 (by decide) tb1_202 rfl (v := .ref (a 1)) rfl dX1_goOn_96 ?_
                  refine j_get h iX4 1 (fx_c1 _ _ _ q1026) rfl 1 (by decide) tb1_43 rfl (v := .int (q1026.1 1)) rfl dX1_goOn_99 ?_
                  refine j_icmp_ne h dX1_goOn_102 (tgt := 109) (by decide) (fun c1027 => ?_) (fun c1027 => ?_)
                  ·
                    refine j_aload_n h 4 dX1_goOn_109 rfl rfl ?_
                    refine j_get h iX1 8 (fx_c8 _ _ _ q1026) rfl 13 (by decide) tb1_221 rfl (v := .int (q1026.1 22)) rfl dX1_goOn_110 ?_
                    refine j_put h iX1 tyX1 tyX1_ok nmX1 8 (fx_c8 _ _ _ q1026) rfl 13 (by decide) tb1_221 rfl rfl rfl rfl (Nat.le_of_ble_eq_true rfl) (w' := (fx a cI cZ (sg q1026 22 (q1026.1 22)))) (fx_p8_13 _ _ _ q1026 _) dX1_goOn_113 ?_
                    refine j_iload_n h 3 dX1_goOn_116 rfl rfl ?_
                    refine j_aload_n h 4 dX1_goOn_117 rfl rfl ?_
                    refine j_get h iX1 8 (fx_c8 _ _ _ (sg q1026 22 (q1026.1 22))) rfl 0 (by decide) tb1_202 rfl (v := .ref (a 1)) rfl dX1_goOn_118 ?_
                    refine j_get h iX4 1 (fx_c1 _ _ _ (sg q1026 22 (q1026.1 22))) rfl 4 (by decide) tb1_50 rfl (v := .int (q1026.1 4)) rfl dX1_goOn_121 ?_
                    refine j_icmp_ne h dX1_goOn_124 (tgt := 146) (by decide) (fun c1028 => ?_) (fun c1028 => ?_)
                    ·
                      refine j_iinc h 3 (v := (x2 + (-1))) (lv' := [(2, .int (x2 + (-1))), (4, .int q1021.1), (3, .int q1002), (1, .int x1), (0, .ref (a 8))]) dX1_goOn_146 rfl (rfl) (by decide) rfl ?_
                      refine j_goto h dX1_goOn_149 (tgt := 12) (by decide) ?_
                      have hi := j_dec c1001
                      have hl := j_toGe c1001
                      subst hq1002 hq1021 hq1024 hq1026
                      have E : gfX1_goOn (n + 1) σ x1 x2 = gfX1_goOn n (sg (fX5_moveOnFrom (fX1_work σ (fX5_wordIn σ x2)).2 x2) 22 ((fX5_moveOnFrom (fX1_work σ (fX5_wordIn σ x2)).2 x2).1 22)) x1 (x2 + (-1)) := j_ig c1001 (j_ig c1003 (j_ip c1006 (j_ip c1022 (j_ip c1025 (j_ig c1027 (j_ig c1028 rfl))))))
                      rw [E]
                      refine j_lv [3, 0, 4] rfl ?_
                      exact ih (sg (fX5_moveOnFrom (fX1_work σ (fX5_wordIn σ x2)).2 x2) 22 ((fX5_moveOnFrom (fX1_work σ (fX5_wordIn σ x2)).2 x2).1 22)) x1 (x2 + (-1)) (shp.fr (shp.fr (shp.fr hs (fr_fX1_work _ _)) (fr_fX5_moveOnFrom _ _)) (Fr.sg (by decide))) (by omega) (by omega)
                    ·
                      refine j_aload_n h 4 dX1_goOn_127 rfl rfl ?_
                      refine j_get h iX1 8 (fx_c8 _ _ _ (sg q1026 22 (q1026.1 22))) rfl 2 (by decide) tb1_204 rfl (v := .ref (a 9)) rfl dX1_goOn_128 ?_
                      refine j_iload_n h 3 dX1_goOn_131 rfl rfl ?_
                      refine j_iconst h (v := 1) dX1_goOn_132 (by decide) ?_
                      refine j_iadd h dX1_goOn_133 ?_
                      refine j_callVi h (kX5_isGoing l D a cI cZ (sg q1026 22 (q1026.1 22)) (x2 + 1)) tb2_231 tb2_232 tb2_233 tb1_6 tb2_234 ⟨rfl, rfl⟩ (n := 1) (by decide +kernel) ⟨Nat.le_of_ble_eq_true rfl, Nat.le_of_ble_eq_true rfl⟩ (As := [.int (x2 + 1)]) rfl (ci := 5) (q0 := 9) rfl (fx_c9 _ _ _ (sg q1026 22 (q1026.1 22))) (st := []) rfl (Nat.le_of_ble_eq_true rfl) dX1_goOn_134 ⟨Nat.zero_le _, Nat.zero_le _⟩ ?_
                      generalize hq1029 : (fX5_isGoing (sg q1026 22 (q1026.1 22)) (x2 + 1)) = q1029
                      refine j_if_eq h dX1_goOn_137 (tgt := 146) (by decide) (fun c1030 => ?_) (fun c1030 => ?_)
                      ·
                        refine j_iinc h 3 (v := (x2 + (-1))) (lv' := [(2, .int (x2 + (-1))), (4, .int q1021.1), (3, .int q1002), (1, .int x1), (0, .ref (a 8))]) dX1_goOn_146 rfl (rfl) (by decide) rfl ?_
                        refine j_goto h dX1_goOn_149 (tgt := 12) (by decide) ?_
                        have hi := j_dec c1001
                        have hl := j_toGe c1001
                        subst hq1002 hq1021 hq1024 hq1026 hq1029
                        have E : gfX1_goOn (n + 1) σ x1 x2 = gfX1_goOn n (sg (fX5_moveOnFrom (fX1_work σ (fX5_wordIn σ x2)).2 x2) 22 ((fX5_moveOnFrom (fX1_work σ (fX5_wordIn σ x2)).2 x2).1 22)) x1 (x2 + (-1)) := j_ig c1001 (j_ig c1003 (j_ip c1006 (j_ip c1022 (j_ip c1025 (j_ig c1027 (j_ip c1028 (j_ip c1030 rfl)))))))
                        rw [E]
                        refine j_lv [3, 0, 4] rfl ?_
                        exact ih (sg (fX5_moveOnFrom (fX1_work σ (fX5_wordIn σ x2)).2 x2) 22 ((fX5_moveOnFrom (fX1_work σ (fX5_wordIn σ x2)).2 x2).1 22)) x1 (x2 + (-1)) (shp.fr (shp.fr (shp.fr hs (fr_fX1_work _ _)) (fr_fX5_moveOnFrom _ _)) (Fr.sg (by decide))) (by omega) (by omega)
                      ·
                        refine j_aload_n h 4 dX1_goOn_140 rfl rfl ?_
                        refine j_iload_n h 3 dX1_goOn_141 rfl rfl ?_
                        refine j_iload_n h 1 dX1_goOn_142 rfl rfl ?_
                        refine j_callVv h (kX1_takeBranch l D a cI cZ (sg q1026 22 (q1026.1 22)) x2 q1002) tb3_60 tb3_62 tp_6 tb1_5 tb3_63 ⟨rfl, rfl⟩ (n := 2) (by decide +kernel) ⟨Nat.le_of_ble_eq_true rfl, Nat.le_of_ble_eq_true rfl⟩ (As := [.int x2, .int q1002]) rfl (ci := 1) (q0 := 8) rfl (fx_c8 _ _ _ (sg q1026 22 (q1026.1 22))) (st := []) rfl (Nat.le_of_ble_eq_true rfl) dX1_goOn_143 ⟨Nat.zero_le _, Nat.zero_le _⟩ ?_
                        generalize hq1031 : (fX1_takeBranch (sg q1026 22 (q1026.1 22)) x2 q1002) = q1031
                        refine j_iinc h 3 (v := (x2 + (-1))) (lv' := [(2, .int (x2 + (-1))), (4, .int q1021.1), (3, .int q1002), (1, .int x1), (0, .ref (a 8))]) dX1_goOn_146 rfl (rfl) (by decide) rfl ?_
                        refine j_goto h dX1_goOn_149 (tgt := 12) (by decide) ?_
                        have hi := j_dec c1001
                        have hl := j_toGe c1001
                        subst hq1002 hq1021 hq1024 hq1026 hq1029 hq1031
                        have E : gfX1_goOn (n + 1) σ x1 x2 = gfX1_goOn n (fX1_takeBranch (sg (fX5_moveOnFrom (fX1_work σ (fX5_wordIn σ x2)).2 x2) 22 ((fX5_moveOnFrom (fX1_work σ (fX5_wordIn σ x2)).2 x2).1 22)) x2 (fX5_wordIn σ x2)) x1 (x2 + (-1)) := j_ig c1001 (j_ig c1003 (j_ip c1006 (j_ip c1022 (j_ip c1025 (j_ig c1027 (j_ip c1028 (j_ig c1030 rfl)))))))
                        rw [E]
                        refine j_lv [3, 0, 4] rfl ?_
                        exact ih (fX1_takeBranch (sg (fX5_moveOnFrom (fX1_work σ (fX5_wordIn σ x2)).2 x2) 22 ((fX5_moveOnFrom (fX1_work σ (fX5_wordIn σ x2)).2 x2).1 22)) x2 (fX5_wordIn σ x2)) x1 (x2 + (-1)) (shp.fr (shp.fr (shp.fr (shp.fr hs (fr_fX1_work _ _)) (fr_fX5_moveOnFrom _ _)) (Fr.sg (by decide))) (fr_fX1_takeBranch _ _ _)) (by omega) (by omega)
                  ·
                    refine j_iconst h (v := 0) dX1_goOn_105 (by decide) ?_
                    refine j_goto h dX1_goOn_106 (tgt := 113) (by decide) ?_
                    refine j_put h iX1 tyX1 tyX1_ok nmX1 8 (fx_c8 _ _ _ q1026) rfl 13 (by decide) tb1_221 rfl rfl rfl rfl (Nat.le_of_ble_eq_true rfl) (w' := (fx a cI cZ (sg q1026 22 0))) (fx_p8_13 _ _ _ q1026 _) dX1_goOn_113 ?_
                    refine j_iload_n h 3 dX1_goOn_116 rfl rfl ?_
                    refine j_aload_n h 4 dX1_goOn_117 rfl rfl ?_
                    refine j_get h iX1 8 (fx_c8 _ _ _ (sg q1026 22 0)) rfl 0 (by decide) tb1_202 rfl (v := .ref (a 1)) rfl dX1_goOn_118 ?_
                    refine j_get h iX4 1 (fx_c1 _ _ _ (sg q1026 22 0)) rfl 4 (by decide) tb1_50 rfl (v := .int (q1026.1 4)) rfl dX1_goOn_121 ?_
                    refine j_icmp_ne h dX1_goOn_124 (tgt := 146) (by decide) (fun c1032 => ?_) (fun c1032 => ?_)
                    ·
                      refine j_iinc h 3 (v := (x2 + (-1))) (lv' := [(2, .int (x2 + (-1))), (4, .int q1021.1), (3, .int q1002), (1, .int x1), (0, .ref (a 8))]) dX1_goOn_146 rfl (rfl) (by decide) rfl ?_
                      refine j_goto h dX1_goOn_149 (tgt := 12) (by decide) ?_
                      have hi := j_dec c1001
                      have hl := j_toGe c1001
                      subst hq1002 hq1021 hq1024 hq1026
                      have E : gfX1_goOn (n + 1) σ x1 x2 = gfX1_goOn n (sg (fX5_moveOnFrom (fX1_work σ (fX5_wordIn σ x2)).2 x2) 22 0) x1 (x2 + (-1)) := j_ig c1001 (j_ig c1003 (j_ip c1006 (j_ip c1022 (j_ip c1025 (j_ip c1027 (j_ig c1032 rfl))))))
                      rw [E]
                      refine j_lv [3, 0, 4] rfl ?_
                      exact ih (sg (fX5_moveOnFrom (fX1_work σ (fX5_wordIn σ x2)).2 x2) 22 0) x1 (x2 + (-1)) (shp.fr (shp.fr (shp.fr hs (fr_fX1_work _ _)) (fr_fX5_moveOnFrom _ _)) (Fr.sg (by decide))) (by omega) (by omega)
                    ·
                      refine j_aload_n h 4 dX1_goOn_127 rfl rfl ?_
                      refine j_get h iX1 8 (fx_c8 _ _ _ (sg q1026 22 0)) rfl 2 (by decide) tb1_204 rfl (v := .ref (a 9)) rfl dX1_goOn_128 ?_
                      refine j_iload_n h 3 dX1_goOn_131 rfl rfl ?_
                      refine j_iconst h (v := 1) dX1_goOn_132 (by decide) ?_
                      refine j_iadd h dX1_goOn_133 ?_
                      refine j_callVi h (kX5_isGoing l D a cI cZ (sg q1026 22 0) (x2 + 1)) tb2_231 tb2_232 tb2_233 tb1_6 tb2_234 ⟨rfl, rfl⟩ (n := 1) (by decide +kernel) ⟨Nat.le_of_ble_eq_true rfl, Nat.le_of_ble_eq_true rfl⟩ (As := [.int (x2 + 1)]) rfl (ci := 5) (q0 := 9) rfl (fx_c9 _ _ _ (sg q1026 22 0)) (st := []) rfl (Nat.le_of_ble_eq_true rfl) dX1_goOn_134 ⟨Nat.zero_le _, Nat.zero_le _⟩ ?_
                      generalize hq1033 : (fX5_isGoing (sg q1026 22 0) (x2 + 1)) = q1033
                      refine j_if_eq h dX1_goOn_137 (tgt := 146) (by decide) (fun c1034 => ?_) (fun c1034 => ?_)
                      ·
                        refine j_iinc h 3 (v := (x2 + (-1))) (lv' := [(2, .int (x2 + (-1))), (4, .int q1021.1), (3, .int q1002), (1, .int x1), (0, .ref (a 8))]) dX1_goOn_146 rfl (rfl) (by decide) rfl ?_
                        refine j_goto h dX1_goOn_149 (tgt := 12) (by decide) ?_
                        have hi := j_dec c1001
                        have hl := j_toGe c1001
                        subst hq1002 hq1021 hq1024 hq1026 hq1033
                        have E : gfX1_goOn (n + 1) σ x1 x2 = gfX1_goOn n (sg (fX5_moveOnFrom (fX1_work σ (fX5_wordIn σ x2)).2 x2) 22 0) x1 (x2 + (-1)) := j_ig c1001 (j_ig c1003 (j_ip c1006 (j_ip c1022 (j_ip c1025 (j_ip c1027 (j_ip c1032 (j_ip c1034 rfl)))))))
                        rw [E]
                        refine j_lv [3, 0, 4] rfl ?_
                        exact ih (sg (fX5_moveOnFrom (fX1_work σ (fX5_wordIn σ x2)).2 x2) 22 0) x1 (x2 + (-1)) (shp.fr (shp.fr (shp.fr hs (fr_fX1_work _ _)) (fr_fX5_moveOnFrom _ _)) (Fr.sg (by decide))) (by omega) (by omega)
                      ·
                        refine j_aload_n h 4 dX1_goOn_140 rfl rfl ?_
                        refine j_iload_n h 3 dX1_goOn_141 rfl rfl ?_
                        refine j_iload_n h 1 dX1_goOn_142 rfl rfl ?_
                        refine j_callVv h (kX1_takeBranch l D a cI cZ (sg q1026 22 0) x2 q1002) tb3_60 tb3_62 tp_6 tb1_5 tb3_63 ⟨rfl, rfl⟩ (n := 2) (by decide +kernel) ⟨Nat.le_of_ble_eq_true rfl, Nat.le_of_ble_eq_true rfl⟩ (As := [.int x2, .int q1002]) rfl (ci := 1) (q0 := 8) rfl (fx_c8 _ _ _ (sg q1026 22 0)) (st := []) rfl (Nat.le_of_ble_eq_true rfl) dX1_goOn_143 ⟨Nat.zero_le _, Nat.zero_le _⟩ ?_
                        generalize hq1035 : (fX1_takeBranch (sg q1026 22 0) x2 q1002) = q1035
                        refine j_iinc h 3 (v := (x2 + (-1))) (lv' := [(2, .int (x2 + (-1))), (4, .int q1021.1), (3, .int q1002), (1, .int x1), (0, .ref (a 8))]) dX1_goOn_146 rfl (rfl) (by decide) rfl ?_
                        refine j_goto h dX1_goOn_149 (tgt := 12) (by decide) ?_
                        have hi := j_dec c1001
                        have hl := j_toGe c1001
                        subst hq1002 hq1021 hq1024 hq1026 hq1033 hq1035
                        have E : gfX1_goOn (n + 1) σ x1 x2 = gfX1_goOn n (fX1_takeBranch (sg (fX5_moveOnFrom (fX1_work σ (fX5_wordIn σ x2)).2 x2) 22 0) x2 (fX5_wordIn σ x2)) x1 (x2 + (-1)) := j_ig c1001 (j_ig c1003 (j_ip c1006 (j_ip c1022 (j_ip c1025 (j_ip c1027 (j_ip c1032 (j_ig c1034 rfl)))))))
                        rw [E]
                        refine j_lv [3, 0, 4] rfl ?_
                        exact ih (fX1_takeBranch (sg (fX5_moveOnFrom (fX1_work σ (fX5_wordIn σ x2)).2 x2) 22 0) x2 (fX5_wordIn σ x2)) x1 (x2 + (-1)) (shp.fr (shp.fr (shp.fr (shp.fr hs (fr_fX1_work _ _)) (fr_fX5_moveOnFrom _ _)) (Fr.sg (by decide))) (fr_fX1_takeBranch _ _ _)) (by omega) (by omega)
            ·
              refine j_iload h 0 dX1_goOn_58 rfl ?_
              refine j_istore_n h (lv' := [(1, .int q1021.1), (4, .int q1021.1), (3, .int q1002), (2, .int x2), (0, .ref (a 8))]) dX1_goOn_60 rfl (by decide) rfl ?_
              refine j_goto h dX1_goOn_61 (tgt := 146) (by decide) ?_
              refine j_iinc h 3 (v := (x2 + (-1))) (lv' := [(2, .int (x2 + (-1))), (1, .int q1021.1), (4, .int q1021.1), (3, .int q1002), (0, .ref (a 8))]) dX1_goOn_146 rfl (rfl) (by decide) rfl ?_
              refine j_goto h dX1_goOn_149 (tgt := 12) (by decide) ?_
              have hi := j_dec c1001
              have hl := j_toGe c1001
              subst hq1002 hq1021
              have E : gfX1_goOn (n + 1) σ x1 x2 = gfX1_goOn n (fX1_work σ (fX5_wordIn σ x2)).2 (fX1_work σ (fX5_wordIn σ x2)).1 (x2 + (-1)) := j_ig c1001 (j_ig c1003 (j_ip c1006 (j_ig c1022 rfl)))
              rw [E]
              refine j_lv [1, 0, 4] rfl ?_
              exact ih ((fX1_work σ (fX5_wordIn σ x2)).2) ((fX1_work σ (fX5_wordIn σ x2)).1) (x2 + (-1)) (shp.fr hs (fr_fX1_work _ _)) (by omega) (by omega)
  refine j_iconst h (v := 4) dX1_goOn_0 (by decide) ?_
  refine j_istore_n h (lv' := [(1, .int 4), (0, .ref (a 8))]) dX1_goOn_1 rfl (by decide) rfl ?_
  refine j_aload_n h 1 dX1_goOn_2 rfl rfl ?_
  refine j_get h iX1 8 (fx_c8 _ _ _ σ) rfl 0 (by decide) tb1_202 rfl (v := .ref (a 1)) rfl dX1_goOn_3 ?_
  refine j_callVi h (kX4_last l D a cI cZ σ) tb2_223 tb2_224 tb2_225 tb1_2 tb2_226 ⟨rfl, rfl⟩ (n := 0) (by decide +kernel) ⟨Nat.le_of_ble_eq_true rfl, Nat.le_of_ble_eq_true rfl⟩ (As := []) rfl (ci := 4) (q0 := 1) rfl (fx_c1 _ _ _ σ) (st := []) rfl (Nat.le_of_ble_eq_true rfl) dX1_goOn_6 ⟨Nat.zero_le _, Nat.zero_le _⟩ ?_
  generalize hq1 : (fX4_last σ) = q1
  refine j_iconst h (v := 1) dX1_goOn_9 (by decide) ?_
  refine j_isub h dX1_goOn_10 ?_
  refine j_istore_n h (lv' := [(2, .int (q1 - 1)), (1, .int 4), (0, .ref (a 8))]) dX1_goOn_11 rfl (by decide) rfl ?_
  subst hq1
  have E : fX1_goOn σ = gfX1_goOn 9 σ 4 ((fX4_last σ) - 1) := rfl
  rw [E]
  refine j_lv [1, 0, 2] rfl ?_
  exact loop 9 σ 4 ((fX4_last σ) - 1) hs hs.last.1 hs.last.2
theorem fr_gfX1_goOn : ∀ (n : Nat) (σ : St) (x1 x2 : Int32), Fr (gfX1_goOn n σ x1 x2).2 σ := by
  intro n
  induction n with
  | zero => intro σ x1 x2; exact Fr.rf _
  | succ n ih =>
    intro σ x1 x2
    by_cases c0 : x2 < 0
    ·
      have E : gfX1_goOn (n + 1) σ x1 x2 = (x1, σ) := j_ip c0 rfl
      rw [E]
      exact (Fr.rf _)
    ·
      by_cases c1 : (fX5_wordIn σ x2) = (-1)
      ·
        have E : gfX1_goOn (n + 1) σ x1 x2 = gfX1_goOn n σ x1 (x2 + (-1)) := j_ig c0 (j_ip c1 rfl)
        rw [E]
        exact (Fr.tr (ih _ _ _) (Fr.rf _))
      ·
        by_cases c2 : x2 = (σ.1 1)
        ·
          by_cases c3 : (fX1_work σ (fX5_wordIn σ x2)).1 = 4
          ·
            by_cases c4 : (fX5_wordIn (fX1_work σ (fX5_wordIn σ x2)).2 (x2 + 1)) = (-1)
            ·
              by_cases c5 : (x2 + 1) = ((fX5_moveOnFrom (fX1_work σ (fX5_wordIn σ x2)).2 x2).1 1)
              ·
                by_cases c6 : x2 = ((fX5_moveOnFrom (fX1_work σ (fX5_wordIn σ x2)).2 x2).1 4)
                ·
                  by_cases c7 : (fX5_isGoing (sg (fX5_moveOnFrom (fX1_work σ (fX5_wordIn σ x2)).2 x2) 22 0) (x2 + 1)) = 0
                  ·
                    have E : gfX1_goOn (n + 1) σ x1 x2 = gfX1_goOn n (sg (fX5_moveOnFrom (fX1_work σ (fX5_wordIn σ x2)).2 x2) 22 0) x1 (x2 + (-1)) := j_ig c0 (j_ig c1 (j_ip c2 (j_ip c3 (j_ip c4 (j_ip c5 (j_ip c6 (j_ip c7 rfl)))))))
                    rw [E]
                    exact (Fr.tr (ih _ _ _) (Fr.tr (Fr.sg (by decide)) (Fr.tr (fr_fX5_moveOnFrom _ _) (Fr.tr (fr_fX1_work _ _) (Fr.rf _)))))
                  ·
                    have E : gfX1_goOn (n + 1) σ x1 x2 = gfX1_goOn n (fX1_takeBranch (sg (fX5_moveOnFrom (fX1_work σ (fX5_wordIn σ x2)).2 x2) 22 0) x2 (fX5_wordIn σ x2)) x1 (x2 + (-1)) := j_ig c0 (j_ig c1 (j_ip c2 (j_ip c3 (j_ip c4 (j_ip c5 (j_ip c6 (j_ig c7 rfl)))))))
                    rw [E]
                    exact (Fr.tr (ih _ _ _) (Fr.tr (fr_fX1_takeBranch _ _ _) (Fr.tr (Fr.sg (by decide)) (Fr.tr (fr_fX5_moveOnFrom _ _) (Fr.tr (fr_fX1_work _ _) (Fr.rf _))))))
                ·
                  have E : gfX1_goOn (n + 1) σ x1 x2 = gfX1_goOn n (sg (fX5_moveOnFrom (fX1_work σ (fX5_wordIn σ x2)).2 x2) 22 0) x1 (x2 + (-1)) := j_ig c0 (j_ig c1 (j_ip c2 (j_ip c3 (j_ip c4 (j_ip c5 (j_ig c6 rfl))))))
                  rw [E]
                  exact (Fr.tr (ih _ _ _) (Fr.tr (Fr.sg (by decide)) (Fr.tr (fr_fX5_moveOnFrom _ _) (Fr.tr (fr_fX1_work _ _) (Fr.rf _)))))
              ·
                by_cases c6 : x2 = ((fX5_moveOnFrom (fX1_work σ (fX5_wordIn σ x2)).2 x2).1 4)
                ·
                  by_cases c7 : (fX5_isGoing (sg (fX5_moveOnFrom (fX1_work σ (fX5_wordIn σ x2)).2 x2) 22 ((fX5_moveOnFrom (fX1_work σ (fX5_wordIn σ x2)).2 x2).1 22)) (x2 + 1)) = 0
                  ·
                    have E : gfX1_goOn (n + 1) σ x1 x2 = gfX1_goOn n (sg (fX5_moveOnFrom (fX1_work σ (fX5_wordIn σ x2)).2 x2) 22 ((fX5_moveOnFrom (fX1_work σ (fX5_wordIn σ x2)).2 x2).1 22)) x1 (x2 + (-1)) := j_ig c0 (j_ig c1 (j_ip c2 (j_ip c3 (j_ip c4 (j_ig c5 (j_ip c6 (j_ip c7 rfl)))))))
                    rw [E]
                    exact (Fr.tr (ih _ _ _) (Fr.tr (Fr.sg (by decide)) (Fr.tr (fr_fX5_moveOnFrom _ _) (Fr.tr (fr_fX1_work _ _) (Fr.rf _)))))
                  ·
                    have E : gfX1_goOn (n + 1) σ x1 x2 = gfX1_goOn n (fX1_takeBranch (sg (fX5_moveOnFrom (fX1_work σ (fX5_wordIn σ x2)).2 x2) 22 ((fX5_moveOnFrom (fX1_work σ (fX5_wordIn σ x2)).2 x2).1 22)) x2 (fX5_wordIn σ x2)) x1 (x2 + (-1)) := j_ig c0 (j_ig c1 (j_ip c2 (j_ip c3 (j_ip c4 (j_ig c5 (j_ip c6 (j_ig c7 rfl)))))))
                    rw [E]
                    exact (Fr.tr (ih _ _ _) (Fr.tr (fr_fX1_takeBranch _ _ _) (Fr.tr (Fr.sg (by decide)) (Fr.tr (fr_fX5_moveOnFrom _ _) (Fr.tr (fr_fX1_work _ _) (Fr.rf _))))))
                ·
                  have E : gfX1_goOn (n + 1) σ x1 x2 = gfX1_goOn n (sg (fX5_moveOnFrom (fX1_work σ (fX5_wordIn σ x2)).2 x2) 22 ((fX5_moveOnFrom (fX1_work σ (fX5_wordIn σ x2)).2 x2).1 22)) x1 (x2 + (-1)) := j_ig c0 (j_ig c1 (j_ip c2 (j_ip c3 (j_ip c4 (j_ig c5 (j_ig c6 rfl))))))
                  rw [E]
                  exact (Fr.tr (ih _ _ _) (Fr.tr (Fr.sg (by decide)) (Fr.tr (fr_fX5_moveOnFrom _ _) (Fr.tr (fr_fX1_work _ _) (Fr.rf _)))))
            ·
              have E : gfX1_goOn (n + 1) σ x1 x2 = gfX1_goOn n (fX1_work σ (fX5_wordIn σ x2)).2 x1 (x2 + (-1)) := j_ig c0 (j_ig c1 (j_ip c2 (j_ip c3 (j_ig c4 rfl))))
              rw [E]
              exact (Fr.tr (ih _ _ _) (Fr.tr (fr_fX1_work _ _) (Fr.rf _)))
          ·
            have E : gfX1_goOn (n + 1) σ x1 x2 = gfX1_goOn n (fX1_work σ (fX5_wordIn σ x2)).2 (fX1_work σ (fX5_wordIn σ x2)).1 (x2 + (-1)) := j_ig c0 (j_ig c1 (j_ip c2 (j_ig c3 rfl)))
            rw [E]
            exact (Fr.tr (ih _ _ _) (Fr.tr (fr_fX1_work _ _) (Fr.rf _)))
        ·
          by_cases c3 : (fX5_wordIn σ (x2 + 1)) = (-1)
          ·
            by_cases c4 : (x2 + 1) = ((fX5_moveOnFrom σ x2).1 1)
            ·
              by_cases c5 : x2 = ((fX5_moveOnFrom σ x2).1 4)
              ·
                by_cases c6 : (fX5_isGoing (sg (fX5_moveOnFrom σ x2) 22 0) (x2 + 1)) = 0
                ·
                  have E : gfX1_goOn (n + 1) σ x1 x2 = gfX1_goOn n (sg (fX5_moveOnFrom σ x2) 22 0) x1 (x2 + (-1)) := j_ig c0 (j_ig c1 (j_ig c2 (j_ip c3 (j_ip c4 (j_ip c5 (j_ip c6 rfl))))))
                  rw [E]
                  exact (Fr.tr (ih _ _ _) (Fr.tr (Fr.sg (by decide)) (Fr.tr (fr_fX5_moveOnFrom _ _) (Fr.rf _))))
                ·
                  have E : gfX1_goOn (n + 1) σ x1 x2 = gfX1_goOn n (fX1_takeBranch (sg (fX5_moveOnFrom σ x2) 22 0) x2 (fX5_wordIn σ x2)) x1 (x2 + (-1)) := j_ig c0 (j_ig c1 (j_ig c2 (j_ip c3 (j_ip c4 (j_ip c5 (j_ig c6 rfl))))))
                  rw [E]
                  exact (Fr.tr (ih _ _ _) (Fr.tr (fr_fX1_takeBranch _ _ _) (Fr.tr (Fr.sg (by decide)) (Fr.tr (fr_fX5_moveOnFrom _ _) (Fr.rf _)))))
              ·
                have E : gfX1_goOn (n + 1) σ x1 x2 = gfX1_goOn n (sg (fX5_moveOnFrom σ x2) 22 0) x1 (x2 + (-1)) := j_ig c0 (j_ig c1 (j_ig c2 (j_ip c3 (j_ip c4 (j_ig c5 rfl)))))
                rw [E]
                exact (Fr.tr (ih _ _ _) (Fr.tr (Fr.sg (by decide)) (Fr.tr (fr_fX5_moveOnFrom _ _) (Fr.rf _))))
            ·
              by_cases c5 : x2 = ((fX5_moveOnFrom σ x2).1 4)
              ·
                by_cases c6 : (fX5_isGoing (sg (fX5_moveOnFrom σ x2) 22 ((fX5_moveOnFrom σ x2).1 22)) (x2 + 1)) = 0
                ·
                  have E : gfX1_goOn (n + 1) σ x1 x2 = gfX1_goOn n (sg (fX5_moveOnFrom σ x2) 22 ((fX5_moveOnFrom σ x2).1 22)) x1 (x2 + (-1)) := j_ig c0 (j_ig c1 (j_ig c2 (j_ip c3 (j_ig c4 (j_ip c5 (j_ip c6 rfl))))))
                  rw [E]
                  exact (Fr.tr (ih _ _ _) (Fr.tr (Fr.sg (by decide)) (Fr.tr (fr_fX5_moveOnFrom _ _) (Fr.rf _))))
                ·
                  have E : gfX1_goOn (n + 1) σ x1 x2 = gfX1_goOn n (fX1_takeBranch (sg (fX5_moveOnFrom σ x2) 22 ((fX5_moveOnFrom σ x2).1 22)) x2 (fX5_wordIn σ x2)) x1 (x2 + (-1)) := j_ig c0 (j_ig c1 (j_ig c2 (j_ip c3 (j_ig c4 (j_ip c5 (j_ig c6 rfl))))))
                  rw [E]
                  exact (Fr.tr (ih _ _ _) (Fr.tr (fr_fX1_takeBranch _ _ _) (Fr.tr (Fr.sg (by decide)) (Fr.tr (fr_fX5_moveOnFrom _ _) (Fr.rf _)))))
              ·
                have E : gfX1_goOn (n + 1) σ x1 x2 = gfX1_goOn n (sg (fX5_moveOnFrom σ x2) 22 ((fX5_moveOnFrom σ x2).1 22)) x1 (x2 + (-1)) := j_ig c0 (j_ig c1 (j_ig c2 (j_ip c3 (j_ig c4 (j_ig c5 rfl)))))
                rw [E]
                exact (Fr.tr (ih _ _ _) (Fr.tr (Fr.sg (by decide)) (Fr.tr (fr_fX5_moveOnFrom _ _) (Fr.rf _))))
          ·
            have E : gfX1_goOn (n + 1) σ x1 x2 = gfX1_goOn n σ x1 (x2 + (-1)) := j_ig c0 (j_ig c1 (j_ig c2 (j_ig c3 rfl)))
            rw [E]
            exact (Fr.tr (ih _ _ _) (Fr.rf _))
theorem fr_fX1_goOn (σ : St) : Fr (fX1_goOn σ).2 σ := by
  have E : fX1_goOn σ = gfX1_goOn 9 σ 4 ((fX4_last σ) - 1) := rfl
  rw [E]
  exact (Fr.tr (fr_gfX1_goOn _ _ _ _) (Fr.rf _))
def fX1_fetch (σ : St) : St := (if (σ.1 21) = 0 then (if (σ.1 20) = 0 then (let q3 := (fX5_wordIn σ 0); (if q3 = (-1) then (if (σ.1 19) = 0 then (let q11 := (fX2_goesA σ (σ.1 18)); (if q11 = 0 then (let q13 := (fX5_put σ 0 (σ.1 18) 1 0); (let q14 := (fX3_behind (sg q13 11 ((q13.1 11) + 1)) (σ.1 18)); (let q16 := (fX2_performA (sg (sg q13 11 ((q13.1 11) + 1)) 18 q14) (σ.1 18)); (let q17 := (fX3_kindOf q16.2 (σ.1 18)); (if q17 = 5 then (sg (sg q16.2 19 1) 20 0) else (if q17 = 6 then (sg (sg q16.2 19 0) 20 1) else (sg (sg q16.2 19 0) 20 0))))))) else (let q22 := (fX5_put σ 0 (σ.1 18) 1 1); (let q23 := (fX3_behind (sg q22 11 ((q22.1 11) + 1)) (σ.1 18)); (let q25 := (fX2_performA (sg (sg q22 11 ((q22.1 11) + 1)) 18 q23) (σ.1 18)); (let q26 := (fX3_kindOf q25.2 (σ.1 18)); (if q26 = 6 then (sg (sg q25.2 19 1) 20 1) else (sg (sg q25.2 19 1) 20 0)))))))) else (let q7 := (fX5_put σ 0 (σ.1 18) 0 0); (let q8 := (fX3_behind (sg q7 11 ((q7.1 11) + 1)) (σ.1 18)); (sg (sg q7 11 ((q7.1 11) + 1)) 18 q8)))) else σ)) else σ) else σ)
def rmX1_fetch : Room := { frames := 3, cells := 0, slots := 0, locals := 69 }
set_option maxRecDepth 100000 in
set_option maxHeartbeats 4000000 in
theorem kX1_fetch (l : Launch) (D : va_G) (a : Nat → Nat) (cI cZ : ClassId) (σ : St) : Cv l yX1_fetch cX1_fetch 5 none TB rmX1_fetch D vwCl [(cI, .int), (cZ, .boolean)] [.ref (a 8)] (fx a cI cZ σ) (fun _ => (fx a cI cZ (fX1_fetch σ))) 0 0 := by
  refine Cv_of (cc := cX1_fetch) (maxL := 5) (ret := none) (by decide +kernel) TBg (Nat.le_of_ble_eq_true rfl) ?_
  intro p e s m args below meth c A h hr hname
  refine j_aload_n h 0 dX1_fetch_0 rfl rfl ?_
  refine j_get h iX1 8 (fx_c8 _ _ _ σ) rfl 12 (by decide) tb1_220 rfl (v := .int (σ.1 21)) rfl dX1_fetch_1 ?_
  refine j_if_ne h dX1_fetch_4 (tgt := 26) (by decide) (fun c1 => ?_) (fun c1 => ?_)
  ·
    have E : fX1_fetch σ = σ := j_ig c1 rfl
    exact j_vreturn h hr (fun _ => 0) (congrArg (fx a cI cZ) E).symm dX1_fetch_26
  ·
    refine j_aload_n h 0 dX1_fetch_7 rfl rfl ?_
    refine j_get h iX1 8 (fx_c8 _ _ _ σ) rfl 11 (by decide) tb1_219 rfl (v := .int (σ.1 20)) rfl dX1_fetch_8 ?_
    refine j_if_ne h dX1_fetch_11 (tgt := 26) (by decide) (fun c2 => ?_) (fun c2 => ?_)
    ·
      have E : fX1_fetch σ = σ := j_ip c1 (j_ig c2 rfl)
      exact j_vreturn h hr (fun _ => 0) (congrArg (fx a cI cZ) E).symm dX1_fetch_26
    ·
      refine j_aload_n h 0 dX1_fetch_14 rfl rfl ?_
      refine j_get h iX1 8 (fx_c8 _ _ _ σ) rfl 2 (by decide) tb1_204 rfl (v := .ref (a 9)) rfl dX1_fetch_15 ?_
      refine j_iconst h (v := 0) dX1_fetch_18 (by decide) ?_
      refine j_callVi h (kX5_wordIn l D a cI cZ σ 0) tb2_227 tb2_228 tb2_229 tb1_6 tb2_230 ⟨rfl, rfl⟩ (n := 1) (by decide +kernel) ⟨Nat.le_of_ble_eq_true rfl, Nat.le_of_ble_eq_true rfl⟩ (As := [.int 0]) rfl (ci := 5) (q0 := 9) rfl (fx_c9 _ _ _ σ) (st := []) rfl (Nat.le_of_ble_eq_true rfl) dX1_fetch_19 ⟨Nat.zero_le _, Nat.zero_le _⟩ ?_
      generalize hq3 : (fX5_wordIn σ 0) = q3
      refine j_iconst h (v := (-1)) dX1_fetch_22 (by decide) ?_
      refine j_icmp_eq h dX1_fetch_23 (tgt := 27) (by decide) (fun c4 => ?_) (fun c4 => ?_)
      ·
        refine j_aload_n h 0 dX1_fetch_27 rfl rfl ?_
        refine j_get h iX1 8 (fx_c8 _ _ _ σ) rfl 9 (by decide) tb1_217 rfl (v := .int (σ.1 18)) rfl dX1_fetch_28 ?_
        refine j_istore_n h (lv' := [(1, .int (σ.1 18)), (0, .ref (a 8))]) dX1_fetch_31 rfl (by decide) rfl ?_
        refine j_aload_n h 1 dX1_fetch_32 rfl rfl ?_
        refine j_get h iX1 8 (fx_c8 _ _ _ σ) rfl 10 (by decide) tb1_218 rfl (v := .int (σ.1 19)) rfl dX1_fetch_33 ?_
        refine j_if_ne h dX1_fetch_36 (tgt := 43) (by decide) (fun c5 => ?_) (fun c5 => ?_)
        ·
          refine j_iconst h (v := 0) dX1_fetch_43 (by decide) ?_
          refine j_istore_n h (lv' := [(2, .int 0), (1, .int (σ.1 18)), (0, .ref (a 8))]) dX1_fetch_44 rfl (by decide) rfl ?_
          refine j_iload_n h 0 dX1_fetch_45 rfl rfl ?_
          refine j_if_eq h dX1_fetch_46 (tgt := 64) (by decide) (fun c6 => ?_) (fun c6 => ?_)
          ·
            refine j_iconst h (v := 0) dX1_fetch_64 (by decide) ?_
            refine j_istore_n h (lv' := [(3, .int 0), (2, .int 0), (1, .int (σ.1 18)), (0, .ref (a 8))]) dX1_fetch_65 rfl (by decide) rfl ?_
            refine j_aload_n h 3 dX1_fetch_66 rfl rfl ?_
            refine j_get h iX1 8 (fx_c8 _ _ _ σ) rfl 2 (by decide) tb1_204 rfl (v := .ref (a 9)) rfl dX1_fetch_67 ?_
            refine j_iconst h (v := 0) dX1_fetch_70 (by decide) ?_
            refine j_iload_n h 2 dX1_fetch_71 rfl rfl ?_
            refine j_iload_n h 1 dX1_fetch_72 rfl rfl ?_
            refine j_iload_n h 0 dX1_fetch_73 rfl rfl ?_
            refine j_callVv h (kX5_put l D a cI cZ σ 0 (σ.1 18) 0 0) tb3_111 tb2_42 tb2_43 tb1_6 tb2_44 ⟨rfl, rfl⟩ (n := 4) (by decide +kernel) ⟨Nat.le_of_ble_eq_true rfl, Nat.le_of_ble_eq_true rfl⟩ (As := [.int 0, .int (σ.1 18), .int 0, .int 0]) rfl (ci := 5) (q0 := 9) rfl (fx_c9 _ _ _ σ) (st := []) rfl (Nat.le_of_ble_eq_true rfl) dX1_fetch_74 ⟨Nat.zero_le _, Nat.zero_le _⟩ ?_
            generalize hq7 : (fX5_put σ 0 (σ.1 18) 0 0) = q7
            refine j_aload_n h 3 dX1_fetch_77 rfl rfl ?_
            refine j_get h iX1 8 (fx_c8 _ _ _ q7) rfl 4 (by decide) tb1_208 rfl (v := .ref (a 17)) rfl dX1_fetch_78 ?_
            refine j_dup h dX1_fetch_81 rfl ?_
            refine j_get h iX6 17 (fx_c17 _ _ _ q7) rfl 3 (by decide) tb1_156 rfl (v := .int (q7.1 11)) rfl dX1_fetch_82 ?_
            refine j_iconst h (v := 1) dX1_fetch_85 (by decide) ?_
            refine j_iadd h dX1_fetch_86 ?_
            refine j_put h iX6 tyX6 tyX6_ok nmX6 17 (fx_c17 _ _ _ q7) rfl 3 (by decide) tb1_156 rfl rfl rfl rfl (Nat.le_of_ble_eq_true rfl) (w' := (fx a cI cZ (sg q7 11 ((q7.1 11) + 1)))) (fx_p17_3 _ _ _ q7 _) dX1_fetch_87 ?_
            refine j_aload_n h 3 dX1_fetch_90 rfl rfl ?_
            refine j_aload_n h 3 dX1_fetch_91 rfl rfl ?_
            refine j_get h iX1 8 (fx_c8 _ _ _ (sg q7 11 ((q7.1 11) + 1))) rfl 1 (by decide) tb1_203 rfl (v := .ref (a 2)) rfl dX1_fetch_92 ?_
            refine j_iload_n h 2 dX1_fetch_95 rfl rfl ?_
            refine j_callVi h (kX3_behind l D a cI cZ (sg q7 11 ((q7.1 11) + 1)) (σ.1 18)) tb3_112 tb3_113 tb3_114 tb1_4 tb3_115 ⟨rfl, rfl⟩ (n := 1) (by decide +kernel) ⟨Nat.le_of_ble_eq_true rfl, Nat.le_of_ble_eq_true rfl⟩ (As := [.int (σ.1 18)]) rfl (ci := 3) (q0 := 2) rfl (fx_c2 _ _ _ (sg q7 11 ((q7.1 11) + 1))) (st := [.ref (a 8)]) rfl (Nat.le_of_ble_eq_true rfl) dX1_fetch_96 ⟨Nat.zero_le _, Nat.zero_le _⟩ ?_
            generalize hq8 : (fX3_behind (sg q7 11 ((q7.1 11) + 1)) (σ.1 18)) = q8
            refine j_put h iX1 tyX1 tyX1_ok nmX1 8 (fx_c8 _ _ _ (sg q7 11 ((q7.1 11) + 1))) rfl 9 (by decide) tb1_217 rfl rfl rfl rfl (Nat.le_of_ble_eq_true rfl) (w' := (fx a cI cZ (sg (sg q7 11 ((q7.1 11) + 1)) 18 q8))) (fx_p8_9 _ _ _ (sg q7 11 ((q7.1 11) + 1)) _) dX1_fetch_99 ?_
            refine j_iload_n h 1 dX1_fetch_102 rfl rfl ?_
            refine j_if_eq h dX1_fetch_103 (tgt := 160) (by decide) (fun c9 => ?_) (fun c9 => ?_)
            ·
              subst hq3 hq7 hq8
              have E : fX1_fetch σ = (sg (sg (fX5_put σ 0 (σ.1 18) 0 0) 11 (((fX5_put σ 0 (σ.1 18) 0 0).1 11) + 1)) 18 (fX3_behind (sg (fX5_put σ 0 (σ.1 18) 0 0) 11 (((fX5_put σ 0 (σ.1 18) 0 0).1 11) + 1)) (σ.1 18))) := j_ip c1 (j_ip c2 (j_ip c4 (j_ig c5 rfl)))
              exact j_vreturn h hr (fun _ => 0) (congrArg (fx a cI cZ) E).symm dX1_fetch_160
            ·
              exact absurd c9 (by decide)
          ·
            exact absurd c6 (by decide)
        ·
          refine j_iconst h (v := 1) dX1_fetch_39 (by decide) ?_
          refine j_goto h dX1_fetch_40 (tgt := 44) (by decide) ?_
          refine j_istore_n h (lv' := [(2, .int 1), (1, .int (σ.1 18)), (0, .ref (a 8))]) dX1_fetch_44 rfl (by decide) rfl ?_
          refine j_iload_n h 0 dX1_fetch_45 rfl rfl ?_
          refine j_if_eq h dX1_fetch_46 (tgt := 64) (by decide) (fun c10 => ?_) (fun c10 => ?_)
          ·
            exact absurd c10 (by decide)
          ·
            refine j_aload_n h 2 dX1_fetch_49 rfl rfl ?_
            refine j_get h iX1 8 (fx_c8 _ _ _ σ) rfl 5 (by decide) tb1_210 rfl (v := .ref (a 19)) rfl dX1_fetch_50 ?_
            refine j_iload_n h 1 dX1_fetch_53 rfl rfl ?_
            refine j_callVi h (kX2_goesA l D a cI cZ σ (σ.1 18)) tb3_107 tb3_108 tb3_109 tb1_10 tb3_110 ⟨rfl, rfl⟩ (n := 1) (by decide +kernel) ⟨Nat.le_of_ble_eq_true rfl, Nat.le_of_ble_eq_true rfl⟩ (As := [.int (σ.1 18)]) rfl (ci := 2) (q0 := 19) rfl (fx_c19 _ _ _ σ) (st := []) rfl (Nat.le_of_ble_eq_true rfl) dX1_fetch_54 ⟨Nat.zero_le _, Nat.zero_le _⟩ ?_
            generalize hq11 : (fX2_goesA σ (σ.1 18)) = q11
            refine j_if_eq h dX1_fetch_57 (tgt := 64) (by decide) (fun c12 => ?_) (fun c12 => ?_)
            ·
              refine j_iconst h (v := 0) dX1_fetch_64 (by decide) ?_
              refine j_istore_n h (lv' := [(3, .int 0), (2, .int 1), (1, .int (σ.1 18)), (0, .ref (a 8))]) dX1_fetch_65 rfl (by decide) rfl ?_
              refine j_aload_n h 3 dX1_fetch_66 rfl rfl ?_
              refine j_get h iX1 8 (fx_c8 _ _ _ σ) rfl 2 (by decide) tb1_204 rfl (v := .ref (a 9)) rfl dX1_fetch_67 ?_
              refine j_iconst h (v := 0) dX1_fetch_70 (by decide) ?_
              refine j_iload_n h 2 dX1_fetch_71 rfl rfl ?_
              refine j_iload_n h 1 dX1_fetch_72 rfl rfl ?_
              refine j_iload_n h 0 dX1_fetch_73 rfl rfl ?_
              refine j_callVv h (kX5_put l D a cI cZ σ 0 (σ.1 18) 1 0) tb3_111 tb2_42 tb2_43 tb1_6 tb2_44 ⟨rfl, rfl⟩ (n := 4) (by decide +kernel) ⟨Nat.le_of_ble_eq_true rfl, Nat.le_of_ble_eq_true rfl⟩ (As := [.int 0, .int (σ.1 18), .int 1, .int 0]) rfl (ci := 5) (q0 := 9) rfl (fx_c9 _ _ _ σ) (st := []) rfl (Nat.le_of_ble_eq_true rfl) dX1_fetch_74 ⟨Nat.zero_le _, Nat.zero_le _⟩ ?_
              generalize hq13 : (fX5_put σ 0 (σ.1 18) 1 0) = q13
              refine j_aload_n h 3 dX1_fetch_77 rfl rfl ?_
              refine j_get h iX1 8 (fx_c8 _ _ _ q13) rfl 4 (by decide) tb1_208 rfl (v := .ref (a 17)) rfl dX1_fetch_78 ?_
              refine j_dup h dX1_fetch_81 rfl ?_
              refine j_get h iX6 17 (fx_c17 _ _ _ q13) rfl 3 (by decide) tb1_156 rfl (v := .int (q13.1 11)) rfl dX1_fetch_82 ?_
              refine j_iconst h (v := 1) dX1_fetch_85 (by decide) ?_
              refine j_iadd h dX1_fetch_86 ?_
              refine j_put h iX6 tyX6 tyX6_ok nmX6 17 (fx_c17 _ _ _ q13) rfl 3 (by decide) tb1_156 rfl rfl rfl rfl (Nat.le_of_ble_eq_true rfl) (w' := (fx a cI cZ (sg q13 11 ((q13.1 11) + 1)))) (fx_p17_3 _ _ _ q13 _) dX1_fetch_87 ?_
              refine j_aload_n h 3 dX1_fetch_90 rfl rfl ?_
              refine j_aload_n h 3 dX1_fetch_91 rfl rfl ?_
              refine j_get h iX1 8 (fx_c8 _ _ _ (sg q13 11 ((q13.1 11) + 1))) rfl 1 (by decide) tb1_203 rfl (v := .ref (a 2)) rfl dX1_fetch_92 ?_
              refine j_iload_n h 2 dX1_fetch_95 rfl rfl ?_
              refine j_callVi h (kX3_behind l D a cI cZ (sg q13 11 ((q13.1 11) + 1)) (σ.1 18)) tb3_112 tb3_113 tb3_114 tb1_4 tb3_115 ⟨rfl, rfl⟩ (n := 1) (by decide +kernel) ⟨Nat.le_of_ble_eq_true rfl, Nat.le_of_ble_eq_true rfl⟩ (As := [.int (σ.1 18)]) rfl (ci := 3) (q0 := 2) rfl (fx_c2 _ _ _ (sg q13 11 ((q13.1 11) + 1))) (st := [.ref (a 8)]) rfl (Nat.le_of_ble_eq_true rfl) dX1_fetch_96 ⟨Nat.zero_le _, Nat.zero_le _⟩ ?_
              generalize hq14 : (fX3_behind (sg q13 11 ((q13.1 11) + 1)) (σ.1 18)) = q14
              refine j_put h iX1 tyX1 tyX1_ok nmX1 8 (fx_c8 _ _ _ (sg q13 11 ((q13.1 11) + 1))) rfl 9 (by decide) tb1_217 rfl rfl rfl rfl (Nat.le_of_ble_eq_true rfl) (w' := (fx a cI cZ (sg (sg q13 11 ((q13.1 11) + 1)) 18 q14))) (fx_p8_9 _ _ _ (sg q13 11 ((q13.1 11) + 1)) _) dX1_fetch_99 ?_
              refine j_iload_n h 1 dX1_fetch_102 rfl rfl ?_
              refine j_if_eq h dX1_fetch_103 (tgt := 160) (by decide) (fun c15 => ?_) (fun c15 => ?_)
              ·
                exact absurd c15 (by decide)
              ·
                refine j_aload_n h 3 dX1_fetch_106 rfl rfl ?_
                refine j_get h iX1 8 (fx_c8 _ _ _ (sg (sg q13 11 ((q13.1 11) + 1)) 18 q14)) rfl 5 (by decide) tb1_210 rfl (v := .ref (a 19)) rfl dX1_fetch_107 ?_
                refine j_iload_n h 2 dX1_fetch_110 rfl rfl ?_
                refine j_callVi h (kX2_performA l D a cI cZ (sg (sg q13 11 ((q13.1 11) + 1)) 18 q14) (σ.1 18)) tb3_17 tb3_18 tb3_19 tb1_10 tb3_20 ⟨rfl, rfl⟩ (n := 1) (by decide +kernel) ⟨Nat.le_of_ble_eq_true rfl, Nat.le_of_ble_eq_true rfl⟩ (As := [.int (σ.1 18)]) rfl (ci := 2) (q0 := 19) rfl (fx_c19 _ _ _ (sg (sg q13 11 ((q13.1 11) + 1)) 18 q14)) (st := []) rfl (Nat.le_of_ble_eq_true rfl) dX1_fetch_111 ⟨Nat.zero_le _, Nat.zero_le _⟩ ?_
                generalize hq16 : (fX2_performA (sg (sg q13 11 ((q13.1 11) + 1)) 18 q14) (σ.1 18)) = q16
                refine j_pop h dX1_fetch_114 rfl ?_
                refine j_aload_n h 3 dX1_fetch_115 rfl rfl ?_
                refine j_get h iX1 8 (fx_c8 _ _ _ q16.2) rfl 1 (by decide) tb1_203 rfl (v := .ref (a 2)) rfl dX1_fetch_116 ?_
                refine j_iload_n h 2 dX1_fetch_119 rfl rfl ?_
                refine j_callVi h (kX3_kindOf l D a cI cZ q16.2 (σ.1 18)) tb2_239 tb3_0 tb3_1 tb1_4 tb3_2 ⟨rfl, rfl⟩ (n := 1) (by decide +kernel) ⟨Nat.le_of_ble_eq_true rfl, Nat.le_of_ble_eq_true rfl⟩ (As := [.int (σ.1 18)]) rfl (ci := 3) (q0 := 2) rfl (fx_c2 _ _ _ q16.2) (st := []) rfl (Nat.le_of_ble_eq_true rfl) dX1_fetch_120 ⟨Nat.zero_le _, Nat.zero_le _⟩ ?_
                generalize hq17 : (fX3_kindOf q16.2 (σ.1 18)) = q17
                refine j_istore h (lv' := [(4, .int q17), (3, .int 0), (2, .int 1), (1, .int (σ.1 18)), (0, .ref (a 8))]) dX1_fetch_123 (by decide) rfl ?_
                refine j_aload_n h 4 dX1_fetch_125 rfl rfl ?_
                refine j_iload_n h 1 dX1_fetch_126 rfl rfl ?_
                refine j_if_ne h dX1_fetch_127 (tgt := 136) (by decide) (fun c18 => ?_) (fun c18 => ?_)
                ·
                  exact absurd c18 (by decide)
                ·
                  refine j_iload h 0 dX1_fetch_130 rfl ?_
                  refine j_iconst h (v := 5) dX1_fetch_132 (by decide) ?_
                  refine j_icmp_ne h dX1_fetch_133 (tgt := 140) (by decide) (fun c19 => ?_) (fun c19 => ?_)
                  ·
                    refine j_iconst h (v := 0) dX1_fetch_140 (by decide) ?_
                    refine j_put h iX1 tyX1 tyX1_ok nmX1 8 (fx_c8 _ _ _ q16.2) rfl 10 (by decide) tb1_218 rfl rfl rfl rfl (Nat.le_of_ble_eq_true rfl) (w' := (fx a cI cZ (sg q16.2 19 0))) (fx_p8_10 _ _ _ q16.2 _) dX1_fetch_141 ?_
                    refine j_aload_n h 4 dX1_fetch_144 rfl rfl ?_
                    refine j_iload h 0 dX1_fetch_145 rfl ?_
                    refine j_bipush h (v := 6) dX1_fetch_147 (by decide) ?_
                    refine j_icmp_ne h dX1_fetch_149 (tgt := 156) (by decide) (fun c20 => ?_) (fun c20 => ?_)
                    ·
                      refine j_iconst h (v := 0) dX1_fetch_156 (by decide) ?_
                      refine j_put h iX1 tyX1 tyX1_ok nmX1 8 (fx_c8 _ _ _ (sg q16.2 19 0)) rfl 11 (by decide) tb1_219 rfl rfl rfl rfl (Nat.le_of_ble_eq_true rfl) (w' := (fx a cI cZ (sg (sg q16.2 19 0) 20 0))) (fx_p8_11 _ _ _ (sg q16.2 19 0) _) dX1_fetch_157 ?_
                      subst hq3 hq11 hq13 hq14 hq16 hq17
                      have E : fX1_fetch σ = (sg (sg (fX2_performA (sg (sg (fX5_put σ 0 (σ.1 18) 1 0) 11 (((fX5_put σ 0 (σ.1 18) 1 0).1 11) + 1)) 18 (fX3_behind (sg (fX5_put σ 0 (σ.1 18) 1 0) 11 (((fX5_put σ 0 (σ.1 18) 1 0).1 11) + 1)) (σ.1 18))) (σ.1 18)).2 19 0) 20 0) := j_ip c1 (j_ip c2 (j_ip c4 (j_ip c5 (j_ip c12 (j_ig c19 (j_ig c20 rfl))))))
                      exact j_vreturn h hr (fun _ => 0) (congrArg (fx a cI cZ) E).symm dX1_fetch_160
                    ·
                      refine j_iconst h (v := 1) dX1_fetch_152 (by decide) ?_
                      refine j_goto h dX1_fetch_153 (tgt := 157) (by decide) ?_
                      refine j_put h iX1 tyX1 tyX1_ok nmX1 8 (fx_c8 _ _ _ (sg q16.2 19 0)) rfl 11 (by decide) tb1_219 rfl rfl rfl rfl (Nat.le_of_ble_eq_true rfl) (w' := (fx a cI cZ (sg (sg q16.2 19 0) 20 1))) (fx_p8_11 _ _ _ (sg q16.2 19 0) _) dX1_fetch_157 ?_
                      subst hq3 hq11 hq13 hq14 hq16 hq17
                      have E : fX1_fetch σ = (sg (sg (fX2_performA (sg (sg (fX5_put σ 0 (σ.1 18) 1 0) 11 (((fX5_put σ 0 (σ.1 18) 1 0).1 11) + 1)) 18 (fX3_behind (sg (fX5_put σ 0 (σ.1 18) 1 0) 11 (((fX5_put σ 0 (σ.1 18) 1 0).1 11) + 1)) (σ.1 18))) (σ.1 18)).2 19 0) 20 1) := j_ip c1 (j_ip c2 (j_ip c4 (j_ip c5 (j_ip c12 (j_ig c19 (j_ip c20 rfl))))))
                      exact j_vreturn h hr (fun _ => 0) (congrArg (fx a cI cZ) E).symm dX1_fetch_160
                  ·
                    refine j_iconst h (v := 1) dX1_fetch_136 (by decide) ?_
                    refine j_goto h dX1_fetch_137 (tgt := 141) (by decide) ?_
                    refine j_put h iX1 tyX1 tyX1_ok nmX1 8 (fx_c8 _ _ _ q16.2) rfl 10 (by decide) tb1_218 rfl rfl rfl rfl (Nat.le_of_ble_eq_true rfl) (w' := (fx a cI cZ (sg q16.2 19 1))) (fx_p8_10 _ _ _ q16.2 _) dX1_fetch_141 ?_
                    refine j_aload_n h 4 dX1_fetch_144 rfl rfl ?_
                    refine j_iload h 0 dX1_fetch_145 rfl ?_
                    refine j_bipush h (v := 6) dX1_fetch_147 (by decide) ?_
                    refine j_icmp_ne h dX1_fetch_149 (tgt := 156) (by decide) (fun c21 => ?_) (fun c21 => ?_)
                    ·
                      refine j_iconst h (v := 0) dX1_fetch_156 (by decide) ?_
                      refine j_put h iX1 tyX1 tyX1_ok nmX1 8 (fx_c8 _ _ _ (sg q16.2 19 1)) rfl 11 (by decide) tb1_219 rfl rfl rfl rfl (Nat.le_of_ble_eq_true rfl) (w' := (fx a cI cZ (sg (sg q16.2 19 1) 20 0))) (fx_p8_11 _ _ _ (sg q16.2 19 1) _) dX1_fetch_157 ?_
                      subst hq3 hq11 hq13 hq14 hq16 hq17
                      have E : fX1_fetch σ = (sg (sg (fX2_performA (sg (sg (fX5_put σ 0 (σ.1 18) 1 0) 11 (((fX5_put σ 0 (σ.1 18) 1 0).1 11) + 1)) 18 (fX3_behind (sg (fX5_put σ 0 (σ.1 18) 1 0) 11 (((fX5_put σ 0 (σ.1 18) 1 0).1 11) + 1)) (σ.1 18))) (σ.1 18)).2 19 1) 20 0) := j_ip c1 (j_ip c2 (j_ip c4 (j_ip c5 (j_ip c12 (j_ip c19 rfl)))))
                      exact j_vreturn h hr (fun _ => 0) (congrArg (fx a cI cZ) E).symm dX1_fetch_160
                    ·
                      exact absurd (c19.symm.trans c21) (by decide)
            ·
              refine j_iconst h (v := 1) dX1_fetch_60 (by decide) ?_
              refine j_goto h dX1_fetch_61 (tgt := 65) (by decide) ?_
              refine j_istore_n h (lv' := [(3, .int 1), (2, .int 1), (1, .int (σ.1 18)), (0, .ref (a 8))]) dX1_fetch_65 rfl (by decide) rfl ?_
              refine j_aload_n h 3 dX1_fetch_66 rfl rfl ?_
              refine j_get h iX1 8 (fx_c8 _ _ _ σ) rfl 2 (by decide) tb1_204 rfl (v := .ref (a 9)) rfl dX1_fetch_67 ?_
              refine j_iconst h (v := 0) dX1_fetch_70 (by decide) ?_
              refine j_iload_n h 2 dX1_fetch_71 rfl rfl ?_
              refine j_iload_n h 1 dX1_fetch_72 rfl rfl ?_
              refine j_iload_n h 0 dX1_fetch_73 rfl rfl ?_
              refine j_callVv h (kX5_put l D a cI cZ σ 0 (σ.1 18) 1 1) tb3_111 tb2_42 tb2_43 tb1_6 tb2_44 ⟨rfl, rfl⟩ (n := 4) (by decide +kernel) ⟨Nat.le_of_ble_eq_true rfl, Nat.le_of_ble_eq_true rfl⟩ (As := [.int 0, .int (σ.1 18), .int 1, .int 1]) rfl (ci := 5) (q0 := 9) rfl (fx_c9 _ _ _ σ) (st := []) rfl (Nat.le_of_ble_eq_true rfl) dX1_fetch_74 ⟨Nat.zero_le _, Nat.zero_le _⟩ ?_
              generalize hq22 : (fX5_put σ 0 (σ.1 18) 1 1) = q22
              refine j_aload_n h 3 dX1_fetch_77 rfl rfl ?_
              refine j_get h iX1 8 (fx_c8 _ _ _ q22) rfl 4 (by decide) tb1_208 rfl (v := .ref (a 17)) rfl dX1_fetch_78 ?_
              refine j_dup h dX1_fetch_81 rfl ?_
              refine j_get h iX6 17 (fx_c17 _ _ _ q22) rfl 3 (by decide) tb1_156 rfl (v := .int (q22.1 11)) rfl dX1_fetch_82 ?_
              refine j_iconst h (v := 1) dX1_fetch_85 (by decide) ?_
              refine j_iadd h dX1_fetch_86 ?_
              refine j_put h iX6 tyX6 tyX6_ok nmX6 17 (fx_c17 _ _ _ q22) rfl 3 (by decide) tb1_156 rfl rfl rfl rfl (Nat.le_of_ble_eq_true rfl) (w' := (fx a cI cZ (sg q22 11 ((q22.1 11) + 1)))) (fx_p17_3 _ _ _ q22 _) dX1_fetch_87 ?_
              refine j_aload_n h 3 dX1_fetch_90 rfl rfl ?_
              refine j_aload_n h 3 dX1_fetch_91 rfl rfl ?_
              refine j_get h iX1 8 (fx_c8 _ _ _ (sg q22 11 ((q22.1 11) + 1))) rfl 1 (by decide) tb1_203 rfl (v := .ref (a 2)) rfl dX1_fetch_92 ?_
              refine j_iload_n h 2 dX1_fetch_95 rfl rfl ?_
              refine j_callVi h (kX3_behind l D a cI cZ (sg q22 11 ((q22.1 11) + 1)) (σ.1 18)) tb3_112 tb3_113 tb3_114 tb1_4 tb3_115 ⟨rfl, rfl⟩ (n := 1) (by decide +kernel) ⟨Nat.le_of_ble_eq_true rfl, Nat.le_of_ble_eq_true rfl⟩ (As := [.int (σ.1 18)]) rfl (ci := 3) (q0 := 2) rfl (fx_c2 _ _ _ (sg q22 11 ((q22.1 11) + 1))) (st := [.ref (a 8)]) rfl (Nat.le_of_ble_eq_true rfl) dX1_fetch_96 ⟨Nat.zero_le _, Nat.zero_le _⟩ ?_
              generalize hq23 : (fX3_behind (sg q22 11 ((q22.1 11) + 1)) (σ.1 18)) = q23
              refine j_put h iX1 tyX1 tyX1_ok nmX1 8 (fx_c8 _ _ _ (sg q22 11 ((q22.1 11) + 1))) rfl 9 (by decide) tb1_217 rfl rfl rfl rfl (Nat.le_of_ble_eq_true rfl) (w' := (fx a cI cZ (sg (sg q22 11 ((q22.1 11) + 1)) 18 q23))) (fx_p8_9 _ _ _ (sg q22 11 ((q22.1 11) + 1)) _) dX1_fetch_99 ?_
              refine j_iload_n h 1 dX1_fetch_102 rfl rfl ?_
              refine j_if_eq h dX1_fetch_103 (tgt := 160) (by decide) (fun c24 => ?_) (fun c24 => ?_)
              ·
                exact absurd c24 (by decide)
              ·
                refine j_aload_n h 3 dX1_fetch_106 rfl rfl ?_
                refine j_get h iX1 8 (fx_c8 _ _ _ (sg (sg q22 11 ((q22.1 11) + 1)) 18 q23)) rfl 5 (by decide) tb1_210 rfl (v := .ref (a 19)) rfl dX1_fetch_107 ?_
                refine j_iload_n h 2 dX1_fetch_110 rfl rfl ?_
                refine j_callVi h (kX2_performA l D a cI cZ (sg (sg q22 11 ((q22.1 11) + 1)) 18 q23) (σ.1 18)) tb3_17 tb3_18 tb3_19 tb1_10 tb3_20 ⟨rfl, rfl⟩ (n := 1) (by decide +kernel) ⟨Nat.le_of_ble_eq_true rfl, Nat.le_of_ble_eq_true rfl⟩ (As := [.int (σ.1 18)]) rfl (ci := 2) (q0 := 19) rfl (fx_c19 _ _ _ (sg (sg q22 11 ((q22.1 11) + 1)) 18 q23)) (st := []) rfl (Nat.le_of_ble_eq_true rfl) dX1_fetch_111 ⟨Nat.zero_le _, Nat.zero_le _⟩ ?_
                generalize hq25 : (fX2_performA (sg (sg q22 11 ((q22.1 11) + 1)) 18 q23) (σ.1 18)) = q25
                refine j_pop h dX1_fetch_114 rfl ?_
                refine j_aload_n h 3 dX1_fetch_115 rfl rfl ?_
                refine j_get h iX1 8 (fx_c8 _ _ _ q25.2) rfl 1 (by decide) tb1_203 rfl (v := .ref (a 2)) rfl dX1_fetch_116 ?_
                refine j_iload_n h 2 dX1_fetch_119 rfl rfl ?_
                refine j_callVi h (kX3_kindOf l D a cI cZ q25.2 (σ.1 18)) tb2_239 tb3_0 tb3_1 tb1_4 tb3_2 ⟨rfl, rfl⟩ (n := 1) (by decide +kernel) ⟨Nat.le_of_ble_eq_true rfl, Nat.le_of_ble_eq_true rfl⟩ (As := [.int (σ.1 18)]) rfl (ci := 3) (q0 := 2) rfl (fx_c2 _ _ _ q25.2) (st := []) rfl (Nat.le_of_ble_eq_true rfl) dX1_fetch_120 ⟨Nat.zero_le _, Nat.zero_le _⟩ ?_
                generalize hq26 : (fX3_kindOf q25.2 (σ.1 18)) = q26
                refine j_istore h (lv' := [(4, .int q26), (3, .int 1), (2, .int 1), (1, .int (σ.1 18)), (0, .ref (a 8))]) dX1_fetch_123 (by decide) rfl ?_
                refine j_aload_n h 4 dX1_fetch_125 rfl rfl ?_
                refine j_iload_n h 1 dX1_fetch_126 rfl rfl ?_
                refine j_if_ne h dX1_fetch_127 (tgt := 136) (by decide) (fun c27 => ?_) (fun c27 => ?_)
                ·
                  refine j_iconst h (v := 1) dX1_fetch_136 (by decide) ?_
                  refine j_goto h dX1_fetch_137 (tgt := 141) (by decide) ?_
                  refine j_put h iX1 tyX1 tyX1_ok nmX1 8 (fx_c8 _ _ _ q25.2) rfl 10 (by decide) tb1_218 rfl rfl rfl rfl (Nat.le_of_ble_eq_true rfl) (w' := (fx a cI cZ (sg q25.2 19 1))) (fx_p8_10 _ _ _ q25.2 _) dX1_fetch_141 ?_
                  refine j_aload_n h 4 dX1_fetch_144 rfl rfl ?_
                  refine j_iload h 0 dX1_fetch_145 rfl ?_
                  refine j_bipush h (v := 6) dX1_fetch_147 (by decide) ?_
                  refine j_icmp_ne h dX1_fetch_149 (tgt := 156) (by decide) (fun c28 => ?_) (fun c28 => ?_)
                  ·
                    refine j_iconst h (v := 0) dX1_fetch_156 (by decide) ?_
                    refine j_put h iX1 tyX1 tyX1_ok nmX1 8 (fx_c8 _ _ _ (sg q25.2 19 1)) rfl 11 (by decide) tb1_219 rfl rfl rfl rfl (Nat.le_of_ble_eq_true rfl) (w' := (fx a cI cZ (sg (sg q25.2 19 1) 20 0))) (fx_p8_11 _ _ _ (sg q25.2 19 1) _) dX1_fetch_157 ?_
                    subst hq3 hq11 hq22 hq23 hq25 hq26
                    have E : fX1_fetch σ = (sg (sg (fX2_performA (sg (sg (fX5_put σ 0 (σ.1 18) 1 1) 11 (((fX5_put σ 0 (σ.1 18) 1 1).1 11) + 1)) 18 (fX3_behind (sg (fX5_put σ 0 (σ.1 18) 1 1) 11 (((fX5_put σ 0 (σ.1 18) 1 1).1 11) + 1)) (σ.1 18))) (σ.1 18)).2 19 1) 20 0) := j_ip c1 (j_ip c2 (j_ip c4 (j_ip c5 (j_ig c12 (j_ig c28 rfl)))))
                    exact j_vreturn h hr (fun _ => 0) (congrArg (fx a cI cZ) E).symm dX1_fetch_160
                  ·
                    refine j_iconst h (v := 1) dX1_fetch_152 (by decide) ?_
                    refine j_goto h dX1_fetch_153 (tgt := 157) (by decide) ?_
                    refine j_put h iX1 tyX1 tyX1_ok nmX1 8 (fx_c8 _ _ _ (sg q25.2 19 1)) rfl 11 (by decide) tb1_219 rfl rfl rfl rfl (Nat.le_of_ble_eq_true rfl) (w' := (fx a cI cZ (sg (sg q25.2 19 1) 20 1))) (fx_p8_11 _ _ _ (sg q25.2 19 1) _) dX1_fetch_157 ?_
                    subst hq3 hq11 hq22 hq23 hq25 hq26
                    have E : fX1_fetch σ = (sg (sg (fX2_performA (sg (sg (fX5_put σ 0 (σ.1 18) 1 1) 11 (((fX5_put σ 0 (σ.1 18) 1 1).1 11) + 1)) 18 (fX3_behind (sg (fX5_put σ 0 (σ.1 18) 1 1) 11 (((fX5_put σ 0 (σ.1 18) 1 1).1 11) + 1)) (σ.1 18))) (σ.1 18)).2 19 1) 20 1) := j_ip c1 (j_ip c2 (j_ip c4 (j_ip c5 (j_ig c12 (j_ip c28 rfl)))))
                    exact j_vreturn h hr (fun _ => 0) (congrArg (fx a cI cZ) E).symm dX1_fetch_160
                ·
                  exact absurd c27 (by decide)
      ·
        subst hq3
        have E : fX1_fetch σ = σ := j_ip c1 (j_ip c2 (j_ig c4 rfl))
        exact j_vreturn h hr (fun _ => 0) (congrArg (fx a cI cZ) E).symm dX1_fetch_26
theorem fr_fX1_fetch (σ : St) : Fr (fX1_fetch σ) σ := by
  by_cases c0 : (σ.1 21) = 0
  ·
    by_cases c1 : (σ.1 20) = 0
    ·
      by_cases c2 : (fX5_wordIn σ 0) = (-1)
      ·
        by_cases c3 : (σ.1 19) = 0
        ·
          by_cases c4 : (fX2_goesA σ (σ.1 18)) = 0
          ·
            by_cases c5 : (fX3_kindOf (fX2_performA (sg (sg (fX5_put σ 0 (σ.1 18) 1 0) 11 (((fX5_put σ 0 (σ.1 18) 1 0).1 11) + 1)) 18 (fX3_behind (sg (fX5_put σ 0 (σ.1 18) 1 0) 11 (((fX5_put σ 0 (σ.1 18) 1 0).1 11) + 1)) (σ.1 18))) (σ.1 18)).2 (σ.1 18)) = 5
            ·
              have E : fX1_fetch σ = (sg (sg (fX2_performA (sg (sg (fX5_put σ 0 (σ.1 18) 1 0) 11 (((fX5_put σ 0 (σ.1 18) 1 0).1 11) + 1)) 18 (fX3_behind (sg (fX5_put σ 0 (σ.1 18) 1 0) 11 (((fX5_put σ 0 (σ.1 18) 1 0).1 11) + 1)) (σ.1 18))) (σ.1 18)).2 19 1) 20 0) := j_ip c0 (j_ip c1 (j_ip c2 (j_ip c3 (j_ip c4 (j_ip c5 rfl)))))
              rw [E]
              exact (Fr.tr (Fr.sg (by decide)) (Fr.tr (Fr.sg (by decide)) (Fr.tr (fr_fX2_performA _ _) (Fr.tr (Fr.sg (by decide)) (Fr.tr (Fr.sg (by decide)) (Fr.tr (fr_fX5_put _ _ _ _ _) (Fr.rf _)))))))
            ·
              by_cases c6 : (fX3_kindOf (fX2_performA (sg (sg (fX5_put σ 0 (σ.1 18) 1 0) 11 (((fX5_put σ 0 (σ.1 18) 1 0).1 11) + 1)) 18 (fX3_behind (sg (fX5_put σ 0 (σ.1 18) 1 0) 11 (((fX5_put σ 0 (σ.1 18) 1 0).1 11) + 1)) (σ.1 18))) (σ.1 18)).2 (σ.1 18)) = 6
              ·
                have E : fX1_fetch σ = (sg (sg (fX2_performA (sg (sg (fX5_put σ 0 (σ.1 18) 1 0) 11 (((fX5_put σ 0 (σ.1 18) 1 0).1 11) + 1)) 18 (fX3_behind (sg (fX5_put σ 0 (σ.1 18) 1 0) 11 (((fX5_put σ 0 (σ.1 18) 1 0).1 11) + 1)) (σ.1 18))) (σ.1 18)).2 19 0) 20 1) := j_ip c0 (j_ip c1 (j_ip c2 (j_ip c3 (j_ip c4 (j_ig c5 (j_ip c6 rfl))))))
                rw [E]
                exact (Fr.tr (Fr.sg (by decide)) (Fr.tr (Fr.sg (by decide)) (Fr.tr (fr_fX2_performA _ _) (Fr.tr (Fr.sg (by decide)) (Fr.tr (Fr.sg (by decide)) (Fr.tr (fr_fX5_put _ _ _ _ _) (Fr.rf _)))))))
              ·
                have E : fX1_fetch σ = (sg (sg (fX2_performA (sg (sg (fX5_put σ 0 (σ.1 18) 1 0) 11 (((fX5_put σ 0 (σ.1 18) 1 0).1 11) + 1)) 18 (fX3_behind (sg (fX5_put σ 0 (σ.1 18) 1 0) 11 (((fX5_put σ 0 (σ.1 18) 1 0).1 11) + 1)) (σ.1 18))) (σ.1 18)).2 19 0) 20 0) := j_ip c0 (j_ip c1 (j_ip c2 (j_ip c3 (j_ip c4 (j_ig c5 (j_ig c6 rfl))))))
                rw [E]
                exact (Fr.tr (Fr.sg (by decide)) (Fr.tr (Fr.sg (by decide)) (Fr.tr (fr_fX2_performA _ _) (Fr.tr (Fr.sg (by decide)) (Fr.tr (Fr.sg (by decide)) (Fr.tr (fr_fX5_put _ _ _ _ _) (Fr.rf _)))))))
          ·
            by_cases c5 : (fX3_kindOf (fX2_performA (sg (sg (fX5_put σ 0 (σ.1 18) 1 1) 11 (((fX5_put σ 0 (σ.1 18) 1 1).1 11) + 1)) 18 (fX3_behind (sg (fX5_put σ 0 (σ.1 18) 1 1) 11 (((fX5_put σ 0 (σ.1 18) 1 1).1 11) + 1)) (σ.1 18))) (σ.1 18)).2 (σ.1 18)) = 6
            ·
              have E : fX1_fetch σ = (sg (sg (fX2_performA (sg (sg (fX5_put σ 0 (σ.1 18) 1 1) 11 (((fX5_put σ 0 (σ.1 18) 1 1).1 11) + 1)) 18 (fX3_behind (sg (fX5_put σ 0 (σ.1 18) 1 1) 11 (((fX5_put σ 0 (σ.1 18) 1 1).1 11) + 1)) (σ.1 18))) (σ.1 18)).2 19 1) 20 1) := j_ip c0 (j_ip c1 (j_ip c2 (j_ip c3 (j_ig c4 (j_ip c5 rfl)))))
              rw [E]
              exact (Fr.tr (Fr.sg (by decide)) (Fr.tr (Fr.sg (by decide)) (Fr.tr (fr_fX2_performA _ _) (Fr.tr (Fr.sg (by decide)) (Fr.tr (Fr.sg (by decide)) (Fr.tr (fr_fX5_put _ _ _ _ _) (Fr.rf _)))))))
            ·
              have E : fX1_fetch σ = (sg (sg (fX2_performA (sg (sg (fX5_put σ 0 (σ.1 18) 1 1) 11 (((fX5_put σ 0 (σ.1 18) 1 1).1 11) + 1)) 18 (fX3_behind (sg (fX5_put σ 0 (σ.1 18) 1 1) 11 (((fX5_put σ 0 (σ.1 18) 1 1).1 11) + 1)) (σ.1 18))) (σ.1 18)).2 19 1) 20 0) := j_ip c0 (j_ip c1 (j_ip c2 (j_ip c3 (j_ig c4 (j_ig c5 rfl)))))
              rw [E]
              exact (Fr.tr (Fr.sg (by decide)) (Fr.tr (Fr.sg (by decide)) (Fr.tr (fr_fX2_performA _ _) (Fr.tr (Fr.sg (by decide)) (Fr.tr (Fr.sg (by decide)) (Fr.tr (fr_fX5_put _ _ _ _ _) (Fr.rf _)))))))
        ·
          have E : fX1_fetch σ = (sg (sg (fX5_put σ 0 (σ.1 18) 0 0) 11 (((fX5_put σ 0 (σ.1 18) 0 0).1 11) + 1)) 18 (fX3_behind (sg (fX5_put σ 0 (σ.1 18) 0 0) 11 (((fX5_put σ 0 (σ.1 18) 0 0).1 11) + 1)) (σ.1 18))) := j_ip c0 (j_ip c1 (j_ip c2 (j_ig c3 rfl)))
          rw [E]
          exact (Fr.tr (Fr.sg (by decide)) (Fr.tr (Fr.sg (by decide)) (Fr.tr (fr_fX5_put _ _ _ _ _) (Fr.rf _))))
      ·
        have E : fX1_fetch σ = σ := j_ip c0 (j_ip c1 (j_ig c2 rfl))
        rw [E]
        exact (Fr.rf _)
    ·
      have E : fX1_fetch σ = σ := j_ip c0 (j_ig c1 rfl)
      rw [E]
      exact (Fr.rf _)
  ·
    have E : fX1_fetch σ = σ := j_ig c0 rfl
    rw [E]
    exact (Fr.rf _)
def fX1_doCycle (σ : St) : St := (let q1 := (fX1_leave (sg (sg σ 9 ((σ.1 9) + 1)) 21 0)); (if (q1.2.1 15) = 0 then (let q4 := (fX1_goOn q1.2); (if q1.1 = 4 then (let q8 := (fX1_fetch q4.2); (let q9 := (fX6_addCause q8 q4.1); q9)) else (let q6 := (fX1_fetch q4.2); (let q7 := (fX6_addCause q6 q1.1); q7)))) else (let q3 := (fX6_addCause q1.2 q1.1); q3)))
def rmX1_doCycle : Room := { frames := 5, cells := 0, slots := 0, locals := 115 }
set_option maxRecDepth 100000 in
set_option maxHeartbeats 4000000 in
theorem kX1_doCycle (l : Launch) (D : va_G) (a : Nat → Nat) (cI cZ : ClassId) (σ : St) (hs : shp σ) : Cv l yX1_doCycle cX1_doCycle 3 none TB rmX1_doCycle D vwCl [(cI, .int), (cZ, .boolean)] [.ref (a 8)] (fx a cI cZ σ) (fun _ => (fx a cI cZ (fX1_doCycle σ))) 0 0 := by
  refine Cv_of (cc := cX1_doCycle) (maxL := 3) (ret := none) (by decide +kernel) TBg (Nat.le_of_ble_eq_true rfl) ?_
  intro p e s m args below meth c A h hr hname
  refine j_aload_n h 0 dX1_doCycle_0 rfl rfl ?_
  refine j_get h iX1 8 (fx_c8 _ _ _ σ) rfl 4 (by decide) tb1_208 rfl (v := .ref (a 17)) rfl dX1_doCycle_1 ?_
  refine j_dup h dX1_doCycle_4 rfl ?_
  refine j_get h iX6 17 (fx_c17 _ _ _ σ) rfl 1 (by decide) tb1_150 rfl (v := .int (σ.1 9)) rfl dX1_doCycle_5 ?_
  refine j_iconst h (v := 1) dX1_doCycle_8 (by decide) ?_
  refine j_iadd h dX1_doCycle_9 ?_
  refine j_put h iX6 tyX6 tyX6_ok nmX6 17 (fx_c17 _ _ _ σ) rfl 1 (by decide) tb1_150 rfl rfl rfl rfl (Nat.le_of_ble_eq_true rfl) (w' := (fx a cI cZ (sg σ 9 ((σ.1 9) + 1)))) (fx_p17_1 _ _ _ σ _) dX1_doCycle_10 ?_
  refine j_aload_n h 0 dX1_doCycle_13 rfl rfl ?_
  refine j_iconst h (v := 0) dX1_doCycle_14 (by decide) ?_
  refine j_put h iX1 tyX1 tyX1_ok nmX1 8 (fx_c8 _ _ _ (sg σ 9 ((σ.1 9) + 1))) rfl 12 (by decide) tb1_220 rfl rfl rfl rfl (Nat.le_of_ble_eq_true rfl) (w' := (fx a cI cZ (sg (sg σ 9 ((σ.1 9) + 1)) 21 0))) (fx_p8_12 _ _ _ (sg σ 9 ((σ.1 9) + 1)) _) dX1_doCycle_15 ?_
  refine j_aload_n h 0 dX1_doCycle_18 rfl rfl ?_
  refine j_callVi h (kX1_leave l D a cI cZ (sg (sg σ 9 ((σ.1 9) + 1)) 21 0)) tb2_219 tb2_221 tp_1 tb1_5 tb2_222 ⟨rfl, rfl⟩ (n := 0) (by decide +kernel) ⟨Nat.le_of_ble_eq_true rfl, Nat.le_of_ble_eq_true rfl⟩ (As := []) rfl (ci := 1) (q0 := 8) rfl (fx_c8 _ _ _ (sg (sg σ 9 ((σ.1 9) + 1)) 21 0)) (st := []) rfl (Nat.le_of_ble_eq_true rfl) dX1_doCycle_19 ⟨Nat.zero_le _, Nat.zero_le _⟩ ?_
  generalize hq1 : (fX1_leave (sg (sg σ 9 ((σ.1 9) + 1)) 21 0)) = q1
  refine j_istore_n h (lv' := [(1, .int q1.1), (0, .ref (a 8))]) dX1_doCycle_22 rfl (by decide) rfl ?_
  refine j_aload_n h 1 dX1_doCycle_23 rfl rfl ?_
  refine j_get h iX1 8 (fx_c8 _ _ _ q1.2) rfl 4 (by decide) tb1_208 rfl (v := .ref (a 17)) rfl dX1_doCycle_24 ?_
  refine j_get h iX6 17 (fx_c17 _ _ _ q1.2) rfl 7 (by decide) tb1_167 rfl (v := .int (q1.2.1 15)) rfl dX1_doCycle_27 ?_
  refine j_if_ne h dX1_doCycle_30 (tgt := 53) (by decide) (fun c2 => ?_) (fun c2 => ?_)
  ·
    refine j_aload_n h 1 dX1_doCycle_53 rfl rfl ?_
    refine j_get h iX1 8 (fx_c8 _ _ _ q1.2) rfl 4 (by decide) tb1_208 rfl (v := .ref (a 17)) rfl dX1_doCycle_54 ?_
    refine j_iload_n h 0 dX1_doCycle_57 rfl rfl ?_
    refine j_callVv h (kX6_addCause l D a cI cZ q1.2 q1.1) tb3_116 tb3_117 tb3_118 tb1_9 tb3_119 ⟨rfl, rfl⟩ (n := 1) (by decide +kernel) ⟨Nat.le_of_ble_eq_true rfl, Nat.le_of_ble_eq_true rfl⟩ (As := [.int q1.1]) rfl (ci := 6) (q0 := 17) rfl (fx_c17 _ _ _ q1.2) (st := []) rfl (Nat.le_of_ble_eq_true rfl) dX1_doCycle_58 ⟨Nat.zero_le _, Nat.zero_le _⟩ ?_
    generalize hq3 : (fX6_addCause q1.2 q1.1) = q3
    subst hq1 hq3
    have E : fX1_doCycle σ = (fX6_addCause (fX1_leave (sg (sg σ 9 ((σ.1 9) + 1)) 21 0)).2 (fX1_leave (sg (sg σ 9 ((σ.1 9) + 1)) 21 0)).1) := j_ig c2 rfl
    exact j_vreturn h hr (fun _ => 0) (congrArg (fx a cI cZ) E).symm dX1_doCycle_61
  ·
    refine j_aload_n h 1 dX1_doCycle_33 rfl rfl ?_
    refine j_callVi h (kX1_goOn l D a cI cZ q1.2 (by rw [← hq1]; exact (shp.fr (shp.fr (shp.fr hs (Fr.sg (by decide))) (Fr.sg (by decide))) (fr_fX1_leave _)))) tb3_65 tb3_67 tp_7 tb1_5 tb3_68 ⟨rfl, rfl⟩ (n := 0) (by decide +kernel) ⟨Nat.le_of_ble_eq_true rfl, Nat.le_of_ble_eq_true rfl⟩ (As := []) rfl (ci := 1) (q0 := 8) rfl (fx_c8 _ _ _ q1.2) (st := []) rfl (Nat.le_of_ble_eq_true rfl) dX1_doCycle_34 ⟨Nat.zero_le _, Nat.zero_le _⟩ ?_
    generalize hq4 : (fX1_goOn q1.2) = q4
    refine j_istore_n h (lv' := [(2, .int q4.1), (1, .int q1.1), (0, .ref (a 8))]) dX1_doCycle_37 rfl (by decide) rfl ?_
    refine j_iload_n h 1 dX1_doCycle_38 rfl rfl ?_
    refine j_iconst h (v := 4) dX1_doCycle_39 (by decide) ?_
    refine j_icmp_ne h dX1_doCycle_40 (tgt := 47) (by decide) (fun c5 => ?_) (fun c5 => ?_)
    ·
      refine j_iload_n h 1 dX1_doCycle_47 rfl rfl ?_
      refine j_istore_n h (lv' := [(1, .int q1.1), (2, .int q4.1), (0, .ref (a 8))]) dX1_doCycle_48 rfl (by decide) rfl ?_
      refine j_aload_n h 2 dX1_doCycle_49 rfl rfl ?_
      refine j_callVv h (kX1_fetch l D a cI cZ q4.2) tb3_103 tb3_105 tp_11 tb1_5 tb3_106 ⟨rfl, rfl⟩ (n := 0) (by decide +kernel) ⟨Nat.le_of_ble_eq_true rfl, Nat.le_of_ble_eq_true rfl⟩ (As := []) rfl (ci := 1) (q0 := 8) rfl (fx_c8 _ _ _ q4.2) (st := []) rfl (Nat.le_of_ble_eq_true rfl) dX1_doCycle_50 ⟨Nat.zero_le _, Nat.zero_le _⟩ ?_
      generalize hq6 : (fX1_fetch q4.2) = q6
      refine j_aload_n h 2 dX1_doCycle_53 rfl rfl ?_
      refine j_get h iX1 8 (fx_c8 _ _ _ q6) rfl 4 (by decide) tb1_208 rfl (v := .ref (a 17)) rfl dX1_doCycle_54 ?_
      refine j_iload_n h 0 dX1_doCycle_57 rfl rfl ?_
      refine j_callVv h (kX6_addCause l D a cI cZ q6 q1.1) tb3_116 tb3_117 tb3_118 tb1_9 tb3_119 ⟨rfl, rfl⟩ (n := 1) (by decide +kernel) ⟨Nat.le_of_ble_eq_true rfl, Nat.le_of_ble_eq_true rfl⟩ (As := [.int q1.1]) rfl (ci := 6) (q0 := 17) rfl (fx_c17 _ _ _ q6) (st := []) rfl (Nat.le_of_ble_eq_true rfl) dX1_doCycle_58 ⟨Nat.zero_le _, Nat.zero_le _⟩ ?_
      generalize hq7 : (fX6_addCause q6 q1.1) = q7
      subst hq1 hq4 hq6 hq7
      have E : fX1_doCycle σ = (fX6_addCause (fX1_fetch (fX1_goOn (fX1_leave (sg (sg σ 9 ((σ.1 9) + 1)) 21 0)).2).2) (fX1_leave (sg (sg σ 9 ((σ.1 9) + 1)) 21 0)).1) := j_ip c2 (j_ig c5 rfl)
      exact j_vreturn h hr (fun _ => 0) (congrArg (fx a cI cZ) E).symm dX1_doCycle_61
    ·
      refine j_iload_n h 0 dX1_doCycle_43 rfl rfl ?_
      refine j_goto h dX1_doCycle_44 (tgt := 48) (by decide) ?_
      refine j_istore_n h (lv' := [(1, .int q4.1), (2, .int q4.1), (0, .ref (a 8))]) dX1_doCycle_48 rfl (by decide) rfl ?_
      refine j_aload_n h 2 dX1_doCycle_49 rfl rfl ?_
      refine j_callVv h (kX1_fetch l D a cI cZ q4.2) tb3_103 tb3_105 tp_11 tb1_5 tb3_106 ⟨rfl, rfl⟩ (n := 0) (by decide +kernel) ⟨Nat.le_of_ble_eq_true rfl, Nat.le_of_ble_eq_true rfl⟩ (As := []) rfl (ci := 1) (q0 := 8) rfl (fx_c8 _ _ _ q4.2) (st := []) rfl (Nat.le_of_ble_eq_true rfl) dX1_doCycle_50 ⟨Nat.zero_le _, Nat.zero_le _⟩ ?_
      generalize hq8 : (fX1_fetch q4.2) = q8
      refine j_aload_n h 2 dX1_doCycle_53 rfl rfl ?_
      refine j_get h iX1 8 (fx_c8 _ _ _ q8) rfl 4 (by decide) tb1_208 rfl (v := .ref (a 17)) rfl dX1_doCycle_54 ?_
      refine j_iload_n h 0 dX1_doCycle_57 rfl rfl ?_
      refine j_callVv h (kX6_addCause l D a cI cZ q8 q4.1) tb3_116 tb3_117 tb3_118 tb1_9 tb3_119 ⟨rfl, rfl⟩ (n := 1) (by decide +kernel) ⟨Nat.le_of_ble_eq_true rfl, Nat.le_of_ble_eq_true rfl⟩ (As := [.int q4.1]) rfl (ci := 6) (q0 := 17) rfl (fx_c17 _ _ _ q8) (st := []) rfl (Nat.le_of_ble_eq_true rfl) dX1_doCycle_58 ⟨Nat.zero_le _, Nat.zero_le _⟩ ?_
      generalize hq9 : (fX6_addCause q8 q4.1) = q9
      subst hq1 hq4 hq8 hq9
      have E : fX1_doCycle σ = (fX6_addCause (fX1_fetch (fX1_goOn (fX1_leave (sg (sg σ 9 ((σ.1 9) + 1)) 21 0)).2).2) (fX1_goOn (fX1_leave (sg (sg σ 9 ((σ.1 9) + 1)) 21 0)).2).1) := j_ip c2 (j_ip c5 rfl)
      exact j_vreturn h hr (fun _ => 0) (congrArg (fx a cI cZ) E).symm dX1_doCycle_61
theorem fr_fX1_doCycle (σ : St) : Fr (fX1_doCycle σ) σ := by
  by_cases c0 : ((fX1_leave (sg (sg σ 9 ((σ.1 9) + 1)) 21 0)).2.1 15) = 0
  ·
    by_cases c1 : (fX1_leave (sg (sg σ 9 ((σ.1 9) + 1)) 21 0)).1 = 4
    ·
      have E : fX1_doCycle σ = (fX6_addCause (fX1_fetch (fX1_goOn (fX1_leave (sg (sg σ 9 ((σ.1 9) + 1)) 21 0)).2).2) (fX1_goOn (fX1_leave (sg (sg σ 9 ((σ.1 9) + 1)) 21 0)).2).1) := j_ip c0 (j_ip c1 rfl)
      rw [E]
      exact (Fr.tr (fr_fX6_addCause _ _) (Fr.tr (fr_fX1_fetch _) (Fr.tr (fr_fX1_goOn _) (Fr.tr (fr_fX1_leave _) (Fr.tr (Fr.sg (by decide)) (Fr.tr (Fr.sg (by decide)) (Fr.rf _)))))))
    ·
      have E : fX1_doCycle σ = (fX6_addCause (fX1_fetch (fX1_goOn (fX1_leave (sg (sg σ 9 ((σ.1 9) + 1)) 21 0)).2).2) (fX1_leave (sg (sg σ 9 ((σ.1 9) + 1)) 21 0)).1) := j_ip c0 (j_ig c1 rfl)
      rw [E]
      exact (Fr.tr (fr_fX6_addCause _ _) (Fr.tr (fr_fX1_fetch _) (Fr.tr (fr_fX1_goOn _) (Fr.tr (fr_fX1_leave _) (Fr.tr (Fr.sg (by decide)) (Fr.tr (Fr.sg (by decide)) (Fr.rf _)))))))
  ·
    have E : fX1_doCycle σ = (fX6_addCause (fX1_leave (sg (sg σ 9 ((σ.1 9) + 1)) 21 0)).2 (fX1_leave (sg (sg σ 9 ((σ.1 9) + 1)) 21 0)).1) := j_ig c0 rfl
    rw [E]
    exact (Fr.tr (fr_fX6_addCause _ _) (Fr.tr (fr_fX1_leave _) (Fr.tr (Fr.sg (by decide)) (Fr.tr (Fr.sg (by decide)) (Fr.rf _)))))
