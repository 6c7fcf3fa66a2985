def fX1_beginAnew (σ : St) : St := (let q1 := (fX5_beginAnew σ); (let q2 := (fX0_beginAnew q1); (let q3 := (fX6_beginAnew q2); (let q4 := (fX2_beginAnewA q3); (let q5 := (fX2_beginAnewL q4); (sg (sg (sg (sg (sg q5 18 0) 19 0) 20 0) 21 0) 22 0))))))
def rmX1_beginAnew : Room := { frames := 3, cells := 0, slots := 0, locals := 67 }
set_option maxRecDepth 100000 in
set_option maxHeartbeats 4000000 in
theorem kX1_beginAnew (l : Launch) (D : va_G) (a : Nat → Nat) (cI cZ : ClassId) (σ : St) : Cv l yX1_beginAnew cX1_beginAnew 1 none TB rmX1_beginAnew D vwCl [(cI, .int), (cZ, .boolean)] [.ref (a 8)] (fx a cI cZ σ) (fun _ => (fx a cI cZ (fX1_beginAnew σ))) 0 0 := by
  refine Cv_of (cc := cX1_beginAnew) (maxL := 1) (ret := none) (by decide +kernel) TBg (Nat.le_of_ble_eq_true rfl) ?_
  intro p e s m args below meth c A h hr hname
  refine j_aload_n h 0 dX1_beginAnew_0 rfl rfl ?_
  refine j_get h iX1 8 (fx_c8 _ _ _ σ) rfl 2 (by decide) tb1_204 rfl (v := .ref (a 9)) rfl dX1_beginAnew_1 ?_
  refine j_callVv h (kX5_beginAnew l D a cI cZ σ) tb2_33 tb2_34 tb2_35 tb1_6 tb2_36 ⟨rfl, rfl⟩ (n := 0) (by decide +kernel) ⟨Nat.le_of_ble_eq_true rfl, Nat.le_of_ble_eq_true rfl⟩ (As := []) rfl (ci := 5) (q0 := 9) rfl (fx_c9 _ _ _ σ) (st := []) rfl (Nat.le_of_ble_eq_true rfl) dX1_beginAnew_4 ⟨Nat.zero_le _, Nat.zero_le _⟩ ?_
  generalize hq1 : (fX5_beginAnew σ) = q1
  refine j_aload_n h 0 dX1_beginAnew_7 rfl rfl ?_
  refine j_get h iX1 8 (fx_c8 _ _ _ q1) rfl 3 (by decide) tb1_206 rfl (v := .ref (a 13)) rfl dX1_beginAnew_8 ?_
  refine j_callVv h (kX0_beginAnew l D a cI cZ q1) tb2_45 tb2_46 tb2_47 tb1_8 tb2_48 ⟨rfl, rfl⟩ (n := 0) (by decide +kernel) ⟨Nat.le_of_ble_eq_true rfl, Nat.le_of_ble_eq_true rfl⟩ (As := []) rfl (ci := 0) (q0 := 13) rfl (fx_c13 _ _ _ q1) (st := []) rfl (Nat.le_of_ble_eq_true rfl) dX1_beginAnew_11 ⟨Nat.zero_le _, Nat.zero_le _⟩ ?_
  generalize hq2 : (fX0_beginAnew q1) = q2
  refine j_aload_n h 0 dX1_beginAnew_14 rfl rfl ?_
  refine j_get h iX1 8 (fx_c8 _ _ _ q2) rfl 4 (by decide) tb1_208 rfl (v := .ref (a 17)) rfl dX1_beginAnew_15 ?_
  refine j_callVv h (kX6_beginAnew l D a cI cZ q2) tb2_49 tb2_50 tb2_51 tb1_9 tb2_52 ⟨rfl, rfl⟩ (n := 0) (by decide +kernel) ⟨Nat.le_of_ble_eq_true rfl, Nat.le_of_ble_eq_true rfl⟩ (As := []) rfl (ci := 6) (q0 := 17) rfl (fx_c17 _ _ _ q2) (st := []) rfl (Nat.le_of_ble_eq_true rfl) dX1_beginAnew_18 ⟨Nat.zero_le _, Nat.zero_le _⟩ ?_
  generalize hq3 : (fX6_beginAnew q2) = q3
  refine j_aload_n h 0 dX1_beginAnew_21 rfl rfl ?_
  refine j_get h iX1 8 (fx_c8 _ _ _ q3) rfl 5 (by decide) tb1_210 rfl (v := .ref (a 19)) rfl dX1_beginAnew_22 ?_
  refine j_callVv h (kX2_beginAnewA l D a cI cZ q3) tb2_54 tb2_55 tb2_56 tb1_10 tb2_57 ⟨rfl, rfl⟩ (n := 0) (by decide +kernel) ⟨Nat.le_of_ble_eq_true rfl, Nat.le_of_ble_eq_true rfl⟩ (As := []) rfl (ci := 2) (q0 := 19) rfl (fx_c19 _ _ _ q3) (st := []) rfl (Nat.le_of_ble_eq_true rfl) dX1_beginAnew_25 ⟨Nat.zero_le _, Nat.zero_le _⟩ ?_
  generalize hq4 : (fX2_beginAnewA q3) = q4
  refine j_aload_n h 0 dX1_beginAnew_28 rfl rfl ?_
  refine j_get h iX1 8 (fx_c8 _ _ _ q4) rfl 6 (by decide) tb1_211 rfl (v := .ref (a 22)) rfl dX1_beginAnew_29 ?_
  refine j_callVv h (kX2_beginAnewL l D a cI cZ q4) tb2_54 tb2_55 tb2_56 tb1_10 tb2_57 ⟨rfl, rfl⟩ (n := 0) (by decide +kernel) ⟨Nat.le_of_ble_eq_true rfl, Nat.le_of_ble_eq_true rfl⟩ (As := []) rfl (ci := 2) (q0 := 22) rfl (fx_c22 _ _ _ q4) (st := []) rfl (Nat.le_of_ble_eq_true rfl) dX1_beginAnew_32 ⟨Nat.zero_le _, Nat.zero_le _⟩ ?_
  generalize hq5 : (fX2_beginAnewL q4) = q5
  refine j_aload_n h 0 dX1_beginAnew_35 rfl rfl ?_
  refine j_iconst h (v := 0) dX1_beginAnew_36 (by decide) ?_
  refine j_put h iX1 tyX1 tyX1_ok nmX1 8 (fx_c8 _ _ _ q5) rfl 9 (by decide) tb1_217 rfl rfl rfl rfl (Nat.le_of_ble_eq_true rfl) (w' := (fx a cI cZ (sg q5 18 0))) (fx_p8_9 _ _ _ q5 _) dX1_beginAnew_37 ?_
  refine j_aload_n h 0 dX1_beginAnew_40 rfl rfl ?_
  refine j_iconst h (v := 0) dX1_beginAnew_41 (by decide) ?_
  refine j_put h iX1 tyX1 tyX1_ok nmX1 8 (fx_c8 _ _ _ (sg q5 18 0)) rfl 10 (by decide) tb1_218 rfl rfl rfl rfl (Nat.le_of_ble_eq_true rfl) (w' := (fx a cI cZ (sg (sg q5 18 0) 19 0))) (fx_p8_10 _ _ _ (sg q5 18 0) _) dX1_beginAnew_42 ?_
  refine j_aload_n h 0 dX1_beginAnew_45 rfl rfl ?_
  refine j_iconst h (v := 0) dX1_beginAnew_46 (by decide) ?_
  refine j_put h iX1 tyX1 tyX1_ok nmX1 8 (fx_c8 _ _ _ (sg (sg q5 18 0) 19 0)) rfl 11 (by decide) tb1_219 rfl rfl rfl rfl (Nat.le_of_ble_eq_true rfl) (w' := (fx a cI cZ (sg (sg (sg q5 18 0) 19 0) 20 0))) (fx_p8_11 _ _ _ (sg (sg q5 18 0) 19 0) _) dX1_beginAnew_47 ?_
  refine j_aload_n h 0 dX1_beginAnew_50 rfl rfl ?_
  refine j_iconst h (v := 0) dX1_beginAnew_51 (by decide) ?_
  refine j_put h iX1 tyX1 tyX1_ok nmX1 8 (fx_c8 _ _ _ (sg (sg (sg q5 18 0) 19 0) 20 0)) rfl 12 (by decide) tb1_220 rfl rfl rfl rfl (Nat.le_of_ble_eq_true rfl) (w' := (fx a cI cZ (sg (sg (sg (sg q5 18 0) 19 0) 20 0) 21 0))) (fx_p8_12 _ _ _ (sg (sg (sg q5 18 0) 19 0) 20 0) _) dX1_beginAnew_52 ?_
  refine j_aload_n h 0 dX1_beginAnew_55 rfl rfl ?_
  refine j_iconst h (v := 0) dX1_beginAnew_56 (by decide) ?_
  refine j_put h iX1 tyX1 tyX1_ok nmX1 8 (fx_c8 _ _ _ (sg (sg (sg (sg q5 18 0) 19 0) 20 0) 21 0)) rfl 13 (by decide) tb1_221 rfl rfl rfl rfl (Nat.le_of_ble_eq_true rfl) (w' := (fx a cI cZ (sg (sg (sg (sg (sg q5 18 0) 19 0) 20 0) 21 0) 22 0))) (fx_p8_13 _ _ _ (sg (sg (sg (sg q5 18 0) 19 0) 20 0) 21 0) _) dX1_beginAnew_57 ?_
  subst hq1 hq2 hq3 hq4 hq5
  have E : fX1_beginAnew σ = (sg (sg (sg (sg (sg (fX2_beginAnewL (fX2_beginAnewA (fX6_beginAnew (fX0_beginAnew (fX5_beginAnew σ))))) 18 0) 19 0) 20 0) 21 0) 22 0) := rfl
  exact j_vreturn h hr (fun _ => 0) (congrArg (fx a cI cZ) E).symm dX1_beginAnew_60
theorem fr_fX1_beginAnew (σ : St) : Fr (fX1_beginAnew σ) σ := by
  have E : fX1_beginAnew σ = (sg (sg (sg (sg (sg (fX2_beginAnewL (fX2_beginAnewA (fX6_beginAnew (fX0_beginAnew (fX5_beginAnew σ))))) 18 0) 19 0) 20 0) 21 0) 22 0) := rfl
  rw [E]
  exact (Fr.tr (Fr.sg (by decide)) (Fr.tr (Fr.sg (by decide)) (Fr.tr (Fr.sg (by decide)) (Fr.tr (Fr.sg (by decide)) (Fr.tr (Fr.sg (by decide)) (Fr.tr (fr_fX2_beginAnewL _) (Fr.tr (fr_fX2_beginAnewA _) (Fr.tr (fr_fX6_beginAnew _) (Fr.tr (fr_fX0_beginAnew _) (Fr.tr (fr_fX5_beginAnew _) (Fr.rf _)))))))))))
def gfX1_isThere : Nat → St → Int32 → Int32 → Int32
  | 0, σ, x1, x2 => 0
  | n + 1, σ, x1, x2 => (if (σ.1 0) ≤ x2 then 1 else (let q1002 := (fX5_wordIn σ x2); (let q1003 := (fX3_written σ q1002); (if q1003 = x1 then (if (σ.1 16) = 0 then 0 else (let q1006 := (fX3_kindOf σ q1002); (let q1007 := (fX4_behindWhichReady σ q1006); (if x2 ≤ q1007 then 0 else 1)))) else gfX1_isThere n σ x1 (x2 + 1)))))
def fX1_isThere (σ : St) (x1 : Int32) : Int32 := (if x1 = (-1) then 1 else gfX1_isThere 9 σ x1 ((σ.1 1) + 1))
def rmX1_isThere : Room := { frames := 1, cells := 0, slots := 0, locals := 21 }
set_option maxRecDepth 100000 in
set_option maxHeartbeats 4000000 in
theorem kX1_isThere (l : Launch) (D : va_G) (a : Nat → Nat) (cI cZ : ClassId) (σ : St) (x1 : Int32) (hs : shp σ) : Ci l yX1_isThere cX1_isThere 4 (some .boolean) TB rmX1_isThere D vwCl [(cI, .int), (cZ, .boolean)] [.ref (a 8), .int x1] (fx a cI cZ σ) (fx a cI cZ σ) (fX1_isThere σ x1) := by
  refine Ci_of (cc := cX1_isThere) (maxL := 4) (ret := (some .boolean)) (by decide +kernel) TBg (Nat.le_of_ble_eq_true rfl) ?_
  intro p e s m args below meth c A h hr
  have loop : ∀ (n : Nat) (σ : St) (x2 : Int32), x2.toInt ≤ (σ.1 0).toInt → (σ.1 0).toInt < x2.toInt + n → J p l e rmX1_isThere s m args below meth c D vwCl A 4 0 0 (MQ below (jEi D vwCl [(cI, .int), (cZ, .boolean)] A (fx a cI cZ σ) (gfX1_isThere n σ x1 x2)) args s 0 0 A) (fx a cI cZ σ) 17 [(2, .int x2), (0, .ref (a 8)), (1, .int x1)] [] := by
    intro n
    induction n with
    | zero => intro σ x2 h1 h2; exact absurd h2 (by omega)
    | succ n ih =>
      intro σ x2 h1 h2
      refine j_iload_n h 0 dX1_isThere_17 rfl rfl ?_
      refine j_aload_n h 1 dX1_isThere_18 rfl rfl ?_
      refine j_get h iX1 8 (fx_c8 _ _ _ σ) rfl 0 (by decide) tb1_202 rfl (v := .ref (a 1)) rfl dX1_isThere_19 ?_
      refine j_get h iX4 1 (fx_c1 _ _ _ σ) rfl 0 (by decide) tb1_41 rfl (v := .int (σ.1 0)) rfl dX1_isThere_22 ?_
      refine j_icmp_ge h dX1_isThere_25 (tgt := 87) (by decide) (fun c1001 => ?_) (fun c1001 => ?_)
      ·
        refine j_iconst h (v := 1) dX1_isThere_87 (by decide) ?_
        have E : gfX1_isThere (n + 1) σ x1 x2 = 1 := j_ip c1001 rfl
        exact j_zreturn h hr (by decide) E.symm rfl dX1_isThere_88
      ·
        refine j_aload_n h 1 dX1_isThere_28 rfl rfl ?_
        refine j_get h iX1 8 (fx_c8 _ _ _ σ) rfl 2 (by decide) tb1_204 rfl (v := .ref (a 9)) rfl dX1_isThere_29 ?_
        refine j_iload_n h 0 dX1_isThere_32 rfl rfl ?_
        refine j_callVi h (kX5_wordIn l D a cI cZ σ x2) tb2_227 tb2_228 tb2_229 tb1_6 tb2_230 ⟨rfl, rfl⟩ (n := 1) (by decide +kernel) ⟨Nat.le_of_ble_eq_true rfl, Nat.le_of_ble_eq_true rfl⟩ (As := [.int x2]) rfl (ci := 5) (q0 := 9) rfl (fx_c9 _ _ _ σ) (st := []) rfl (Nat.le_of_ble_eq_true rfl) dX1_isThere_33 ⟨Nat.zero_le _, Nat.zero_le _⟩ ?_
        generalize hq1002 : (fX5_wordIn σ x2) = q1002
        refine j_istore_n h (lv' := [(3, .int q1002), (2, .int x2), (0, .ref (a 8)), (1, .int x1)]) dX1_isThere_36 rfl (by decide) rfl ?_
        refine j_aload_n h 2 dX1_isThere_37 rfl rfl ?_
        refine j_get h iX1 8 (fx_c8 _ _ _ σ) rfl 1 (by decide) tb1_203 rfl (v := .ref (a 2)) rfl dX1_isThere_38 ?_
        refine j_iload_n h 0 dX1_isThere_41 rfl rfl ?_
        refine j_callVi h (kX3_written l D a cI cZ σ q1002) tb3_82 tb3_38 tb3_39 tb1_4 tb3_40 ⟨rfl, rfl⟩ (n := 1) (by decide +kernel) ⟨Nat.le_of_ble_eq_true rfl, Nat.le_of_ble_eq_true rfl⟩ (As := [.int q1002]) rfl (ci := 3) (q0 := 2) rfl (fx_c2 _ _ _ σ) (st := []) rfl (Nat.le_of_ble_eq_true rfl) dX1_isThere_42 ⟨Nat.zero_le _, Nat.zero_le _⟩ ?_
        generalize hq1003 : (fX3_written σ q1002) = q1003
        refine j_iload_n h 3 dX1_isThere_45 rfl rfl ?_
        refine j_icmp_ne h dX1_isThere_46 (tgt := 81) (by decide) (fun c1004 => ?_) (fun c1004 => ?_)
        ·
          refine j_iinc h 1 (v := (x2 + 1)) (lv' := [(2, .int (x2 + 1)), (3, .int q1002), (0, .ref (a 8)), (1, .int x1)]) dX1_isThere_81 rfl (rfl) (by decide) rfl ?_
          refine j_goto h dX1_isThere_84 (tgt := 17) (by decide) ?_
          have hi := j_inc (j_hi1 c1001)
          have hl := j_toLt c1001
          subst hq1002 hq1003
          have E : gfX1_isThere (n + 1) σ x1 x2 = gfX1_isThere n σ x1 (x2 + 1) := j_ig c1001 (j_ig c1004 rfl)
          rw [E]
          refine j_lv [0, 2, 3] rfl ?_
          exact ih σ (x2 + 1) (by omega) (by omega)
        ·
          refine j_aload_n h 2 dX1_isThere_49 rfl rfl ?_
          refine j_get h iX1 8 (fx_c8 _ _ _ σ) rfl 7 (by decide) tb1_213 rfl (v := .int (σ.1 16)) rfl dX1_isThere_50 ?_
          refine j_if_eq h dX1_isThere_53 (tgt := 79) (by decide) (fun c1005 => ?_) (fun c1005 => ?_)
          ·
            refine j_iconst h (v := 0) dX1_isThere_79 (by decide) ?_
            subst hq1002 hq1003
            have E : gfX1_isThere (n + 1) σ x1 x2 = 0 := j_ig c1001 (j_ip c1004 (j_ip c1005 rfl))
            exact j_zreturn h hr (by decide) E.symm rfl dX1_isThere_80
          ·
            refine j_iload_n h 1 dX1_isThere_56 rfl rfl ?_
            refine j_aload_n h 2 dX1_isThere_57 rfl rfl ?_
            refine j_get h iX1 8 (fx_c8 _ _ _ σ) rfl 0 (by decide) tb1_202 rfl (v := .ref (a 1)) rfl dX1_isThere_58 ?_
            refine j_aload_n h 2 dX1_isThere_61 rfl rfl ?_
            refine j_get h iX1 8 (fx_c8 _ _ _ σ) rfl 1 (by decide) tb1_203 rfl (v := .ref (a 2)) rfl dX1_isThere_62 ?_
            refine j_iload_n h 0 dX1_isThere_65 rfl rfl ?_
            refine j_callVi h (kX3_kindOf l D a cI cZ σ q1002) tb2_239 tb3_0 tb3_1 tb1_4 tb3_2 ⟨rfl, rfl⟩ (n := 1) (by decide +kernel) ⟨Nat.le_of_ble_eq_true rfl, Nat.le_of_ble_eq_true rfl⟩ (As := [.int q1002]) rfl (ci := 3) (q0 := 2) rfl (fx_c2 _ _ _ σ) (st := [.ref (a 1), .int x2]) rfl (Nat.le_of_ble_eq_true rfl) dX1_isThere_66 ⟨Nat.zero_le _, Nat.zero_le _⟩ ?_
            generalize hq1006 : (fX3_kindOf σ q1002) = q1006
            refine j_callVi h (kX4_behindWhichReady l D a cI cZ σ q1006) tb3_83 tb3_84 tb3_85 tb1_2 tb3_86 ⟨rfl, rfl⟩ (n := 1) (by decide +kernel) ⟨Nat.le_of_ble_eq_true rfl, Nat.le_of_ble_eq_true rfl⟩ (As := [.int q1006]) rfl (ci := 4) (q0 := 1) rfl (fx_c1 _ _ _ σ) (st := [.int x2]) rfl (Nat.le_of_ble_eq_true rfl) dX1_isThere_69 ⟨Nat.zero_le _, Nat.zero_le _⟩ ?_
            generalize hq1007 : (fX4_behindWhichReady σ q1006) = q1007
            refine j_icmp_le h dX1_isThere_72 (tgt := 79) (by decide) (fun c1008 => ?_) (fun c1008 => ?_)
            ·
              refine j_iconst h (v := 0) dX1_isThere_79 (by decide) ?_
              subst hq1002 hq1003 hq1006 hq1007
              have E : gfX1_isThere (n + 1) σ x1 x2 = 0 := j_ig c1001 (j_ip c1004 (j_ig c1005 (j_ip c1008 rfl)))
              exact j_zreturn h hr (by decide) E.symm rfl dX1_isThere_80
            ·
              refine j_iconst h (v := 1) dX1_isThere_75 (by decide) ?_
              refine j_goto h dX1_isThere_76 (tgt := 80) (by decide) ?_
              subst hq1002 hq1003 hq1006 hq1007
              have E : gfX1_isThere (n + 1) σ x1 x2 = 1 := j_ig c1001 (j_ip c1004 (j_ig c1005 (j_ig c1008 rfl)))
              exact j_zreturn h hr (by decide) E.symm rfl dX1_isThere_80
  refine j_iload_n h 1 dX1_isThere_0 rfl rfl ?_
  refine j_iconst h (v := (-1)) dX1_isThere_1 (by decide) ?_
  refine j_icmp_ne h dX1_isThere_2 (tgt := 7) (by decide) (fun c1 => ?_) (fun c1 => ?_)
  ·
    refine j_aload_n h 0 dX1_isThere_7 rfl rfl ?_
    refine j_get h iX1 8 (fx_c8 _ _ _ σ) rfl 0 (by decide) tb1_202 rfl (v := .ref (a 1)) rfl dX1_isThere_8 ?_
    refine j_get h iX4 1 (fx_c1 _ _ _ σ) rfl 1 (by decide) tb1_43 rfl (v := .int (σ.1 1)) rfl dX1_isThere_11 ?_
    refine j_iconst h (v := 1) dX1_isThere_14 (by decide) ?_
    refine j_iadd h dX1_isThere_15 ?_
    refine j_istore_n h (lv' := [(2, .int ((σ.1 1) + 1)), (0, .ref (a 8)), (1, .int x1)]) dX1_isThere_16 rfl (by decide) rfl ?_
    have E : fX1_isThere σ x1 = gfX1_isThere 9 σ x1 ((σ.1 1) + 1) := j_ig c1 rfl
    rw [E]
    refine j_lv [0, 1, 2] rfl ?_
    exact loop 9 σ ((σ.1 1) + 1) hs.there.1 hs.there.2.1
  ·
    refine j_iconst h (v := 1) dX1_isThere_5 (by decide) ?_
    have E : fX1_isThere σ x1 = 1 := j_ip c1 rfl
    exact j_zreturn h hr (by decide) E.symm rfl dX1_isThere_6
def fX1_isReady (σ : St) (x1 : Int32) : Int32 := (let q1 := (fX3_firstRead σ x1); (let q2 := (fX1_isThere σ q1); (if q2 = 0 then 0 else (let q4 := (fX3_secondRead σ x1); (let q5 := (fX1_isThere σ q4); (if q5 = 0 then 0 else 1))))))
def rmX1_isReady : Room := { frames := 2, cells := 0, slots := 0, locals := 44 }
set_option maxRecDepth 100000 in
set_option maxHeartbeats 4000000 in
theorem kX1_isReady (l : Launch) (D : va_G) (a : Nat → Nat) (cI cZ : ClassId) (σ : St) (x1 : Int32) (hs : shp σ) : Ci l yX1_isReady cX1_isReady 2 (some .boolean) TB rmX1_isReady D vwCl [(cI, .int), (cZ, .boolean)] [.ref (a 8), .int x1] (fx a cI cZ σ) (fx a cI cZ σ) (fX1_isReady σ x1) := by
  refine Ci_of (cc := cX1_isReady) (maxL := 2) (ret := (some .boolean)) (by decide +kernel) TBg (Nat.le_of_ble_eq_true rfl) ?_
  intro p e s m args below meth c A h hr
  refine j_aload_n h 0 dX1_isReady_0 rfl rfl ?_
  refine j_aload_n h 0 dX1_isReady_1 rfl rfl ?_
  refine j_get h iX1 8 (fx_c8 _ _ _ σ) rfl 1 (by decide) tb1_203 rfl (v := .ref (a 2)) rfl dX1_isReady_2 ?_
  refine j_iload_n h 1 dX1_isReady_5 rfl rfl ?_
  refine j_callVi h (kX3_firstRead l D a cI cZ σ x1) tb3_77 tb3_22 tb3_23 tb1_4 tb3_24 ⟨rfl, rfl⟩ (n := 1) (by decide +kernel) ⟨Nat.le_of_ble_eq_true rfl, Nat.le_of_ble_eq_true rfl⟩ (As := [.int x1]) rfl (ci := 3) (q0 := 2) rfl (fx_c2 _ _ _ σ) (st := [.ref (a 8)]) rfl (Nat.le_of_ble_eq_true rfl) dX1_isReady_6 ⟨Nat.zero_le _, Nat.zero_le _⟩ ?_
  generalize hq1 : (fX3_firstRead σ x1) = q1
  refine j_callVi h (kX1_isThere l D a cI cZ σ q1 hs) tb3_78 tb3_80 tp_10 tb1_5 tb3_81 ⟨rfl, rfl⟩ (n := 1) (by decide +kernel) ⟨Nat.le_of_ble_eq_true rfl, Nat.le_of_ble_eq_true rfl⟩ (As := [.int q1]) rfl (ci := 1) (q0 := 8) rfl (fx_c8 _ _ _ σ) (st := []) rfl (Nat.le_of_ble_eq_true rfl) dX1_isReady_9 ⟨Nat.zero_le _, Nat.zero_le _⟩ ?_
  generalize hq2 : (fX1_isThere σ q1) = q2
  refine j_if_eq h dX1_isReady_12 (tgt := 34) (by decide) (fun c3 => ?_) (fun c3 => ?_)
  ·
    refine j_iconst h (v := 0) dX1_isReady_34 (by decide) ?_
    subst hq1 hq2
    have E : fX1_isReady σ x1 = 0 := j_ip c3 rfl
    exact j_zreturn h hr (by decide) E.symm rfl dX1_isReady_35
  ·
    refine j_aload_n h 0 dX1_isReady_15 rfl rfl ?_
    refine j_aload_n h 0 dX1_isReady_16 rfl rfl ?_
    refine j_get h iX1 8 (fx_c8 _ _ _ σ) rfl 1 (by decide) tb1_203 rfl (v := .ref (a 2)) rfl dX1_isReady_17 ?_
    refine j_iload_n h 1 dX1_isReady_20 rfl rfl ?_
    refine j_callVi h (kX3_secondRead l D a cI cZ σ x1) tb3_87 tb3_30 tb3_31 tb1_4 tb3_32 ⟨rfl, rfl⟩ (n := 1) (by decide +kernel) ⟨Nat.le_of_ble_eq_true rfl, Nat.le_of_ble_eq_true rfl⟩ (As := [.int x1]) rfl (ci := 3) (q0 := 2) rfl (fx_c2 _ _ _ σ) (st := [.ref (a 8)]) rfl (Nat.le_of_ble_eq_true rfl) dX1_isReady_21 ⟨Nat.zero_le _, Nat.zero_le _⟩ ?_
    generalize hq4 : (fX3_secondRead σ x1) = q4
    refine j_callVi h (kX1_isThere l D a cI cZ σ q4 hs) tb3_78 tb3_80 tp_10 tb1_5 tb3_81 ⟨rfl, rfl⟩ (n := 1) (by decide +kernel) ⟨Nat.le_of_ble_eq_true rfl, Nat.le_of_ble_eq_true rfl⟩ (As := [.int q4]) rfl (ci := 1) (q0 := 8) rfl (fx_c8 _ _ _ σ) (st := []) rfl (Nat.le_of_ble_eq_true rfl) dX1_isReady_24 ⟨Nat.zero_le _, Nat.zero_le _⟩ ?_
    generalize hq5 : (fX1_isThere σ q4) = q5
    refine j_if_eq h dX1_isReady_27 (tgt := 34) (by decide) (fun c6 => ?_) (fun c6 => ?_)
    ·
      refine j_iconst h (v := 0) dX1_isReady_34 (by decide) ?_
      subst hq1 hq2 hq4 hq5
      have E : fX1_isReady σ x1 = 0 := j_ig c3 (j_ip c6 rfl)
      exact j_zreturn h hr (by decide) E.symm rfl dX1_isReady_35
    ·
      refine j_iconst h (v := 1) dX1_isReady_30 (by decide) ?_
      refine j_goto h dX1_isReady_31 (tgt := 35) (by decide) ?_
      subst hq1 hq2 hq4 hq5
      have E : fX1_isReady σ x1 = 1 := j_ig c3 (j_ig c6 rfl)
      exact j_zreturn h hr (by decide) E.symm rfl dX1_isReady_35
def fX1_work (σ : St) (x1 : Int32) : Int32 × St := (if (σ.1 22) = 0 then (let q7 := (fX1_isReady σ x1); (if q7 = 0 then (2, σ) else (let q9 := (fX3_kindOf σ x1); (let q10 := (fX4_cyclesToWork σ q9); (if q10 ≤ (σ.1 22) then (4, σ) else (if q10 ≤ ((σ.1 22) + 1) then (4, (sg σ 22 ((σ.1 22) + 1))) else (3, (sg σ 22 ((σ.1 22) + 1))))))))) else (let q2 := (fX3_kindOf σ x1); (let q3 := (fX4_cyclesToWork σ q2); (if q3 ≤ (σ.1 22) then (4, σ) else (if q3 ≤ ((σ.1 22) + 1) then (4, (sg σ 22 ((σ.1 22) + 1))) else (3, (sg σ 22 ((σ.1 22) + 1))))))))
def rmX1_work : Room := { frames := 3, cells := 0, slots := 0, locals := 65 }
set_option maxRecDepth 100000 in
set_option maxHeartbeats 4000000 in
theorem kX1_work (l : Launch) (D : va_G) (a : Nat → Nat) (cI cZ : ClassId) (σ : St) (x1 : Int32) (hs : shp σ) : Ci l yX1_work cX1_work 3 (some .int) TB rmX1_work D vwCl [(cI, .int), (cZ, .boolean)] [.ref (a 8), .int x1] (fx a cI cZ σ) (fx a cI cZ (fX1_work σ x1).2) (fX1_work σ x1).1 := by
  refine Ci_of (cc := cX1_work) (maxL := 3) (ret := (some .int)) (by decide +kernel) TBg (Nat.le_of_ble_eq_true rfl) ?_
  intro p e s m args below meth c A h hr
  refine j_aload_n h 0 dX1_work_0 rfl rfl ?_
  refine j_get h iX1 8 (fx_c8 _ _ _ σ) rfl 13 (by decide) tb1_221 rfl (v := .int (σ.1 22)) rfl dX1_work_1 ?_
  refine j_if_ne h dX1_work_4 (tgt := 17) (by decide) (fun c1 => ?_) (fun c1 => ?_)
  ·
    refine j_aload_n h 0 dX1_work_17 rfl rfl ?_
    refine j_get h iX1 8 (fx_c8 _ _ _ σ) rfl 0 (by decide) tb1_202 rfl (v := .ref (a 1)) rfl dX1_work_18 ?_
    refine j_aload_n h 0 dX1_work_21 rfl rfl ?_
    refine j_get h iX1 8 (fx_c8 _ _ _ σ) rfl 1 (by decide) tb1_203 rfl (v := .ref (a 2)) rfl dX1_work_22 ?_
    refine j_iload_n h 1 dX1_work_25 rfl rfl ?_
    refine j_callVi h (kX3_kindOf l D a cI cZ σ x1) tb2_239 tb3_0 tb3_1 tb1_4 tb3_2 ⟨rfl, rfl⟩ (n := 1) (by decide +kernel) ⟨Nat.le_of_ble_eq_true rfl, Nat.le_of_ble_eq_true rfl⟩ (As := [.int x1]) rfl (ci := 3) (q0 := 2) rfl (fx_c2 _ _ _ σ) (st := [.ref (a 1)]) rfl (Nat.le_of_ble_eq_true rfl) dX1_work_26 ⟨Nat.zero_le _, Nat.zero_le _⟩ ?_
    generalize hq2 : (fX3_kindOf σ x1) = q2
    refine j_callVi h (kX4_cyclesToWork l D a cI cZ σ q2) tb3_88 tb3_89 tb3_90 tb1_2 tb3_91 ⟨rfl, rfl⟩ (n := 1) (by decide +kernel) ⟨Nat.le_of_ble_eq_true rfl, Nat.le_of_ble_eq_true rfl⟩ (As := [.int q2]) rfl (ci := 4) (q0 := 1) rfl (fx_c1 _ _ _ σ) (st := []) rfl (Nat.le_of_ble_eq_true rfl) dX1_work_29 ⟨Nat.zero_le _, Nat.zero_le _⟩ ?_
    generalize hq3 : (fX4_cyclesToWork σ q2) = q3
    refine j_istore_n h (lv' := [(2, .int q3), (0, .ref (a 8)), (1, .int x1)]) dX1_work_32 rfl (by decide) rfl ?_
    refine j_aload_n h 1 dX1_work_33 rfl rfl ?_
    refine j_get h iX1 8 (fx_c8 _ _ _ σ) rfl 13 (by decide) tb1_221 rfl (v := .int (σ.1 22)) rfl dX1_work_34 ?_
    refine j_iload_n h 0 dX1_work_37 rfl rfl ?_
    refine j_icmp_ge h dX1_work_38 (tgt := 51) (by decide) (fun c4 => ?_) (fun c4 => ?_)
    ·
      refine j_aload_n h 1 dX1_work_51 rfl rfl ?_
      refine j_get h iX1 8 (fx_c8 _ _ _ σ) rfl 13 (by decide) tb1_221 rfl (v := .int (σ.1 22)) rfl dX1_work_52 ?_
      refine j_iload_n h 0 dX1_work_55 rfl rfl ?_
      refine j_icmp_ge h dX1_work_56 (tgt := 63) (by decide) (fun c5 => ?_) (fun c5 => ?_)
      ·
        refine j_iconst h (v := 4) dX1_work_63 (by decide) ?_
        subst hq2 hq3
        have E : fX1_work σ x1 = (4, σ) := j_ig c1 (j_ip c4 rfl)
        exact j_ireturn h hr (congrArg Prod.fst E).symm (congrArg (fun z => fx a cI cZ z.2) E).symm dX1_work_64
      ·
        exact absurd c4 c5
    ·
      refine j_aload_n h 1 dX1_work_41 rfl rfl ?_
      refine j_dup h dX1_work_42 rfl ?_
      refine j_get h iX1 8 (fx_c8 _ _ _ σ) rfl 13 (by decide) tb1_221 rfl (v := .int (σ.1 22)) rfl dX1_work_43 ?_
      refine j_iconst h (v := 1) dX1_work_46 (by decide) ?_
      refine j_iadd h dX1_work_47 ?_
      refine j_put h iX1 tyX1 tyX1_ok nmX1 8 (fx_c8 _ _ _ σ) rfl 13 (by decide) tb1_221 rfl rfl rfl rfl (Nat.le_of_ble_eq_true rfl) (w' := (fx a cI cZ (sg σ 22 ((σ.1 22) + 1)))) (fx_p8_13 _ _ _ σ _) dX1_work_48 ?_
      refine j_aload_n h 1 dX1_work_51 rfl rfl ?_
      refine j_get h iX1 8 (fx_c8 _ _ _ (sg σ 22 ((σ.1 22) + 1))) rfl 13 (by decide) tb1_221 rfl (v := .int ((σ.1 22) + 1)) rfl dX1_work_52 ?_
      refine j_iload_n h 0 dX1_work_55 rfl rfl ?_
      refine j_icmp_ge h dX1_work_56 (tgt := 63) (by decide) (fun c6 => ?_) (fun c6 => ?_)
      ·
        refine j_iconst h (v := 4) dX1_work_63 (by decide) ?_
        subst hq2 hq3
        have E : fX1_work σ x1 = (4, (sg σ 22 ((σ.1 22) + 1))) := j_ig c1 (j_ig c4 (j_ip c6 rfl))
        exact j_ireturn h hr (congrArg Prod.fst E).symm (congrArg (fun z => fx a cI cZ z.2) E).symm dX1_work_64
      ·
        refine j_iconst h (v := 3) dX1_work_59 (by decide) ?_
        refine j_goto h dX1_work_60 (tgt := 64) (by decide) ?_
        subst hq2 hq3
        have E : fX1_work σ x1 = (3, (sg σ 22 ((σ.1 22) + 1))) := j_ig c1 (j_ig c4 (j_ig c6 rfl))
        exact j_ireturn h hr (congrArg Prod.fst E).symm (congrArg (fun z => fx a cI cZ z.2) E).symm dX1_work_64
  ·
    refine j_aload_n h 0 dX1_work_7 rfl rfl ?_
    refine j_iload_n h 1 dX1_work_8 rfl rfl ?_
    refine j_callVi h (kX1_isReady l D a cI cZ σ x1 hs) tb3_73 tb3_75 tp_9 tb1_5 tb3_76 ⟨rfl, rfl⟩ (n := 1) (by decide +kernel) ⟨Nat.le_of_ble_eq_true rfl, Nat.le_of_ble_eq_true rfl⟩ (As := [.int x1]) rfl (ci := 1) (q0 := 8) rfl (fx_c8 _ _ _ σ) (st := []) rfl (Nat.le_of_ble_eq_true rfl) dX1_work_9 ⟨Nat.zero_le _, Nat.zero_le _⟩ ?_
    generalize hq7 : (fX1_isReady σ x1) = q7
    refine j_if_ne h dX1_work_12 (tgt := 17) (by decide) (fun c8 => ?_) (fun c8 => ?_)
    ·
      refine j_aload_n h 0 dX1_work_17 rfl rfl ?_
      refine j_get h iX1 8 (fx_c8 _ _ _ σ) rfl 0 (by decide) tb1_202 rfl (v := .ref (a 1)) rfl dX1_work_18 ?_
      refine j_aload_n h 0 dX1_work_21 rfl rfl ?_
      refine j_get h iX1 8 (fx_c8 _ _ _ σ) rfl 1 (by decide) tb1_203 rfl (v := .ref (a 2)) rfl dX1_work_22 ?_
      refine j_iload_n h 1 dX1_work_25 rfl rfl ?_
      refine j_callVi h (kX3_kindOf l D a cI cZ σ x1) tb2_239 tb3_0 tb3_1 tb1_4 tb3_2 ⟨rfl, rfl⟩ (n := 1) (by decide +kernel) ⟨Nat.le_of_ble_eq_true rfl, Nat.le_of_ble_eq_true rfl⟩ (As := [.int x1]) rfl (ci := 3) (q0 := 2) rfl (fx_c2 _ _ _ σ) (st := [.ref (a 1)]) rfl (Nat.le_of_ble_eq_true rfl) dX1_work_26 ⟨Nat.zero_le _, Nat.zero_le _⟩ ?_
      generalize hq9 : (fX3_kindOf σ x1) = q9
      refine j_callVi h (kX4_cyclesToWork l D a cI cZ σ q9) tb3_88 tb3_89 tb3_90 tb1_2 tb3_91 ⟨rfl, rfl⟩ (n := 1) (by decide +kernel) ⟨Nat.le_of_ble_eq_true rfl, Nat.le_of_ble_eq_true rfl⟩ (As := [.int q9]) rfl (ci := 4) (q0 := 1) rfl (fx_c1 _ _ _ σ) (st := []) rfl (Nat.le_of_ble_eq_true rfl) dX1_work_29 ⟨Nat.zero_le _, Nat.zero_le _⟩ ?_
      generalize hq10 : (fX4_cyclesToWork σ q9) = q10
      refine j_istore_n h (lv' := [(2, .int q10), (0, .ref (a 8)), (1, .int x1)]) dX1_work_32 rfl (by decide) rfl ?_
      refine j_aload_n h 1 dX1_work_33 rfl rfl ?_
      refine j_get h iX1 8 (fx_c8 _ _ _ σ) rfl 13 (by decide) tb1_221 rfl (v := .int (σ.1 22)) rfl dX1_work_34 ?_
      refine j_iload_n h 0 dX1_work_37 rfl rfl ?_
      refine j_icmp_ge h dX1_work_38 (tgt := 51) (by decide) (fun c11 => ?_) (fun c11 => ?_)
      ·
        refine j_aload_n h 1 dX1_work_51 rfl rfl ?_
        refine j_get h iX1 8 (fx_c8 _ _ _ σ) rfl 13 (by decide) tb1_221 rfl (v := .int (σ.1 22)) rfl dX1_work_52 ?_
        refine j_iload_n h 0 dX1_work_55 rfl rfl ?_
        refine j_icmp_ge h dX1_work_56 (tgt := 63) (by decide) (fun c12 => ?_) (fun c12 => ?_)
        ·
          refine j_iconst h (v := 4) dX1_work_63 (by decide) ?_
          subst hq7 hq9 hq10
          have E : fX1_work σ x1 = (4, σ) := j_ip c1 (j_ig c8 (j_ip c11 rfl))
          exact j_ireturn h hr (congrArg Prod.fst E).symm (congrArg (fun z => fx a cI cZ z.2) E).symm dX1_work_64
        ·
          exact absurd c11 c12
      ·
        refine j_aload_n h 1 dX1_work_41 rfl rfl ?_
        refine j_dup h dX1_work_42 rfl ?_
        refine j_get h iX1 8 (fx_c8 _ _ _ σ) rfl 13 (by decide) tb1_221 rfl (v := .int (σ.1 22)) rfl dX1_work_43 ?_
        refine j_iconst h (v := 1) dX1_work_46 (by decide) ?_
        refine j_iadd h dX1_work_47 ?_
        refine j_put h iX1 tyX1 tyX1_ok nmX1 8 (fx_c8 _ _ _ σ) rfl 13 (by decide) tb1_221 rfl rfl rfl rfl (Nat.le_of_ble_eq_true rfl) (w' := (fx a cI cZ (sg σ 22 ((σ.1 22) + 1)))) (fx_p8_13 _ _ _ σ _) dX1_work_48 ?_
        refine j_aload_n h 1 dX1_work_51 rfl rfl ?_
        refine j_get h iX1 8 (fx_c8 _ _ _ (sg σ 22 ((σ.1 22) + 1))) rfl 13 (by decide) tb1_221 rfl (v := .int ((σ.1 22) + 1)) rfl dX1_work_52 ?_
        refine j_iload_n h 0 dX1_work_55 rfl rfl ?_
        refine j_icmp_ge h dX1_work_56 (tgt := 63) (by decide) (fun c13 => ?_) (fun c13 => ?_)
        ·
          refine j_iconst h (v := 4) dX1_work_63 (by decide) ?_
          subst hq7 hq9 hq10
          have E : fX1_work σ x1 = (4, (sg σ 22 ((σ.1 22) + 1))) := j_ip c1 (j_ig c8 (j_ig c11 (j_ip c13 rfl)))
          exact j_ireturn h hr (congrArg Prod.fst E).symm (congrArg (fun z => fx a cI cZ z.2) E).symm dX1_work_64
        ·
          refine j_iconst h (v := 3) dX1_work_59 (by decide) ?_
          refine j_goto h dX1_work_60 (tgt := 64) (by decide) ?_
          subst hq7 hq9 hq10
          have E : fX1_work σ x1 = (3, (sg σ 22 ((σ.1 22) + 1))) := j_ip c1 (j_ig c8 (j_ig c11 (j_ig c13 rfl)))
          exact j_ireturn h hr (congrArg Prod.fst E).symm (congrArg (fun z => fx a cI cZ z.2) E).symm dX1_work_64
    ·
      refine j_iconst h (v := 2) dX1_work_15 (by decide) ?_
      subst hq7
      have E : fX1_work σ x1 = (2, σ) := j_ip c1 (j_ip c8 rfl)
      exact j_ireturn h hr (congrArg Prod.fst E).symm (congrArg (fun z => fx a cI cZ z.2) E).symm dX1_work_16
theorem fr_fX1_work (σ : St) (x1 : Int32) : Fr (fX1_work σ x1).2 σ := by
  by_cases c0 : (σ.1 22) = 0
  ·
    by_cases c1 : (fX1_isReady σ x1) = 0
    ·
      have E : fX1_work σ x1 = (2, σ) := j_ip c0 (j_ip c1 rfl)
      rw [E]
      exact (Fr.rf _)
    ·
      by_cases c2 : (fX4_cyclesToWork σ (fX3_kindOf σ x1)) ≤ (σ.1 22)
      ·
        have E : fX1_work σ x1 = (4, σ) := j_ip c0 (j_ig c1 (j_ip c2 rfl))
        rw [E]
        exact (Fr.rf _)
      ·
        by_cases c3 : (fX4_cyclesToWork σ (fX3_kindOf σ x1)) ≤ ((σ.1 22) + 1)
        ·
          have E : fX1_work σ x1 = (4, (sg σ 22 ((σ.1 22) + 1))) := j_ip c0 (j_ig c1 (j_ig c2 (j_ip c3 rfl)))
          rw [E]
          exact (Fr.tr (Fr.sg (by decide)) (Fr.rf _))
        ·
          have E : fX1_work σ x1 = (3, (sg σ 22 ((σ.1 22) + 1))) := j_ip c0 (j_ig c1 (j_ig c2 (j_ig c3 rfl)))
          rw [E]
          exact (Fr.tr (Fr.sg (by decide)) (Fr.rf _))
  ·
    by_cases c1 : (fX4_cyclesToWork σ (fX3_kindOf σ x1)) ≤ (σ.1 22)
    ·
      have E : fX1_work σ x1 = (4, σ) := j_ig c0 (j_ip c1 rfl)
      rw [E]
      exact (Fr.rf _)
    ·
      by_cases c2 : (fX4_cyclesToWork σ (fX3_kindOf σ x1)) ≤ ((σ.1 22) + 1)
      ·
        have E : fX1_work σ x1 = (4, (sg σ 22 ((σ.1 22) + 1))) := j_ig c0 (j_ig c1 (j_ip c2 rfl))
        rw [E]
        exact (Fr.tr (Fr.sg (by decide)) (Fr.rf _))
      ·
        have E : fX1_work σ x1 = (3, (sg σ 22 ((σ.1 22) + 1))) := j_ig c0 (j_ig c1 (j_ig c2 rfl))
        rw [E]
        exact (Fr.tr (Fr.sg (by decide)) (Fr.rf _))
def fX1_squashAndGoTo (σ : St) (x1 x2 : Int32) : St := (let q1 := (fX5_squashBelow σ x1); (let q2 := (fX3_wordAt (sg q1.2 12 ((σ.1 12) + q1.1)) x2); (sg (sg (sg (sg q1.2 12 ((σ.1 12) + q1.1)) 18 q2) 19 0) 21 1)))
def rmX1_squashAndGoTo : Room := { frames := 2, cells := 0, slots := 0, locals := 47 }
set_option maxRecDepth 100000 in
set_option maxHeartbeats 4000000 in
theorem kX1_squashAndGoTo (l : Launch) (D : va_G) (a : Nat → Nat) (cI cZ : ClassId) (σ : St) (x1 x2 : Int32) : Cv l yX1_squashAndGoTo cX1_squashAndGoTo 3 none TB rmX1_squashAndGoTo D vwCl [(cI, .int), (cZ, .boolean)] [.ref (a 8), .int x1, .int x2] (fx a cI cZ σ) (fun _ => (fx a cI cZ (fX1_squashAndGoTo σ x1 x2))) 0 0 := by
  refine Cv_of (cc := cX1_squashAndGoTo) (maxL := 3) (ret := none) (by decide +kernel) TBg (Nat.le_of_ble_eq_true rfl) ?_
  intro p e s m args below meth c A h hr hname
  refine j_aload_n h 0 dX1_squashAndGoTo_0 rfl rfl ?_
  refine j_get h iX1 8 (fx_c8 _ _ _ σ) rfl 4 (by decide) tb1_208 rfl (v := .ref (a 17)) rfl dX1_squashAndGoTo_1 ?_
  refine j_dup h dX1_squashAndGoTo_4 rfl ?_
  refine j_get h iX6 17 (fx_c17 _ _ _ σ) rfl 4 (by decide) tb1_158 rfl (v := .int (σ.1 12)) rfl dX1_squashAndGoTo_5 ?_
  refine j_aload_n h 0 dX1_squashAndGoTo_8 rfl rfl ?_
  refine j_get h iX1 8 (fx_c8 _ _ _ σ) rfl 2 (by decide) tb1_204 rfl (v := .ref (a 9)) rfl dX1_squashAndGoTo_9 ?_
  refine j_iload_n h 1 dX1_squashAndGoTo_12 rfl rfl ?_
  refine j_callVi h (kX5_squashBelow l D a cI cZ σ x1) tb3_7 tb2_38 tb2_39 tb1_6 tb2_40 ⟨rfl, rfl⟩ (n := 1) (by decide +kernel) ⟨Nat.le_of_ble_eq_true rfl, Nat.le_of_ble_eq_true rfl⟩ (As := [.int x1]) rfl (ci := 5) (q0 := 9) rfl (fx_c9 _ _ _ σ) (st := [.int (σ.1 12), .ref (a 17)]) rfl (Nat.le_of_ble_eq_true rfl) dX1_squashAndGoTo_13 ⟨Nat.zero_le _, Nat.zero_le _⟩ ?_
  generalize hq1 : (fX5_squashBelow σ x1) = q1
  refine j_iadd h dX1_squashAndGoTo_16 ?_
  refine j_put h iX6 tyX6 tyX6_ok nmX6 17 (fx_c17 _ _ _ q1.2) rfl 4 (by decide) tb1_158 rfl rfl rfl rfl (Nat.le_of_ble_eq_true rfl) (w' := (fx a cI cZ (sg q1.2 12 ((σ.1 12) + q1.1)))) (fx_p17_4 _ _ _ q1.2 _) dX1_squashAndGoTo_17 ?_
  refine j_aload_n h 0 dX1_squashAndGoTo_20 rfl rfl ?_
  refine j_aload_n h 0 dX1_squashAndGoTo_21 rfl rfl ?_
  refine j_get h iX1 8 (fx_c8 _ _ _ (sg q1.2 12 ((σ.1 12) + q1.1))) rfl 1 (by decide) tb1_203 rfl (v := .ref (a 2)) rfl dX1_squashAndGoTo_22 ?_
  refine j_iload_n h 2 dX1_squashAndGoTo_25 rfl rfl ?_
  refine j_callVi h (kX3_wordAt l D a cI cZ (sg q1.2 12 ((σ.1 12) + q1.1)) x2) tb3_8 tb3_9 tb3_10 tb1_4 tb3_11 ⟨rfl, rfl⟩ (n := 1) (by decide +kernel) ⟨Nat.le_of_ble_eq_true rfl, Nat.le_of_ble_eq_true rfl⟩ (As := [.int x2]) rfl (ci := 3) (q0 := 2) rfl (fx_c2 _ _ _ (sg q1.2 12 ((σ.1 12) + q1.1))) (st := [.ref (a 8)]) rfl (Nat.le_of_ble_eq_true rfl) dX1_squashAndGoTo_26 ⟨Nat.zero_le _, Nat.zero_le _⟩ ?_
  generalize hq2 : (fX3_wordAt (sg q1.2 12 ((σ.1 12) + q1.1)) x2) = q2
  refine j_put h iX1 tyX1 tyX1_ok nmX1 8 (fx_c8 _ _ _ (sg q1.2 12 ((σ.1 12) + q1.1))) rfl 9 (by decide) tb1_217 rfl rfl rfl rfl (Nat.le_of_ble_eq_true rfl) (w' := (fx a cI cZ (sg (sg q1.2 12 ((σ.1 12) + q1.1)) 18 q2))) (fx_p8_9 _ _ _ (sg q1.2 12 ((σ.1 12) + q1.1)) _) dX1_squashAndGoTo_29 ?_
  refine j_aload_n h 0 dX1_squashAndGoTo_32 rfl rfl ?_
  refine j_iconst h (v := 0) dX1_squashAndGoTo_33 (by decide) ?_
  refine j_put h iX1 tyX1 tyX1_ok nmX1 8 (fx_c8 _ _ _ (sg (sg q1.2 12 ((σ.1 12) + q1.1)) 18 q2)) rfl 10 (by decide) tb1_218 rfl rfl rfl rfl (Nat.le_of_ble_eq_true rfl) (w' := (fx a cI cZ (sg (sg (sg q1.2 12 ((σ.1 12) + q1.1)) 18 q2) 19 0))) (fx_p8_10 _ _ _ (sg (sg q1.2 12 ((σ.1 12) + q1.1)) 18 q2) _) dX1_squashAndGoTo_34 ?_
  refine j_aload_n h 0 dX1_squashAndGoTo_37 rfl rfl ?_
  refine j_iconst h (v := 1) dX1_squashAndGoTo_38 (by decide) ?_
  refine j_put h iX1 tyX1 tyX1_ok nmX1 8 (fx_c8 _ _ _ (sg (sg (sg q1.2 12 ((σ.1 12) + q1.1)) 18 q2) 19 0)) rfl 12 (by decide) tb1_220 rfl rfl rfl rfl (Nat.le_of_ble_eq_true rfl) (w' := (fx a cI cZ (sg (sg (sg (sg q1.2 12 ((σ.1 12) + q1.1)) 18 q2) 19 0) 21 1))) (fx_p8_12 _ _ _ (sg (sg (sg q1.2 12 ((σ.1 12) + q1.1)) 18 q2) 19 0) _) dX1_squashAndGoTo_39 ?_
  subst hq1 hq2
  have E : fX1_squashAndGoTo σ x1 x2 = (sg (sg (sg (sg (fX5_squashBelow σ x1).2 12 ((σ.1 12) + (fX5_squashBelow σ x1).1)) 18 (fX3_wordAt (sg (fX5_squashBelow σ x1).2 12 ((σ.1 12) + (fX5_squashBelow σ x1).1)) x2)) 19 0) 21 1) := rfl
  exact j_vreturn h hr (fun _ => 0) (congrArg (fx a cI cZ) E).symm dX1_squashAndGoTo_42
theorem fr_fX1_squashAndGoTo (σ : St) (x1 x2 : Int32) : Fr (fX1_squashAndGoTo σ x1 x2) σ := by
  have E : fX1_squashAndGoTo σ x1 x2 = (sg (sg (sg (sg (fX5_squashBelow σ x1).2 12 ((σ.1 12) + (fX5_squashBelow σ x1).1)) 18 (fX3_wordAt (sg (fX5_squashBelow σ x1).2 12 ((σ.1 12) + (fX5_squashBelow σ x1).1)) x2)) 19 0) 21 1) := rfl
  rw [E]
  exact (Fr.tr (Fr.sg (by decide)) (Fr.tr (Fr.sg (by decide)) (Fr.tr (Fr.sg (by decide)) (Fr.tr (Fr.sg (by decide)) (Fr.tr (fr_fX5_squashBelow _ _) (Fr.rf _))))))
def fX1_takeBranch (σ : St) (x1 x2 : Int32) : St := (let q1 := (fX3_number (sg σ 14 ((σ.1 14) + 1)) x2); (let q2 := (fX1_squashAndGoTo (sg σ 14 ((σ.1 14) + 1)) x1 q1); q2))
def rmX1_takeBranch : Room := { frames := 3, cells := 0, slots := 0, locals := 69 }
set_option maxRecDepth 100000 in
set_option maxHeartbeats 4000000 in
theorem kX1_takeBranch (l : Launch) (D : va_G) (a : Nat → Nat) (cI cZ : ClassId) (σ : St) (x1 x2 : Int32) : Cv l yX1_takeBranch cX1_takeBranch 3 none TB rmX1_takeBranch D vwCl [(cI, .int), (cZ, .boolean)] [.ref (a 8), .int x1, .int x2] (fx a cI cZ σ) (fun _ => (fx a cI cZ (fX1_takeBranch σ x1 x2))) 0 0 := by
  refine Cv_of (cc := cX1_takeBranch) (maxL := 3) (ret := none) (by decide +kernel) TBg (Nat.le_of_ble_eq_true rfl) ?_
  intro p e s m args below meth c A h hr hname
  refine j_aload_n h 0 dX1_takeBranch_0 rfl rfl ?_
  refine j_get h iX1 8 (fx_c8 _ _ _ σ) rfl 4 (by decide) tb1_208 rfl (v := .ref (a 17)) rfl dX1_takeBranch_1 ?_
  refine j_dup h dX1_takeBranch_4 rfl ?_
  refine j_get h iX6 17 (fx_c17 _ _ _ σ) rfl 6 (by decide) tb1_164 rfl (v := .int (σ.1 14)) rfl dX1_takeBranch_5 ?_
  refine j_iconst h (v := 1) dX1_takeBranch_8 (by decide) ?_
  refine j_iadd h dX1_takeBranch_9 ?_
  refine j_put h iX6 tyX6 tyX6_ok nmX6 17 (fx_c17 _ _ _ σ) rfl 6 (by decide) tb1_164 rfl rfl rfl rfl (Nat.le_of_ble_eq_true rfl) (w' := (fx a cI cZ (sg σ 14 ((σ.1 14) + 1)))) (fx_p17_6 _ _ _ σ _) dX1_takeBranch_10 ?_
  refine j_aload_n h 0 dX1_takeBranch_13 rfl rfl ?_
  refine j_iload_n h 1 dX1_takeBranch_14 rfl rfl ?_
  refine j_aload_n h 0 dX1_takeBranch_15 rfl rfl ?_
  refine j_get h iX1 8 (fx_c8 _ _ _ (sg σ 14 ((σ.1 14) + 1))) rfl 1 (by decide) tb1_203 rfl (v := .ref (a 2)) rfl dX1_takeBranch_16 ?_
  refine j_iload_n h 2 dX1_takeBranch_19 rfl rfl ?_
  refine j_callVi h (kX3_number l D a cI cZ (sg σ 14 ((σ.1 14) + 1)) x2) tb3_64 tb3_34 tb3_35 tb1_4 tb3_36 ⟨rfl, rfl⟩ (n := 1) (by decide +kernel) ⟨Nat.le_of_ble_eq_true rfl, Nat.le_of_ble_eq_true rfl⟩ (As := [.int x2]) rfl (ci := 3) (q0 := 2) rfl (fx_c2 _ _ _ (sg σ 14 ((σ.1 14) + 1))) (st := [.int x1, .ref (a 8)]) rfl (Nat.le_of_ble_eq_true rfl) dX1_takeBranch_20 ⟨Nat.zero_le _, Nat.zero_le _⟩ ?_
  generalize hq1 : (fX3_number (sg σ 14 ((σ.1 14) + 1)) x2) = q1
  refine j_callVv h (kX1_squashAndGoTo l D a cI cZ (sg σ 14 ((σ.1 14) + 1)) x1 q1) tb3_3 tb3_5 tp_2 tb1_5 tb3_6 ⟨rfl, rfl⟩ (n := 2) (by decide +kernel) ⟨Nat.le_of_ble_eq_true rfl, Nat.le_of_ble_eq_true rfl⟩ (As := [.int x1, .int q1]) rfl (ci := 1) (q0 := 8) rfl (fx_c8 _ _ _ (sg σ 14 ((σ.1 14) + 1))) (st := []) rfl (Nat.le_of_ble_eq_true rfl) dX1_takeBranch_23 ⟨Nat.zero_le _, Nat.zero_le _⟩ ?_
  generalize hq2 : (fX1_squashAndGoTo (sg σ 14 ((σ.1 14) + 1)) x1 q1) = q2
  subst hq1 hq2
  have E : fX1_takeBranch σ x1 x2 = (fX1_squashAndGoTo (sg σ 14 ((σ.1 14) + 1)) x1 (fX3_number (sg σ 14 ((σ.1 14) + 1)) x2)) := rfl
  exact j_vreturn h hr (fun _ => 0) (congrArg (fx a cI cZ) E).symm dX1_takeBranch_26
theorem fr_fX1_takeBranch (σ : St) (x1 x2 : Int32) : Fr (fX1_takeBranch σ x1 x2) σ := by
  have E : fX1_takeBranch σ x1 x2 = (fX1_squashAndGoTo (sg σ 14 ((σ.1 14) + 1)) x1 (fX3_number (sg σ 14 ((σ.1 14) + 1)) x2)) := rfl
  rw [E]
  exact (Fr.tr (fr_fX1_squashAndGoTo _ _ _) (Fr.tr (Fr.sg (by decide)) (Fr.rf _)))
def fX1_commit (σ : St) (x1 : Int32) : St := (let q1 := (fX2_performL σ x1); (let q2 := (fX0_append (sg q1.2 10 ((q1.2.1 10) + 1)) x1 (q1.2.1 9) q1.1); (let q3 := (fX3_kindOf q2 x1); (if q3 = 6 then (sg q2 15 1) else q2))))
def rmX1_commit : Room := { frames := 3, cells := 0, slots := 0, locals := 69 }
set_option maxRecDepth 100000 in
set_option maxHeartbeats 4000000 in
theorem kX1_commit (l : Launch) (D : va_G) (a : Nat → Nat) (cI cZ : ClassId) (σ : St) (x1 : Int32) : Cv l yX1_commit cX1_commit 3 none TB rmX1_commit D vwCl [(cI, .int), (cZ, .boolean)] [.ref (a 8), .int x1] (fx a cI cZ σ) (fun _ => (fx a cI cZ (fX1_commit σ x1))) 0 0 := by
  refine Cv_of (cc := cX1_commit) (maxL := 3) (ret := none) (by decide +kernel) TBg (Nat.le_of_ble_eq_true rfl) ?_
  intro p e s m args below meth c A h hr hname
  refine j_aload_n h 0 dX1_commit_0 rfl rfl ?_
  refine j_get h iX1 8 (fx_c8 _ _ _ σ) rfl 6 (by decide) tb1_211 rfl (v := .ref (a 22)) rfl dX1_commit_1 ?_
  refine j_iload_n h 1 dX1_commit_4 rfl rfl ?_
  refine j_callVi h (kX2_performL l D a cI cZ σ x1) tb3_17 tb3_18 tb3_19 tb1_10 tb3_20 ⟨rfl, rfl⟩ (n := 1) (by decide +kernel) ⟨Nat.le_of_ble_eq_true rfl, Nat.le_of_ble_eq_true rfl⟩ (As := [.int x1]) rfl (ci := 2) (q0 := 22) rfl (fx_c22 _ _ _ σ) (st := []) rfl (Nat.le_of_ble_eq_true rfl) dX1_commit_5 ⟨Nat.zero_le _, Nat.zero_le _⟩ ?_
  generalize hq1 : (fX2_performL σ x1) = q1
  refine j_istore_n h (lv' := [(2, .int q1.1), (0, .ref (a 8)), (1, .int x1)]) dX1_commit_8 rfl (by decide) rfl ?_
  refine j_aload_n h 1 dX1_commit_9 rfl rfl ?_
  refine j_get h iX1 8 (fx_c8 _ _ _ q1.2) rfl 4 (by decide) tb1_208 rfl (v := .ref (a 17)) rfl dX1_commit_10 ?_
  refine j_dup h dX1_commit_13 rfl ?_
  refine j_get h iX6 17 (fx_c17 _ _ _ q1.2) rfl 2 (by decide) tb1_152 rfl (v := .int (q1.2.1 10)) rfl dX1_commit_14 ?_
  refine j_iconst h (v := 1) dX1_commit_17 (by decide) ?_
  refine j_iadd h dX1_commit_18 ?_
  refine j_put h iX6 tyX6 tyX6_ok nmX6 17 (fx_c17 _ _ _ q1.2) rfl 2 (by decide) tb1_152 rfl rfl rfl rfl (Nat.le_of_ble_eq_true rfl) (w' := (fx a cI cZ (sg q1.2 10 ((q1.2.1 10) + 1)))) (fx_p17_2 _ _ _ q1.2 _) dX1_commit_19 ?_
  refine j_aload_n h 1 dX1_commit_22 rfl rfl ?_
  refine j_get h iX1 8 (fx_c8 _ _ _ (sg q1.2 10 ((q1.2.1 10) + 1))) rfl 3 (by decide) tb1_206 rfl (v := .ref (a 13)) rfl dX1_commit_23 ?_
  refine j_iload_n h 2 dX1_commit_26 rfl rfl ?_
  refine j_aload_n h 1 dX1_commit_27 rfl rfl ?_
  refine j_get h iX1 8 (fx_c8 _ _ _ (sg q1.2 10 ((q1.2.1 10) + 1))) rfl 4 (by decide) tb1_208 rfl (v := .ref (a 17)) rfl dX1_commit_28 ?_
  refine j_get h iX6 17 (fx_c17 _ _ _ (sg q1.2 10 ((q1.2.1 10) + 1))) rfl 1 (by decide) tb1_150 rfl (v := .int (q1.2.1 9)) rfl dX1_commit_31 ?_
  refine j_iload_n h 0 dX1_commit_34 rfl rfl ?_
  refine j_callVv h (kX0_append l D a cI cZ (sg q1.2 10 ((q1.2.1 10) + 1)) x1 (q1.2.1 9) q1.1) tb3_55 tb3_56 tb3_57 tb1_8 tb3_58 ⟨rfl, rfl⟩ (n := 3) (by decide +kernel) ⟨Nat.le_of_ble_eq_true rfl, Nat.le_of_ble_eq_true rfl⟩ (As := [.int x1, .int (q1.2.1 9), .int q1.1]) rfl (ci := 0) (q0 := 13) rfl (fx_c13 _ _ _ (sg q1.2 10 ((q1.2.1 10) + 1))) (st := []) rfl (Nat.le_of_ble_eq_true rfl) dX1_commit_35 ⟨Nat.zero_le _, Nat.zero_le _⟩ ?_
  generalize hq2 : (fX0_append (sg q1.2 10 ((q1.2.1 10) + 1)) x1 (q1.2.1 9) q1.1) = q2
  refine j_aload_n h 1 dX1_commit_38 rfl rfl ?_
  refine j_get h iX1 8 (fx_c8 _ _ _ q2) rfl 1 (by decide) tb1_203 rfl (v := .ref (a 2)) rfl dX1_commit_39 ?_
  refine j_iload_n h 2 dX1_commit_42 rfl rfl ?_
  refine j_callVi h (kX3_kindOf l D a cI cZ q2 x1) tb2_239 tb3_0 tb3_1 tb1_4 tb3_2 ⟨rfl, rfl⟩ (n := 1) (by decide +kernel) ⟨Nat.le_of_ble_eq_true rfl, Nat.le_of_ble_eq_true rfl⟩ (As := [.int x1]) rfl (ci := 3) (q0 := 2) rfl (fx_c2 _ _ _ q2) (st := []) rfl (Nat.le_of_ble_eq_true rfl) dX1_commit_43 ⟨Nat.zero_le _, Nat.zero_le _⟩ ?_
  generalize hq3 : (fX3_kindOf q2 x1) = q3
  refine j_bipush h (v := 6) dX1_commit_46 (by decide) ?_
  refine j_icmp_ne h dX1_commit_48 (tgt := 59) (by decide) (fun c4 => ?_) (fun c4 => ?_)
  ·
    subst hq1 hq2 hq3
    have E : fX1_commit σ x1 = (fX0_append (sg (fX2_performL σ x1).2 10 (((fX2_performL σ x1).2.1 10) + 1)) x1 ((fX2_performL σ x1).2.1 9) (fX2_performL σ x1).1) := j_ig c4 rfl
    exact j_vreturn h hr (fun _ => 0) (congrArg (fx a cI cZ) E).symm dX1_commit_59
  ·
    refine j_aload_n h 1 dX1_commit_51 rfl rfl ?_
    refine j_get h iX1 8 (fx_c8 _ _ _ q2) rfl 4 (by decide) tb1_208 rfl (v := .ref (a 17)) rfl dX1_commit_52 ?_
    refine j_iconst h (v := 1) dX1_commit_55 (by decide) ?_
    refine j_put h iX6 tyX6 tyX6_ok nmX6 17 (fx_c17 _ _ _ q2) rfl 7 (by decide) tb1_167 rfl rfl rfl rfl (Nat.le_of_ble_eq_true rfl) (w' := (fx a cI cZ (sg q2 15 1))) (fx_p17_7 _ _ _ q2 _) dX1_commit_56 ?_
    subst hq1 hq2 hq3
    have E : fX1_commit σ x1 = (sg (fX0_append (sg (fX2_performL σ x1).2 10 (((fX2_performL σ x1).2.1 10) + 1)) x1 ((fX2_performL σ x1).2.1 9) (fX2_performL σ x1).1) 15 1) := j_ip c4 rfl
    exact j_vreturn h hr (fun _ => 0) (congrArg (fx a cI cZ) E).symm dX1_commit_59
theorem fr_fX1_commit (σ : St) (x1 : Int32) : Fr (fX1_commit σ x1) σ := by
  by_cases c0 : (fX3_kindOf (fX0_append (sg (fX2_performL σ x1).2 10 (((fX2_performL σ x1).2.1 10) + 1)) x1 ((fX2_performL σ x1).2.1 9) (fX2_performL σ x1).1) x1) = 6
  ·
    have E : fX1_commit σ x1 = (sg (fX0_append (sg (fX2_performL σ x1).2 10 (((fX2_performL σ x1).2.1 10) + 1)) x1 ((fX2_performL σ x1).2.1 9) (fX2_performL σ x1).1) 15 1) := j_ip c0 rfl
    rw [E]
    exact (Fr.tr (Fr.sg (by decide)) (Fr.tr (fr_fX0_append _ _ _ _) (Fr.tr (Fr.sg (by decide)) (Fr.tr (fr_fX2_performL _ _) (Fr.rf _)))))
  ·
    have E : fX1_commit σ x1 = (fX0_append (sg (fX2_performL σ x1).2 10 (((fX2_performL σ x1).2.1 10) + 1)) x1 ((fX2_performL σ x1).2.1 9) (fX2_performL σ x1).1) := j_ig c0 rfl
    rw [E]
    exact (Fr.tr (fr_fX0_append _ _ _ _) (Fr.tr (Fr.sg (by decide)) (Fr.tr (fr_fX2_performL _ _) (Fr.rf _))))
def fX1_leave (σ : St) : Int32 × St := (let q1 := (fX4_last σ); (let q2 := (fX5_wordIn σ q1); (if q2 = (-1) then (4, σ) else (let q4 := (fX5_isGoing σ q1); (let q5 := (fX5_empty σ q1); (let q6 := (fX3_kindOf q5 q2); (if q6 = 5 then (let q12 := (fX1_squashAndGoTo (sg q5 13 ((q5.1 13) + 1)) q1 (q5.1 17)); (1, q12)) else (let q8 := (fX1_commit q5 q2); (if q4 = 0 then (0, q8) else (if (q8.1 4) = q1 then (let q11 := (fX1_takeBranch q8 q1 q2); (0, q11)) else (0, q8)))))))))))
def rmX1_leave : Room := { frames := 4, cells := 0, slots := 0, locals := 91 }
set_option maxRecDepth 100000 in
set_option maxHeartbeats 4000000 in
theorem kX1_leave (l : Launch) (D : va_G) (a : Nat → Nat) (cI cZ : ClassId) (σ : St) : Ci l yX1_leave cX1_leave 4 (some .int) TB rmX1_leave D vwCl [(cI, .int), (cZ, .boolean)] [.ref (a 8)] (fx a cI cZ σ) (fx a cI cZ (fX1_leave σ).2) (fX1_leave σ).1 := by
  refine Ci_of (cc := cX1_leave) (maxL := 4) (ret := (some .int)) (by decide +kernel) TBg (Nat.le_of_ble_eq_true rfl) ?_
  intro p e s m args below meth c A h hr
  refine j_aload_n h 0 dX1_leave_0 rfl rfl ?_
  refine j_get h iX1 8 (fx_c8 _ _ _ σ) rfl 0 (by decide) tb1_202 rfl (v := .ref (a 1)) rfl dX1_leave_1 ?_
  refine j_callVi h (kX4_last l D a cI cZ σ) tb2_223 tb2_224 tb2_225 tb1_2 tb2_226 ⟨rfl, rfl⟩ (n := 0) (by decide +kernel) ⟨Nat.le_of_ble_eq_true rfl, Nat.le_of_ble_eq_true rfl⟩ (As := []) rfl (ci := 4) (q0 := 1) rfl (fx_c1 _ _ _ σ) (st := []) rfl (Nat.le_of_ble_eq_true rfl) dX1_leave_4 ⟨Nat.zero_le _, Nat.zero_le _⟩ ?_
  generalize hq1 : (fX4_last σ) = q1
  refine j_istore_n h (lv' := [(1, .int q1), (0, .ref (a 8))]) dX1_leave_7 rfl (by decide) rfl ?_
  refine j_aload_n h 1 dX1_leave_8 rfl rfl ?_
  refine j_get h iX1 8 (fx_c8 _ _ _ σ) rfl 2 (by decide) tb1_204 rfl (v := .ref (a 9)) rfl dX1_leave_9 ?_
  refine j_iload_n h 0 dX1_leave_12 rfl rfl ?_
  refine j_callVi h (kX5_wordIn l D a cI cZ σ q1) tb2_227 tb2_228 tb2_229 tb1_6 tb2_230 ⟨rfl, rfl⟩ (n := 1) (by decide +kernel) ⟨Nat.le_of_ble_eq_true rfl, Nat.le_of_ble_eq_true rfl⟩ (As := [.int q1]) rfl (ci := 5) (q0 := 9) rfl (fx_c9 _ _ _ σ) (st := []) rfl (Nat.le_of_ble_eq_true rfl) dX1_leave_13 ⟨Nat.zero_le _, Nat.zero_le _⟩ ?_
  generalize hq2 : (fX5_wordIn σ q1) = q2
  refine j_istore_n h (lv' := [(2, .int q2), (1, .int q1), (0, .ref (a 8))]) dX1_leave_16 rfl (by decide) rfl ?_
  refine j_iload_n h 0 dX1_leave_17 rfl rfl ?_
  refine j_iconst h (v := (-1)) dX1_leave_18 (by decide) ?_
  refine j_icmp_ne h dX1_leave_19 (tgt := 24) (by decide) (fun c3 => ?_) (fun c3 => ?_)
  ·
    refine j_aload_n h 2 dX1_leave_24 rfl rfl ?_
    refine j_get h iX1 8 (fx_c8 _ _ _ σ) rfl 2 (by decide) tb1_204 rfl (v := .ref (a 9)) rfl dX1_leave_25 ?_
    refine j_iload_n h 1 dX1_leave_28 rfl rfl ?_
    refine j_callVi h (kX5_isGoing l D a cI cZ σ q1) tb2_231 tb2_232 tb2_233 tb1_6 tb2_234 ⟨rfl, rfl⟩ (n := 1) (by decide +kernel) ⟨Nat.le_of_ble_eq_true rfl, Nat.le_of_ble_eq_true rfl⟩ (As := [.int q1]) rfl (ci := 5) (q0 := 9) rfl (fx_c9 _ _ _ σ) (st := []) rfl (Nat.le_of_ble_eq_true rfl) dX1_leave_29 ⟨Nat.zero_le _, Nat.zero_le _⟩ ?_
    generalize hq4 : (fX5_isGoing σ q1) = q4
    refine j_istore_n h (lv' := [(3, .int q4), (2, .int q2), (1, .int q1), (0, .ref (a 8))]) dX1_leave_32 rfl (by decide) rfl ?_
    refine j_aload_n h 3 dX1_leave_33 rfl rfl ?_
    refine j_get h iX1 8 (fx_c8 _ _ _ σ) rfl 2 (by decide) tb1_204 rfl (v := .ref (a 9)) rfl dX1_leave_34 ?_
    refine j_iload_n h 2 dX1_leave_37 rfl rfl ?_
    refine j_callVv h (kX5_empty l D a cI cZ σ q1) tb2_235 tb2_236 tb2_237 tb1_6 tb2_238 ⟨rfl, rfl⟩ (n := 1) (by decide +kernel) ⟨Nat.le_of_ble_eq_true rfl, Nat.le_of_ble_eq_true rfl⟩ (As := [.int q1]) rfl (ci := 5) (q0 := 9) rfl (fx_c9 _ _ _ σ) (st := []) rfl (Nat.le_of_ble_eq_true rfl) dX1_leave_38 ⟨Nat.zero_le _, Nat.zero_le _⟩ ?_
    generalize hq5 : (fX5_empty σ q1) = q5
    refine j_aload_n h 3 dX1_leave_41 rfl rfl ?_
    refine j_get h iX1 8 (fx_c8 _ _ _ q5) rfl 1 (by decide) tb1_203 rfl (v := .ref (a 2)) rfl dX1_leave_42 ?_
    refine j_iload_n h 1 dX1_leave_45 rfl rfl ?_
    refine j_callVi h (kX3_kindOf l D a cI cZ q5 q2) tb2_239 tb3_0 tb3_1 tb1_4 tb3_2 ⟨rfl, rfl⟩ (n := 1) (by decide +kernel) ⟨Nat.le_of_ble_eq_true rfl, Nat.le_of_ble_eq_true rfl⟩ (As := [.int q2]) rfl (ci := 3) (q0 := 2) rfl (fx_c2 _ _ _ q5) (st := []) rfl (Nat.le_of_ble_eq_true rfl) dX1_leave_46 ⟨Nat.zero_le _, Nat.zero_le _⟩ ?_
    generalize hq6 : (fX3_kindOf q5 q2) = q6
    refine j_iconst h (v := 5) dX1_leave_49 (by decide) ?_
    refine j_icmp_ne h dX1_leave_50 (tgt := 77) (by decide) (fun c7 => ?_) (fun c7 => ?_)
    ·
      refine j_aload_n h 3 dX1_leave_77 rfl rfl ?_
      refine j_iload_n h 1 dX1_leave_78 rfl rfl ?_
      refine j_callVv h (kX1_commit l D a cI cZ q5 q2) tb3_13 tb3_15 tp_3 tb1_5 tb3_16 ⟨rfl, rfl⟩ (n := 1) (by decide +kernel) ⟨Nat.le_of_ble_eq_true rfl, Nat.le_of_ble_eq_true rfl⟩ (As := [.int q2]) rfl (ci := 1) (q0 := 8) rfl (fx_c8 _ _ _ q5) (st := []) rfl (Nat.le_of_ble_eq_true rfl) dX1_leave_79 ⟨Nat.zero_le _, Nat.zero_le _⟩ ?_
      generalize hq8 : (fX1_commit q5 q2) = q8
      refine j_iload_n h 0 dX1_leave_82 rfl rfl ?_
      refine j_if_eq h dX1_leave_83 (tgt := 103) (by decide) (fun c9 => ?_) (fun c9 => ?_)
      ·
        refine j_iconst h (v := 0) dX1_leave_103 (by decide) ?_
        subst hq1 hq2 hq4 hq5 hq6 hq8
        have E : fX1_leave σ = (0, (fX1_commit (fX5_empty σ (fX4_last σ)) (fX5_wordIn σ (fX4_last σ)))) := j_ig c3 (j_ig c7 (j_ip c9 rfl))
        exact j_ireturn h hr (congrArg Prod.fst E).symm (congrArg (fun z => fx a cI cZ z.2) E).symm dX1_leave_104
      ·
        refine j_aload_n h 3 dX1_leave_86 rfl rfl ?_
        refine j_get h iX1 8 (fx_c8 _ _ _ q8) rfl 0 (by decide) tb1_202 rfl (v := .ref (a 1)) rfl dX1_leave_87 ?_
        refine j_get h iX4 1 (fx_c1 _ _ _ q8) rfl 4 (by decide) tb1_50 rfl (v := .int (q8.1 4)) rfl dX1_leave_90 ?_
        refine j_iload_n h 2 dX1_leave_93 rfl rfl ?_
        refine j_icmp_ne h dX1_leave_94 (tgt := 103) (by decide) (fun c10 => ?_) (fun c10 => ?_)
        ·
          refine j_iconst h (v := 0) dX1_leave_103 (by decide) ?_
          subst hq1 hq2 hq4 hq5 hq6 hq8
          have E : fX1_leave σ = (0, (fX1_commit (fX5_empty σ (fX4_last σ)) (fX5_wordIn σ (fX4_last σ)))) := j_ig c3 (j_ig c7 (j_ig c9 (j_ig c10 rfl)))
          exact j_ireturn h hr (congrArg Prod.fst E).symm (congrArg (fun z => fx a cI cZ z.2) E).symm dX1_leave_104
        ·
          refine j_aload_n h 3 dX1_leave_97 rfl rfl ?_
          refine j_iload_n h 2 dX1_leave_98 rfl rfl ?_
          refine j_iload_n h 1 dX1_leave_99 rfl rfl ?_
          refine j_callVv h (kX1_takeBranch l D a cI cZ q8 q1 q2) tb3_60 tb3_62 tp_6 tb1_5 tb3_63 ⟨rfl, rfl⟩ (n := 2) (by decide +kernel) ⟨Nat.le_of_ble_eq_true rfl, Nat.le_of_ble_eq_true rfl⟩ (As := [.int q1, .int q2]) rfl (ci := 1) (q0 := 8) rfl (fx_c8 _ _ _ q8) (st := []) rfl (Nat.le_of_ble_eq_true rfl) dX1_leave_100 ⟨Nat.zero_le _, Nat.zero_le _⟩ ?_
          generalize hq11 : (fX1_takeBranch q8 q1 q2) = q11
          refine j_iconst h (v := 0) dX1_leave_103 (by decide) ?_
          subst hq1 hq2 hq4 hq5 hq6 hq8 hq11
          have E : fX1_leave σ = (0, (fX1_takeBranch (fX1_commit (fX5_empty σ (fX4_last σ)) (fX5_wordIn σ (fX4_last σ))) (fX4_last σ) (fX5_wordIn σ (fX4_last σ)))) := j_ig c3 (j_ig c7 (j_ig c9 (j_ip c10 rfl)))
          exact j_ireturn h hr (congrArg Prod.fst E).symm (congrArg (fun z => fx a cI cZ z.2) E).symm dX1_leave_104
    ·
      refine j_aload_n h 3 dX1_leave_53 rfl rfl ?_
      refine j_get h iX1 8 (fx_c8 _ _ _ q5) rfl 4 (by decide) tb1_208 rfl (v := .ref (a 17)) rfl dX1_leave_54 ?_
      refine j_dup h dX1_leave_57 rfl ?_
      refine j_get h iX6 17 (fx_c17 _ _ _ q5) rfl 5 (by decide) tb1_161 rfl (v := .int (q5.1 13)) rfl dX1_leave_58 ?_
      refine j_iconst h (v := 1) dX1_leave_61 (by decide) ?_
      refine j_iadd h dX1_leave_62 ?_
      refine j_put h iX6 tyX6 tyX6_ok nmX6 17 (fx_c17 _ _ _ q5) rfl 5 (by decide) tb1_161 rfl rfl rfl rfl (Nat.le_of_ble_eq_true rfl) (w' := (fx a cI cZ (sg q5 13 ((q5.1 13) + 1)))) (fx_p17_5 _ _ _ q5 _) dX1_leave_63 ?_
      refine j_aload_n h 3 dX1_leave_66 rfl rfl ?_
      refine j_iload_n h 2 dX1_leave_67 rfl rfl ?_
      refine j_aload_n h 3 dX1_leave_68 rfl rfl ?_
      refine j_get h iX1 8 (fx_c8 _ _ _ (sg q5 13 ((q5.1 13) + 1))) rfl 8 (by decide) tb1_216 rfl (v := .int (q5.1 17)) rfl dX1_leave_69 ?_
      refine j_callVv h (kX1_squashAndGoTo l D a cI cZ (sg q5 13 ((q5.1 13) + 1)) q1 (q5.1 17)) tb3_3 tb3_5 tp_2 tb1_5 tb3_6 ⟨rfl, rfl⟩ (n := 2) (by decide +kernel) ⟨Nat.le_of_ble_eq_true rfl, Nat.le_of_ble_eq_true rfl⟩ (As := [.int q1, .int (q5.1 17)]) rfl (ci := 1) (q0 := 8) rfl (fx_c8 _ _ _ (sg q5 13 ((q5.1 13) + 1))) (st := []) rfl (Nat.le_of_ble_eq_true rfl) dX1_leave_72 ⟨Nat.zero_le _, Nat.zero_le _⟩ ?_
      generalize hq12 : (fX1_squashAndGoTo (sg q5 13 ((q5.1 13) + 1)) q1 (q5.1 17)) = q12
      refine j_iconst h (v := 1) dX1_leave_75 (by decide) ?_
      subst hq1 hq2 hq4 hq5 hq6 hq12
      have E : fX1_leave σ = (1, (fX1_squashAndGoTo (sg (fX5_empty σ (fX4_last σ)) 13 (((fX5_empty σ (fX4_last σ)).1 13) + 1)) (fX4_last σ) ((fX5_empty σ (fX4_last σ)).1 17))) := j_ig c3 (j_ip c7 rfl)
      exact j_ireturn h hr (congrArg Prod.fst E).symm (congrArg (fun z => fx a cI cZ z.2) E).symm dX1_leave_76
  ·
    refine j_iconst h (v := 4) dX1_leave_22 (by decide) ?_
    subst hq1 hq2
    have E : fX1_leave σ = (4, σ) := j_ip c3 rfl
    exact j_ireturn h hr (congrArg Prod.fst E).symm (congrArg (fun z => fx a cI cZ z.2) E).symm dX1_leave_23
theorem fr_fX1_leave (σ : St) : Fr (fX1_leave σ).2 σ := by
  by_cases c0 : (fX5_wordIn σ (fX4_last σ)) = (-1)
  ·
    have E : fX1_leave σ = (4, σ) := j_ip c0 rfl
    rw [E]
    exact (Fr.rf _)
  ·
    by_cases c1 : (fX3_kindOf (fX5_empty σ (fX4_last σ)) (fX5_wordIn σ (fX4_last σ))) = 5
    ·
      have E : fX1_leave σ = (1, (fX1_squashAndGoTo (sg (fX5_empty σ (fX4_last σ)) 13 (((fX5_empty σ (fX4_last σ)).1 13) + 1)) (fX4_last σ) ((fX5_empty σ (fX4_last σ)).1 17))) := j_ig c0 (j_ip c1 rfl)
      rw [E]
      exact (Fr.tr (fr_fX1_squashAndGoTo _ _ _) (Fr.tr (Fr.sg (by decide)) (Fr.tr (fr_fX5_empty _ _) (Fr.rf _))))
    ·
      by_cases c2 : (fX5_isGoing σ (fX4_last σ)) = 0
      ·
        have E : fX1_leave σ = (0, (fX1_commit (fX5_empty σ (fX4_last σ)) (fX5_wordIn σ (fX4_last σ)))) := j_ig c0 (j_ig c1 (j_ip c2 rfl))
        rw [E]
        exact (Fr.tr (fr_fX1_commit _ _) (Fr.tr (fr_fX5_empty _ _) (Fr.rf _)))
      ·
        by_cases c3 : ((fX1_commit (fX5_empty σ (fX4_last σ)) (fX5_wordIn σ (fX4_last σ))).1 4) = (fX4_last σ)
        ·
          have E : fX1_leave σ = (0, (fX1_takeBranch (fX1_commit (fX5_empty σ (fX4_last σ)) (fX5_wordIn σ (fX4_last σ))) (fX4_last σ) (fX5_wordIn σ (fX4_last σ)))) := j_ig c0 (j_ig c1 (j_ig c2 (j_ip c3 rfl)))
          rw [E]
          exact (Fr.tr (fr_fX1_takeBranch _ _ _) (Fr.tr (fr_fX1_commit _ _) (Fr.tr (fr_fX5_empty _ _) (Fr.rf _))))
        ·
          have E : fX1_leave σ = (0, (fX1_commit (fX5_empty σ (fX4_last σ)) (fX5_wordIn σ (fX4_last σ)))) := j_ig c0 (j_ig c1 (j_ig c2 (j_ig c3 rfl)))
          rw [E]
          exact (Fr.tr (fr_fX1_commit _ _) (Fr.tr (fr_fX5_empty _ _) (Fr.rf _)))
