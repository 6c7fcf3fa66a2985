def rmJ9_floorMod : Room := { frames := 0, cells := 0, slots := 0, locals := 0 }
set_option maxRecDepth 100000 in
set_option maxHeartbeats 4000000 in
theorem kJ9_floorMod (l : Launch) (D : va_G) (cI cZ : ClassId) (x1 x2 : Int32) (h9 : ¬ x2 = 0) : Ci l yJ9_floorMod cJ9_floorMod 3 (some .int) TB rmJ9_floorMod D vwCl [(cI, .int), (cZ, .boolean)] [.int x1, .int x2] [] [] (fm x1 x2) := by
  refine Ci_of (cc := cJ9_floorMod) (maxL := 3) (ret := (some .int)) (by decide +kernel) TBg (Nat.le_of_ble_eq_true rfl) ?_
  intro p e s m args below meth c A h hr
  refine j_iload_n h 0 dJ9_floorMod_0 rfl rfl ?_
  refine j_iload_n h 1 dJ9_floorMod_1 rfl rfl ?_
  refine j_irem h dJ9_floorMod_2 h9 ?_
  refine j_istore_n h (lv' := [(2, .int (x1 - x1 / x2 * x2)), (0, .int x1), (1, .int x2)]) dJ9_floorMod_3 rfl (by decide) rfl ?_
  refine j_iload_n h 1 dJ9_floorMod_4 rfl rfl ?_
  refine j_iload_n h 2 dJ9_floorMod_5 rfl rfl ?_
  refine j_ixor h dJ9_floorMod_6 ?_
  refine j_if_ge h dJ9_floorMod_7 (tgt := 18) (by decide) (fun c1 => ?_) (fun c1 => ?_)
  ·
    refine j_iload_n h 0 dJ9_floorMod_18 rfl rfl ?_
    have E : fm x1 x2 = (x1 - x1 / x2 * x2) := j_ip c1 rfl
    exact j_ireturn h hr E.symm rfl dJ9_floorMod_19
  ·
    refine j_iload_n h 0 dJ9_floorMod_10 rfl rfl ?_
    refine j_if_eq h dJ9_floorMod_11 (tgt := 18) (by decide) (fun c2 => ?_) (fun c2 => ?_)
    ·
      refine j_iload_n h 0 dJ9_floorMod_18 rfl rfl ?_
      have E : fm x1 x2 = (x1 - x1 / x2 * x2) := j_ig c1 (j_ip c2 rfl)
      exact j_ireturn h hr E.symm rfl dJ9_floorMod_19
    ·
      refine j_iload_n h 0 dJ9_floorMod_14 rfl rfl ?_
      refine j_iload_n h 2 dJ9_floorMod_15 rfl rfl ?_
      refine j_iadd h dJ9_floorMod_16 ?_
      have E : fm x1 x2 = ((x1 - x1 / x2 * x2) + x2) := j_ig c1 (j_ig c2 rfl)
      exact j_ireturn h hr E.symm rfl dJ9_floorMod_17
/-- Arrays.fill: every place of it -/
def fillF (n : Nat) (v : Int32) (f : Nat → Int32) : Nat → Int32 := fun j => if j < n then v else f j
def rmJ7_fill : Room := { frames := 0, cells := 0, slots := 0, locals := 0 }
theorem fillF_0 (v : Int32) (f : Nat → Int32) : fillF 0 v f = f := funext fun j => if_neg (Nat.not_lt_zero j)
theorem fillF_s (k : Nat) (v : Int32) (f : Nat → Int32) : upd (fillF k v f) k v = fillF (k + 1) v f := funext fun j => by
  unfold upd fillF
  by_cases h : j = k
  · rw [if_pos h, if_pos (by omega)]
  · rw [if_neg h]
    by_cases h2 : j < k
    · rw [if_pos h2, if_pos (by omega)]
    · rw [if_neg h2, if_neg (by omega)]
set_option maxRecDepth 100000 in
set_option maxHeartbeats 4000000 in
theorem kJ7_fill (l : Launch) (D : va_G) (cI cZ : ClassId) (b n : Nat) (f : Nat → Int32) (v : Int32) (hn : n < 2 ^ 31) : Cv l yJ7_fill cJ7_fill 4 none TB rmJ7_fill D vwCl [(cI, .int), (cZ, .boolean)] [.ref b, .int v] [(b, .inl (cI, n, .inl f))] (fun _ => [(b, .inl (cI, n, .inl (fillF n v f)))]) 0 0 := by
  refine Cv_of (cc := cJ7_fill) (maxL := 4) (ret := none) (by decide +kernel) TBg (Nat.le_of_ble_eq_true rfl) ?_
  intro p e s m args below meth c A h hr hname
  have loop : ∀ (q k : Nat), k ≤ n → n < k + q → J p l e rmJ7_fill s m args below meth c D vwCl A 4 0 0 (MQ below (jEv D vwCl [(cI, .int), (cZ, .boolean)] A (fun _ => [(b, .inl (cI, n, .inl (fillF n v f)))])) args s 0 0 A) [(b, .inl (cI, n, .inl (fillF k v f)))] 5 [(2, .int (nI k)), (3, .int (nI n)), (0, .ref b), (1, .int v)] [] := by
    intro q
    induction q with
    | zero => intro k h1 h2; exact absurd h2 (by omega)
    | succ q ih =>
      intro k h1 h2
      refine j_iload_n h 0 dJ7_fill_5 rfl rfl ?_
      refine j_iload_n h 1 dJ7_fill_6 rfl rfl ?_
      refine j_icmp_ge h dJ7_fill_7 (tgt := 20) (by decide) (fun c1 => ?_) (fun c1 => ?_)
      · have e1 : k = n := by
          rcases Nat.lt_or_ge k n with z | z
          · exact absurd c1 (nI_ge z hn)
          · omega
        subst e1
        exact j_vreturn h hr (fun _ => 0) rfl dJ7_fill_20
      · have hk : k < n := by
          rcases Nat.lt_or_ge k n with z | z
          · exact z
          · exact absurd (nI_le z (by omega)) c1
        refine j_aload_n h 2 dJ7_fill_10 rfl rfl ?_
        refine j_iload_n h 0 dJ7_fill_11 rfl rfl ?_
        refine j_iload_n h 3 dJ7_fill_12 rfl rfl ?_
        refine j_iast h 0 0 rfl rfl (vp_in_nI hk hn) (w' := [(b, .inl (cI, n, .inl (fillF (k + 1) v f)))]) (by rw [nI_clamp (by omega), fillF_s]; rfl) dJ7_fill_13 ?_
        refine j_iinc h 0 (v := nI (k + 1)) (lv' := [(2, .int (nI (k + 1))), (3, .int (nI n)), (0, .ref b), (1, .int v)]) dJ7_fill_14 rfl (nI_1 k) (by decide) rfl ?_
        refine j_goto h dJ7_fill_17 (tgt := 5) (by decide) ?_
        exact ih (k + 1) hk (by omega)
  refine j_iconst h (v := 0) dJ7_fill_0 (by decide) ?_
  refine j_istore_n h (lv' := [(2, .int 0), (0, .ref b), (1, .int v)]) dJ7_fill_1 rfl (by decide) rfl ?_
  refine j_aload_n h 1 dJ7_fill_2 rfl rfl ?_
  refine j_alen h 0 0 rfl rfl (v := nI n) rfl dJ7_fill_3 ?_
  refine j_istore_n h (lv' := [(3, .int (nI n)), (2, .int 0), (0, .ref b), (1, .int v)]) dJ7_fill_4 rfl (by decide) rfl ?_
  refine j_lv [1, 0, 2, 3] (lv' := [(2, .int (nI 0)), (3, .int (nI n)), (0, .ref b), (1, .int v)]) rfl ?_
  refine j_world (w' := [(b, .inl (cI, n, .inl (fillF 0 v f)))]) (by rw [fillF_0]) ?_
  exact loop (n + 1) 0 (Nat.zero_le n) (by omega)

def fX7_isBelow (x1 x2 : Int32) : Int32 := (if x1 < 0 then 0 else (if x2 ≤ x1 then 0 else 1))
def rmX7_isBelow : Room := { frames := 0, cells := 0, slots := 0, locals := 0 }
set_option maxRecDepth 100000 in
set_option maxHeartbeats 4000000 in
theorem kX7_isBelow (l : Launch) (D : va_G) (cI cZ : ClassId) (x1 x2 : Int32) : Ci l yX7_isBelow cX7_isBelow 2 (some .boolean) TB rmX7_isBelow D vwCl [(cI, .int), (cZ, .boolean)] [.int x1, .int x2] [] [] (fX7_isBelow x1 x2) := by
  refine Ci_of (cc := cX7_isBelow) (maxL := 2) (ret := (some .boolean)) (by decide +kernel) TBg (Nat.le_of_ble_eq_true rfl) ?_
  intro p e s m args below meth c A h hr
  refine j_iload_n h 0 dX7_isBelow_0 rfl rfl ?_
  refine j_if_lt h dX7_isBelow_1 (tgt := 13) (by decide) (fun c1 => ?_) (fun c1 => ?_)
  ·
    refine j_iconst h (v := 0) dX7_isBelow_13 (by decide) ?_
    have E : fX7_isBelow x1 x2 = 0 := j_ip c1 rfl
    exact j_zreturn h hr (by decide) E.symm rfl dX7_isBelow_14
  ·
    refine j_iload_n h 0 dX7_isBelow_4 rfl rfl ?_
    refine j_iload_n h 1 dX7_isBelow_5 rfl rfl ?_
    refine j_icmp_ge h dX7_isBelow_6 (tgt := 13) (by decide) (fun c2 => ?_) (fun c2 => ?_)
    ·
      refine j_iconst h (v := 0) dX7_isBelow_13 (by decide) ?_
      have E : fX7_isBelow x1 x2 = 0 := j_ig c1 (j_ip c2 rfl)
      exact j_zreturn h hr (by decide) E.symm rfl dX7_isBelow_14
    ·
      refine j_iconst h (v := 1) dX7_isBelow_9 (by decide) ?_
      refine j_goto h dX7_isBelow_10 (tgt := 14) (by decide) ?_
      have E : fX7_isBelow x1 x2 = 1 := j_ig c1 (j_ig c2 rfl)
      exact j_zreturn h hr (by decide) E.symm rfl dX7_isBelow_14
def fX4_rest (x1 x2 : Int32) : Int32 := (if x2 ≤ 0 then 0 else (fm x1 x2))
def rmX4_rest : Room := { frames := 1, cells := 0, slots := 0, locals := 22 }
set_option maxRecDepth 100000 in
set_option maxHeartbeats 4000000 in
theorem kX4_rest (l : Launch) (D : va_G) (cI cZ : ClassId) (x1 x2 : Int32) : Ci l yX4_rest cX4_rest 2 (some .int) TB rmX4_rest D vwCl [(cI, .int), (cZ, .boolean)] [.int x1, .int x2] [] [] (fX4_rest x1 x2) := by
  refine Ci_of (cc := cX4_rest) (maxL := 2) (ret := (some .int)) (by decide +kernel) TBg (Nat.le_of_ble_eq_true rfl) ?_
  intro p e s m args below meth c A h hr
  refine j_iload_n h 1 dX4_rest_0 rfl rfl ?_
  refine j_if_le h dX4_rest_1 (tgt := 12) (by decide) (fun c1 => ?_) (fun c1 => ?_)
  ·
    refine j_iconst h (v := 0) dX4_rest_12 (by decide) ?_
    have E : fX4_rest x1 x2 = 0 := j_ip c1 rfl
    exact j_ireturn h hr E.symm rfl dX4_rest_13
  ·
    refine j_iload_n h 0 dX4_rest_4 rfl rfl ?_
    refine j_iload_n h 1 dX4_rest_5 rfl rfl ?_
    refine j_callSi0 h (kJ9_floorMod l D cI cZ x1 x2 (j_ne0 c1)) tb1_36 tb1_37 tb1_3 tb1_38 ⟨rfl, rfl⟩ (n := 2) (by decide +kernel) ⟨Nat.le_of_ble_eq_true rfl, Nat.le_of_ble_eq_true rfl⟩ (As := [.int x1, .int x2]) rfl (st := []) rfl (Nat.le_of_ble_eq_true rfl) dX4_rest_6 ⟨Nat.zero_le _, Nat.zero_le _⟩ ?_
    refine j_goto h dX4_rest_9 (tgt := 13) (by decide) ?_
    have E : fX4_rest x1 x2 = (fm x1 x2) := j_ig c1 rfl
    exact j_ireturn h hr E.symm rfl dX4_rest_13
def fX3_hasTarget (x1 : Int32) : Int32 := (if x1 = 0 then 1 else (if x1 = 1 then 1 else (if x1 = 3 then 1 else (if x1 = 7 then 1 else 0))))
def rmX3_hasTarget : Room := { frames := 0, cells := 0, slots := 0, locals := 0 }
set_option maxRecDepth 100000 in
set_option maxHeartbeats 4000000 in
theorem kX3_hasTarget (l : Launch) (D : va_G) (cI cZ : ClassId) (x1 : Int32) : Ci l yX3_hasTarget cX3_hasTarget 1 (some .boolean) TB rmX3_hasTarget D vwCl [(cI, .int), (cZ, .boolean)] [.int x1] [] [] (fX3_hasTarget x1) := by
  refine Ci_of (cc := cX3_hasTarget) (maxL := 1) (ret := (some .boolean)) (by decide +kernel) TBg (Nat.le_of_ble_eq_true rfl) ?_
  intro p e s m args below meth c A h hr
  refine j_iload_n h 0 dX3_hasTarget_0 rfl rfl ?_
  refine j_if_eq h dX3_hasTarget_1 (tgt := 20) (by decide) (fun c1 => ?_) (fun c1 => ?_)
  ·
    refine j_iconst h (v := 1) dX3_hasTarget_20 (by decide) ?_
    refine j_goto h dX3_hasTarget_21 (tgt := 25) (by decide) ?_
    have E : fX3_hasTarget x1 = 1 := j_ip c1 rfl
    exact j_zreturn h hr (by decide) E.symm rfl dX3_hasTarget_25
  ·
    refine j_iload_n h 0 dX3_hasTarget_4 rfl rfl ?_
    refine j_iconst h (v := 1) dX3_hasTarget_5 (by decide) ?_
    refine j_icmp_eq h dX3_hasTarget_6 (tgt := 20) (by decide) (fun c2 => ?_) (fun c2 => ?_)
    ·
      refine j_iconst h (v := 1) dX3_hasTarget_20 (by decide) ?_
      refine j_goto h dX3_hasTarget_21 (tgt := 25) (by decide) ?_
      have E : fX3_hasTarget x1 = 1 := j_ig c1 (j_ip c2 rfl)
      exact j_zreturn h hr (by decide) E.symm rfl dX3_hasTarget_25
    ·
      refine j_iload_n h 0 dX3_hasTarget_9 rfl rfl ?_
      refine j_iconst h (v := 3) dX3_hasTarget_10 (by decide) ?_
      refine j_icmp_eq h dX3_hasTarget_11 (tgt := 20) (by decide) (fun c3 => ?_) (fun c3 => ?_)
      ·
        refine j_iconst h (v := 1) dX3_hasTarget_20 (by decide) ?_
        refine j_goto h dX3_hasTarget_21 (tgt := 25) (by decide) ?_
        have E : fX3_hasTarget x1 = 1 := j_ig c1 (j_ig c2 (j_ip c3 rfl))
        exact j_zreturn h hr (by decide) E.symm rfl dX3_hasTarget_25
      ·
        refine j_iload_n h 0 dX3_hasTarget_14 rfl rfl ?_
        refine j_bipush h (v := 7) dX3_hasTarget_15 (by decide) ?_
        refine j_icmp_ne h dX3_hasTarget_17 (tgt := 24) (by decide) (fun c4 => ?_) (fun c4 => ?_)
        ·
          refine j_iconst h (v := 0) dX3_hasTarget_24 (by decide) ?_
          have E : fX3_hasTarget x1 = 0 := j_ig c1 (j_ig c2 (j_ig c3 (j_ig c4 rfl)))
          exact j_zreturn h hr (by decide) E.symm rfl dX3_hasTarget_25
        ·
          refine j_iconst h (v := 1) dX3_hasTarget_20 (by decide) ?_
          refine j_goto h dX3_hasTarget_21 (tgt := 25) (by decide) ?_
          have E : fX3_hasTarget x1 = 1 := j_ig c1 (j_ig c2 (j_ig c3 (j_ip c4 rfl)))
          exact j_zreturn h hr (by decide) E.symm rfl dX3_hasTarget_25
def fX3_readsSecond (x1 : Int32) : Int32 := (if x1 = 0 then 1 else (if x1 = 2 then 1 else (if x1 = 3 then 1 else 0)))
def rmX3_readsSecond : Room := { frames := 0, cells := 0, slots := 0, locals := 0 }
set_option maxRecDepth 100000 in
set_option maxHeartbeats 4000000 in
theorem kX3_readsSecond (l : Launch) (D : va_G) (cI cZ : ClassId) (x1 : Int32) : Ci l yX3_readsSecond cX3_readsSecond 1 (some .boolean) TB rmX3_readsSecond D vwCl [(cI, .int), (cZ, .boolean)] [.int x1] [] [] (fX3_readsSecond x1) := by
  refine Ci_of (cc := cX3_readsSecond) (maxL := 1) (ret := (some .boolean)) (by decide +kernel) TBg (Nat.le_of_ble_eq_true rfl) ?_
  intro p e s m args below meth c A h hr
  refine j_iload_n h 0 dX3_readsSecond_0 rfl rfl ?_
  refine j_if_eq h dX3_readsSecond_1 (tgt := 14) (by decide) (fun c1 => ?_) (fun c1 => ?_)
  ·
    refine j_iconst h (v := 1) dX3_readsSecond_14 (by decide) ?_
    refine j_goto h dX3_readsSecond_15 (tgt := 19) (by decide) ?_
    have E : fX3_readsSecond x1 = 1 := j_ip c1 rfl
    exact j_zreturn h hr (by decide) E.symm rfl dX3_readsSecond_19
  ·
    refine j_iload_n h 0 dX3_readsSecond_4 rfl rfl ?_
    refine j_iconst h (v := 2) dX3_readsSecond_5 (by decide) ?_
    refine j_icmp_eq h dX3_readsSecond_6 (tgt := 14) (by decide) (fun c2 => ?_) (fun c2 => ?_)
    ·
      refine j_iconst h (v := 1) dX3_readsSecond_14 (by decide) ?_
      refine j_goto h dX3_readsSecond_15 (tgt := 19) (by decide) ?_
      have E : fX3_readsSecond x1 = 1 := j_ig c1 (j_ip c2 rfl)
      exact j_zreturn h hr (by decide) E.symm rfl dX3_readsSecond_19
    ·
      refine j_iload_n h 0 dX3_readsSecond_9 rfl rfl ?_
      refine j_iconst h (v := 3) dX3_readsSecond_10 (by decide) ?_
      refine j_icmp_ne h dX3_readsSecond_11 (tgt := 18) (by decide) (fun c3 => ?_) (fun c3 => ?_)
      ·
        refine j_iconst h (v := 0) dX3_readsSecond_18 (by decide) ?_
        have E : fX3_readsSecond x1 = 0 := j_ig c1 (j_ig c2 (j_ig c3 rfl))
        exact j_zreturn h hr (by decide) E.symm rfl dX3_readsSecond_19
      ·
        refine j_iconst h (v := 1) dX3_readsSecond_14 (by decide) ?_
        refine j_goto h dX3_readsSecond_15 (tgt := 19) (by decide) ?_
        have E : fX3_readsSecond x1 = 1 := j_ig c1 (j_ig c2 (j_ip c3 rfl))
        exact j_zreturn h hr (by decide) E.symm rfl dX3_readsSecond_19
def fX3_readsFirst (x1 : Int32) : Int32 := (if x1 = 1 then 1 else (if x1 = 4 then 1 else (let q3 := (fX3_readsSecond x1); (if q3 = 0 then 0 else 1))))
def rmX3_readsFirst : Room := { frames := 1, cells := 0, slots := 0, locals := 20 }
set_option maxRecDepth 100000 in
set_option maxHeartbeats 4000000 in
theorem kX3_readsFirst (l : Launch) (D : va_G) (cI cZ : ClassId) (x1 : Int32) : Ci l yX3_readsFirst cX3_readsFirst 1 (some .boolean) TB rmX3_readsFirst D vwCl [(cI, .int), (cZ, .boolean)] [.int x1] [] [] (fX3_readsFirst x1) := by
  refine Ci_of (cc := cX3_readsFirst) (maxL := 1) (ret := (some .boolean)) (by decide +kernel) TBg (Nat.le_of_ble_eq_true rfl) ?_
  intro p e s m args below meth c A h hr
  refine j_iload_n h 0 dX3_readsFirst_0 rfl rfl ?_
  refine j_iconst h (v := 1) dX3_readsFirst_1 (by decide) ?_
  refine j_icmp_eq h dX3_readsFirst_2 (tgt := 17) (by decide) (fun c1 => ?_) (fun c1 => ?_)
  ·
    refine j_iconst h (v := 1) dX3_readsFirst_17 (by decide) ?_
    refine j_goto h dX3_readsFirst_18 (tgt := 22) (by decide) ?_
    have E : fX3_readsFirst x1 = 1 := j_ip c1 rfl
    exact j_zreturn h hr (by decide) E.symm rfl dX3_readsFirst_22
  ·
    refine j_iload_n h 0 dX3_readsFirst_5 rfl rfl ?_
    refine j_iconst h (v := 4) dX3_readsFirst_6 (by decide) ?_
    refine j_icmp_eq h dX3_readsFirst_7 (tgt := 17) (by decide) (fun c2 => ?_) (fun c2 => ?_)
    ·
      refine j_iconst h (v := 1) dX3_readsFirst_17 (by decide) ?_
      refine j_goto h dX3_readsFirst_18 (tgt := 22) (by decide) ?_
      have E : fX3_readsFirst x1 = 1 := j_ig c1 (j_ip c2 rfl)
      exact j_zreturn h hr (by decide) E.symm rfl dX3_readsFirst_22
    ·
      refine j_iload_n h 0 dX3_readsFirst_10 rfl rfl ?_
      refine j_callSi0 h (kX3_readsSecond l D cI cZ x1) tb2_195 tb2_196 tb1_4 tb2_197 ⟨rfl, rfl⟩ (n := 1) (by decide +kernel) ⟨Nat.le_of_ble_eq_true rfl, Nat.le_of_ble_eq_true rfl⟩ (As := [.int x1]) rfl (st := []) rfl (Nat.le_of_ble_eq_true rfl) dX3_readsFirst_11 ⟨Nat.zero_le _, Nat.zero_le _⟩ ?_
      generalize hq3 : (fX3_readsSecond x1) = q3
      refine j_if_eq h dX3_readsFirst_14 (tgt := 21) (by decide) (fun c4 => ?_) (fun c4 => ?_)
      ·
        refine j_iconst h (v := 0) dX3_readsFirst_21 (by decide) ?_
        subst hq3
        have E : fX3_readsFirst x1 = 0 := j_ig c1 (j_ig c2 (j_ip c4 rfl))
        exact j_zreturn h hr (by decide) E.symm rfl dX3_readsFirst_22
      ·
        refine j_iconst h (v := 1) dX3_readsFirst_17 (by decide) ?_
        refine j_goto h dX3_readsFirst_18 (tgt := 22) (by decide) ?_
        subst hq3
        have E : fX3_readsFirst x1 = 1 := j_ig c1 (j_ig c2 (j_ig c4 rfl))
        exact j_zreturn h hr (by decide) E.symm rfl dX3_readsFirst_22
