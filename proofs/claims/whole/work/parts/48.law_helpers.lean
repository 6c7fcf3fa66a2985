theorem vp01 : vp_in (0 : Int32) 1 := by unfold vp_in; decide
def rhL_word : Room := { frames := 7, cells := 1, slots := 6, locals := 115 }
set_option maxRecDepth 100000 in
set_option maxHeartbeats 4000000 in
theorem hL_word_0 (l : Launch) (D : va_G) (a : Nat → Nat) (cI cZ cL : ClassId) (σ : St) (o : Nat) (f : Nat → Int64) (x1 x2 x3 x4 x5 : Int32) (hk : cX7_wordx σ x1 x2 x3 x4 x5 = 0) : Ch l yL_word cL_word 8 (some .int) [(0, 16, 19, 13), (0, 16, 23, 15), (0, 16, 27, 17)] TB rhL_word D vwCl [(cI, .int), (cZ, .boolean), (cL, .long)] [.ref (a 0), .int x1, .int x2, .int x3, .int x4, .int x5, .ref o] (fx a cI cZ σ ++ [(o, .inl (cL, 1, .inr (.inl f)))]) (fx a cI cZ (fX7_word σ x1 x2 x3 x4 x5).2 ++ [(o, .inl (cL, 1, .inr (.inl (vp_updL f 0 (fX7_word σ x1 x2 x3 x4 x5).1.toInt64))))]) 0 := by
  refine Ch_of (cc := cL_word) (maxL := 8) (ret := (some .int)) (hh := [(0, 16, 19, 13), (0, 16, 23, 15), (0, 16, 27, 17)]) (by decide +kernel) TBg (Nat.le_of_ble_eq_true rfl) ?_
  intro p e s m args below meth c A hL hr htab hZ
  have h : jC p s m args meth c cL_word 8 yL_word.cls TB D vwCl [(cI, .int), (cZ, .boolean)] A := jC_sub hL [0, 1] rfl
  refine j_aload h 6 dL_word_0 rfl ?_
  refine j_iconst h (v := 0) dL_word_2 (by decide) ?_
  refine j_aload_n h 0 dL_word_3 rfl rfl ?_
  refine j_iload_n h 1 dL_word_4 rfl rfl ?_
  refine j_iload_n h 2 dL_word_5 rfl rfl ?_
  refine j_iload_n h 3 dL_word_6 rfl rfl ?_
  refine j_iload h 4 dL_word_7 rfl ?_
  refine j_iload h 5 dL_word_9 rfl ?_
  refine j_callViG h (kX7_word l D a cI cZ σ x1 x2 x3 x4 x5 hk) tb2_76 tb2_77 tb2_78 tb1_1 tb2_79 ⟨rfl, rfl⟩ (n := 5) ⟨rfl, by decide, by decide, by decide +kernel⟩ ⟨Nat.le_of_ble_eq_true rfl, Nat.le_of_ble_eq_true rfl⟩ (As := [.int x1, .int x2, .int x3, .int x4, .int x5]) rfl (ci := 7) rfl (q0 := 0) rfl (st := [.int 0, .ref o]) rfl (Nat.le_of_ble_eq_true rfl) dL_word_11 ⟨Nat.le_of_ble_eq_true rfl, Nat.le_of_ble_eq_true rfl⟩ [0, 1, 2, 3, 4, 5, 6, 7, 8, 9, 10, 11, 12, 13, 14, 15, 16, 17, 18, 19, 20, 21, 22, 23, 24] [25] [1, 2, 3, 4, 5, 6, 7, 8, 9, 10, 11, 12, 13, 14, 15, 16, 17, 18, 19, 20, 21, 22, 23, 24, 25, 0] (wr := [(o, .inl (cL, 1, .inr (.inl f)))]) (w2 := fx a cI cZ (fX7_word σ x1 x2 x3 x4 x5).2 ++ [(o, .inl (cL, 1, .inr (.inl f)))]) rfl (by decide) rfl (by decide) (by decide) rfl (by decide) ?_
  refine j_i2l h (v := (fX7_word σ x1 x2 x3 x4 x5).1.toInt64) dL_word_14 rfl ?_
  refine j_lastore hL 25 2 (f := f) rfl rfl (i := 0) vp01 (w' := (fx a cI cZ (fX7_word σ x1 x2 x3 x4 x5).2 ++ [(o, .inl (cL, 1, .inr (.inl (vp_updL f 0 (fX7_word σ x1 x2 x3 x4 x5).1.toInt64))))])) rfl dL_word_15 ?_
  refine j_goto h dL_word_16 (tgt := 31) (by decide) ?_
  refine j_iconst h (v := 0) dL_word_31 (by decide) ?_
  refine j_widen (k := 1) (n := 6) (Nat.le_of_ble_eq_true rfl) (Nat.le_of_ble_eq_true rfl) ?_
  exact j_ireturn hL hr rfl rfl dL_word_32
set_option maxRecDepth 100000 in
set_option maxHeartbeats 4000000 in
theorem hL_word_1 (l : Launch) (hl : l.stackTraces = false) (D : va_G) (a : Nat → Nat) (cI cZ cL : ClassId) (σ : St) (o : Nat) (f : Nat → Int64) (x1 x2 x3 x4 x5 : Int32) (hk : cX7_wordx σ x1 x2 x3 x4 x5 = 1) : Ch l yL_word cL_word 8 (some .int) [(0, 16, 19, 13), (0, 16, 23, 15), (0, 16, 27, 17)] TB rhL_word D vwCl [(cI, .int), (cZ, .boolean), (cL, .long)] [.ref (a 0), .int x1, .int x2, .int x3, .int x4, .int x5, .ref o] (fx a cI cZ σ ++ [(o, .inl (cL, 1, .inr (.inl f)))]) (fx a cI cZ σ ++ [(o, .inl (cL, 1, .inr (.inl f)))]) 1 := by
  refine Ch_of (cc := cL_word) (maxL := 8) (ret := (some .int)) (hh := [(0, 16, 19, 13), (0, 16, 23, 15), (0, 16, 27, 17)]) (by decide +kernel) TBg (Nat.le_of_ble_eq_true rfl) ?_
  intro p e s m args below meth c A hL hr htab hZ
  have h : jC p s m args meth c cL_word 8 yL_word.cls TB D vwCl [(cI, .int), (cZ, .boolean)] A := jC_sub hL [0, 1] rfl
  have hts := h.2.2.2.2.1
  refine j_aload h 6 dL_word_0 rfl ?_
  refine j_iconst h (v := 0) dL_word_2 (by decide) ?_
  refine j_aload_n h 0 dL_word_3 rfl rfl ?_
  refine j_iload_n h 1 dL_word_4 rfl rfl ?_
  refine j_iload_n h 2 dL_word_5 rfl rfl ?_
  refine j_iload_n h 3 dL_word_6 rfl rfl ?_
  refine j_iload h 4 dL_word_7 rfl ?_
  refine j_iload h 5 dL_word_9 rfl ?_
  refine j_callT h hZ (tX7_word_1 l hl D a cI cZ σ x1 x2 x3 x4 x5 hk) tb2_76 tb2_77 tb2_78 tb1_1 tb2_79 ⟨rfl, rfl⟩ (n := 5) ⟨rfl, by decide, by decide, by decide +kernel⟩ ⟨Nat.le_of_ble_eq_true rfl, Nat.le_of_ble_eq_true rfl⟩ (As := [.int x1, .int x2, .int x3, .int x4, .int x5]) rfl (ci := 7) rfl (q0 := 0) rfl (st := [.int 0, .ref o]) rfl (Nat.le_of_ble_eq_true rfl) dL_word_11 ⟨Nat.le_of_ble_eq_true rfl, Nat.le_of_ble_eq_true rfl⟩ [0, 1, 2, 3, 4, 5, 6, 7, 8, 9, 10, 11, 12, 13, 14, 15, 16, 17, 18, 19, 20, 21, 22, 23, 24] [25] [1, 2, 3, 4, 5, 6, 7, 8, 9, 10, 11, 12, 13, 14, 15, 16, 17, 18, 19, 20, 21, 22, 23, 24, 25, 0] (wr := [(o, .inl (cL, 1, .inr (.inl f)))]) rfl (by decide) rfl (by decide) (by decide) rfl (by decide) [] ⟨0, 16, 19, 13⟩ [⟨0, 16, 23, 15⟩, ⟨0, 16, 27, 17⟩] (tab3 htab) (fun z hz => by cases hz) (by decide) (by decide) (hts _ tb2_73) (z_cast (by decide +kernel) hZ) (fun q9 => ?_)
  refine j_astore h (i := 7) dL_word_19 (Nat.le_of_ble_eq_true rfl) rfl ?_
  refine j_iconst h (v := 1) dL_word_21 (by decide) ?_
  exact j_ireturn hL hr rfl rfl dL_word_22
set_option maxRecDepth 100000 in
set_option maxHeartbeats 4000000 in
theorem hL_word_2 (l : Launch) (hl : l.stackTraces = false) (D : va_G) (a : Nat → Nat) (cI cZ cL : ClassId) (σ : St) (o : Nat) (f : Nat → Int64) (x1 x2 x3 x4 x5 : Int32) (hk : cX7_wordx σ x1 x2 x3 x4 x5 = 2) : Ch l yL_word cL_word 8 (some .int) [(0, 16, 19, 13), (0, 16, 23, 15), (0, 16, 27, 17)] TB rhL_word D vwCl [(cI, .int), (cZ, .boolean), (cL, .long)] [.ref (a 0), .int x1, .int x2, .int x3, .int x4, .int x5, .ref o] (fx a cI cZ σ ++ [(o, .inl (cL, 1, .inr (.inl f)))]) (fx a cI cZ σ ++ [(o, .inl (cL, 1, .inr (.inl f)))]) 2 := by
  refine Ch_of (cc := cL_word) (maxL := 8) (ret := (some .int)) (hh := [(0, 16, 19, 13), (0, 16, 23, 15), (0, 16, 27, 17)]) (by decide +kernel) TBg (Nat.le_of_ble_eq_true rfl) ?_
  intro p e s m args below meth c A hL hr htab hZ
  have h : jC p s m args meth c cL_word 8 yL_word.cls TB D vwCl [(cI, .int), (cZ, .boolean)] A := jC_sub hL [0, 1] rfl
  have hts := h.2.2.2.2.1
  refine j_aload h 6 dL_word_0 rfl ?_
  refine j_iconst h (v := 0) dL_word_2 (by decide) ?_
  refine j_aload_n h 0 dL_word_3 rfl rfl ?_
  refine j_iload_n h 1 dL_word_4 rfl rfl ?_
  refine j_iload_n h 2 dL_word_5 rfl rfl ?_
  refine j_iload_n h 3 dL_word_6 rfl rfl ?_
  refine j_iload h 4 dL_word_7 rfl ?_
  refine j_iload h 5 dL_word_9 rfl ?_
  refine j_callT h hZ (tX7_word_2 l hl D a cI cZ σ x1 x2 x3 x4 x5 hk) tb2_76 tb2_77 tb2_78 tb1_1 tb2_79 ⟨rfl, rfl⟩ (n := 5) ⟨rfl, by decide, by decide, by decide +kernel⟩ ⟨Nat.le_of_ble_eq_true rfl, Nat.le_of_ble_eq_true rfl⟩ (As := [.int x1, .int x2, .int x3, .int x4, .int x5]) rfl (ci := 7) rfl (q0 := 0) rfl (st := [.int 0, .ref o]) rfl (Nat.le_of_ble_eq_true rfl) dL_word_11 ⟨Nat.le_of_ble_eq_true rfl, Nat.le_of_ble_eq_true rfl⟩ [0, 1, 2, 3, 4, 5, 6, 7, 8, 9, 10, 11, 12, 13, 14, 15, 16, 17, 18, 19, 20, 21, 22, 23, 24] [25] [1, 2, 3, 4, 5, 6, 7, 8, 9, 10, 11, 12, 13, 14, 15, 16, 17, 18, 19, 20, 21, 22, 23, 24, 25, 0] (wr := [(o, .inl (cL, 1, .inr (.inl f)))]) rfl (by decide) rfl (by decide) (by decide) rfl (by decide) [⟨0, 16, 19, 13⟩] ⟨0, 16, 23, 15⟩ [⟨0, 16, 27, 17⟩] (tab3 htab) (fun z hz => by
    simp only [List.mem_cons, List.not_mem_nil, or_false] at hz
    rcases hz with rfl
    · exact ⟨by decide, "java/lang/IllegalArgumentException", hts _ tb2_73, z_nc (q := ("java/lang/IllegalStateException", "java/lang/IllegalArgumentException")) (by decide +kernel) hZ⟩) (by decide) (by decide) (hts _ tb2_74) (z_cast (by decide +kernel) hZ) (fun q9 => ?_)
  refine j_astore h (i := 7) dL_word_23 (Nat.le_of_ble_eq_true rfl) rfl ?_
  refine j_iconst h (v := 2) dL_word_25 (by decide) ?_
  exact j_ireturn hL hr rfl rfl dL_word_26
set_option maxRecDepth 100000 in
set_option maxHeartbeats 4000000 in
theorem hL_word_3 (l : Launch) (hl : l.stackTraces = false) (D : va_G) (a : Nat → Nat) (cI cZ cL : ClassId) (σ : St) (o : Nat) (f : Nat → Int64) (x1 x2 x3 x4 x5 : Int32) (hk : cX7_wordx σ x1 x2 x3 x4 x5 = 3) : Ch l yL_word cL_word 8 (some .int) [(0, 16, 19, 13), (0, 16, 23, 15), (0, 16, 27, 17)] TB rhL_word D vwCl [(cI, .int), (cZ, .boolean), (cL, .long)] [.ref (a 0), .int x1, .int x2, .int x3, .int x4, .int x5, .ref o] (fx a cI cZ σ ++ [(o, .inl (cL, 1, .inr (.inl f)))]) (fx a cI cZ σ ++ [(o, .inl (cL, 1, .inr (.inl f)))]) 3 := by
  refine Ch_of (cc := cL_word) (maxL := 8) (ret := (some .int)) (hh := [(0, 16, 19, 13), (0, 16, 23, 15), (0, 16, 27, 17)]) (by decide +kernel) TBg (Nat.le_of_ble_eq_true rfl) ?_
  intro p e s m args below meth c A hL hr htab hZ
  have h : jC p s m args meth c cL_word 8 yL_word.cls TB D vwCl [(cI, .int), (cZ, .boolean)] A := jC_sub hL [0, 1] rfl
  have hts := h.2.2.2.2.1
  refine j_aload h 6 dL_word_0 rfl ?_
  refine j_iconst h (v := 0) dL_word_2 (by decide) ?_
  refine j_aload_n h 0 dL_word_3 rfl rfl ?_
  refine j_iload_n h 1 dL_word_4 rfl rfl ?_
  refine j_iload_n h 2 dL_word_5 rfl rfl ?_
  refine j_iload_n h 3 dL_word_6 rfl rfl ?_
  refine j_iload h 4 dL_word_7 rfl ?_
  refine j_iload h 5 dL_word_9 rfl ?_
  refine j_callT h hZ (tX7_word_3 l hl D a cI cZ σ x1 x2 x3 x4 x5 hk) tb2_76 tb2_77 tb2_78 tb1_1 tb2_79 ⟨rfl, rfl⟩ (n := 5) ⟨rfl, by decide, by decide, by decide +kernel⟩ ⟨Nat.le_of_ble_eq_true rfl, Nat.le_of_ble_eq_true rfl⟩ (As := [.int x1, .int x2, .int x3, .int x4, .int x5]) rfl (ci := 7) rfl (q0 := 0) rfl (st := [.int 0, .ref o]) rfl (Nat.le_of_ble_eq_true rfl) dL_word_11 ⟨Nat.le_of_ble_eq_true rfl, Nat.le_of_ble_eq_true rfl⟩ [0, 1, 2, 3, 4, 5, 6, 7, 8, 9, 10, 11, 12, 13, 14, 15, 16, 17, 18, 19, 20, 21, 22, 23, 24] [25] [1, 2, 3, 4, 5, 6, 7, 8, 9, 10, 11, 12, 13, 14, 15, 16, 17, 18, 19, 20, 21, 22, 23, 24, 25, 0] (wr := [(o, .inl (cL, 1, .inr (.inl f)))]) rfl (by decide) rfl (by decide) (by decide) rfl (by decide) [⟨0, 16, 19, 13⟩, ⟨0, 16, 23, 15⟩] ⟨0, 16, 27, 17⟩ [] (tab3 htab) (fun z hz => by
    simp only [List.mem_cons, List.not_mem_nil, or_false] at hz
    rcases hz with rfl | rfl
    · exact ⟨by decide, "java/lang/IllegalArgumentException", hts _ tb2_73, z_nc (q := ("java/lang/UnsupportedOperationException", "java/lang/IllegalArgumentException")) (by decide +kernel) hZ⟩
    · exact ⟨by decide, "java/lang/IllegalStateException", hts _ tb2_74, z_nc (q := ("java/lang/UnsupportedOperationException", "java/lang/IllegalStateException")) (by decide +kernel) hZ⟩) (by decide) (by decide) (hts _ tb2_75) (z_cast (by decide +kernel) hZ) (fun q9 => ?_)
  refine j_astore h (i := 7) dL_word_27 (Nat.le_of_ble_eq_true rfl) rfl ?_
  refine j_iconst h (v := 3) dL_word_29 (by decide) ?_
  exact j_ireturn hL hr rfl rfl dL_word_30
theorem cX7_wordv (σ : St) (x1 x2 x3 x4 x5 : Int32) : cX7_wordx σ x1 x2 x3 x4 x5 = 0 ∨ cX7_wordx σ x1 x2 x3 x4 x5 = 1 ∨ cX7_wordx σ x1 x2 x3 x4 x5 = 2 ∨ cX7_wordx σ x1 x2 x3 x4 x5 = 3 := by
  unfold cX7_wordx
  dsimp only
  repeat' split
  all_goals decide
theorem hL_word (l : Launch) (hl : l.stackTraces = false) (D : va_G) (a : Nat → Nat) (cI cZ cL : ClassId) (σ : St) (o : Nat) (f : Nat → Int64) (x1 x2 x3 x4 x5 : Int32) : Ch l yL_word cL_word 8 (some .int) [(0, 16, 19, 13), (0, 16, 23, 15), (0, 16, 27, 17)] TB rhL_word D vwCl [(cI, .int), (cZ, .boolean), (cL, .long)] [.ref (a 0), .int x1, .int x2, .int x3, .int x4, .int x5, .ref o] (fx a cI cZ σ ++ [(o, .inl (cL, 1, .inr (.inl f)))]) (fx a cI cZ (if cX7_wordx σ x1 x2 x3 x4 x5 = 0 then (fX7_word σ x1 x2 x3 x4 x5).2 else σ) ++ [(o, .inl (cL, 1, .inr (.inl (if cX7_wordx σ x1 x2 x3 x4 x5 = 0 then vp_updL f 0 (fX7_word σ x1 x2 x3 x4 x5).1.toInt64 else f))))]) (cX7_wordx σ x1 x2 x3 x4 x5) := by
  rcases cX7_wordv σ x1 x2 x3 x4 x5 with hk | hk | hk | hk
  · have z := hL_word_0 l D a cI cZ cL σ o f x1 x2 x3 x4 x5 hk
    rw [if_pos hk, if_pos hk, hk]
    exact z
  · have z := hL_word_1 l hl D a cI cZ cL σ o f x1 x2 x3 x4 x5 hk
    have hn : ¬ cX7_wordx σ x1 x2 x3 x4 x5 = 0 := by rw [hk]; decide
    rw [if_neg hn, if_neg hn, hk]
    exact z
  · have z := hL_word_2 l hl D a cI cZ cL σ o f x1 x2 x3 x4 x5 hk
    have hn : ¬ cX7_wordx σ x1 x2 x3 x4 x5 = 0 := by rw [hk]; decide
    rw [if_neg hn, if_neg hn, hk]
    exact z
  · have z := hL_word_3 l hl D a cI cZ cL σ o f x1 x2 x3 x4 x5 hk
    have hn : ¬ cX7_wordx σ x1 x2 x3 x4 x5 = 0 := by rw [hk]; decide
    rw [if_neg hn, if_neg hn, hk]
    exact z
def rhL_set : Room := { frames := 7, cells := 1, slots := 6, locals := 113 }
set_option maxRecDepth 100000 in
set_option maxHeartbeats 4000000 in
theorem hL_set_0 (l : Launch) (D : va_G) (a : Nat → Nat) (cI cZ cL : ClassId) (σ : St) (o : Nat) (f : Nat → Int64) (x1 x2 : Int32) (hx : x1 = 0 ∨ x1 = 1) (hf : (σ.1 16) = 0 ∨ (σ.1 16) = 1) (hk : cX7_setx σ x1 x2 = 0) : Ch l yL_set cL_set 5 (some .int) [(0, 17, 20, 13), (0, 17, 24, 15)] TB rhL_set D vwCl [(cI, .int), (cZ, .boolean), (cL, .long)] [.ref (a 0), .int x1, .int x2, .ref o] (fx a cI cZ σ ++ [(o, .inl (cL, 1, .inr (.inl f)))]) (fx a cI cZ (fX7_set σ x1 x2).2 ++ [(o, .inl (cL, 1, .inr (.inl (vp_updL f 0 (if (fX7_set σ x1 x2).1 = 0 then (0 : Int64) else 1)))))]) 0 := by
  refine Ch_of (cc := cL_set) (maxL := 5) (ret := (some .int)) (hh := [(0, 17, 20, 13), (0, 17, 24, 15)]) (by decide +kernel) TBg (Nat.le_of_ble_eq_true rfl) ?_
  intro p e s m args below meth c A hL hr htab hZ
  have h : jC p s m args meth c cL_set 5 yL_set.cls TB D vwCl [(cI, .int), (cZ, .boolean)] A := jC_sub hL [0, 1] rfl
  refine j_aload_n h 3 dL_set_0 rfl rfl ?_
  refine j_iconst h (v := 0) dL_set_1 (by decide) ?_
  refine j_aload_n h 0 dL_set_2 rfl rfl ?_
  refine j_iload_n h 1 dL_set_3 rfl rfl ?_
  refine j_iload_n h 2 dL_set_4 rfl rfl ?_
  refine j_callViG h (kX7_set l D a cI cZ σ x1 x2 hx hf hk) tb2_201 tb2_202 tb2_203 tb1_1 tb2_204 ⟨rfl, rfl⟩ (n := 2) ⟨rfl, by decide, by decide, by decide +kernel⟩ ⟨Nat.le_of_ble_eq_true rfl, Nat.le_of_ble_eq_true rfl⟩ (As := [.int x1, .int x2]) rfl (ci := 7) rfl (q0 := 0) rfl (st := [.int 0, .ref o]) rfl (Nat.le_of_ble_eq_true rfl) dL_set_5 ⟨Nat.le_of_ble_eq_true rfl, Nat.le_of_ble_eq_true rfl⟩ [0, 1, 2, 3, 4, 5, 6, 7, 8, 9, 10, 11, 12, 13, 14, 15, 16, 17, 18, 19, 20, 21, 22, 23, 24] [25] [1, 2, 3, 4, 5, 6, 7, 8, 9, 10, 11, 12, 13, 14, 15, 16, 17, 18, 19, 20, 21, 22, 23, 24, 25, 0] (wr := [(o, .inl (cL, 1, .inr (.inl f)))]) (w2 := fx a cI cZ (fX7_set σ x1 x2).2 ++ [(o, .inl (cL, 1, .inr (.inl f)))]) rfl (by decide) rfl (by decide) (by decide) rfl (by decide) ?_
  generalize hv : (fX7_set σ x1 x2).1 = v9
  refine j_if_eq h dL_set_8 (tgt := 15) (by decide) (fun c1 => ?_) (fun c1 => ?_)
  · refine j_lconst h (v := 0) dL_set_15 (by decide) ?_
    refine j_lastore hL 25 2 (f := f) rfl rfl (i := 0) vp01 (w' := fx a cI cZ (fX7_set σ x1 x2).2 ++ [(o, .inl (cL, 1, .inr (.inl (vp_updL f 0 0))))]) rfl dL_set_16 ?_
    refine j_goto h dL_set_17 (tgt := 28) (by decide) ?_
    refine j_iconst h (v := 0) dL_set_28 (by decide) ?_
    refine j_widen (k := 1) (n := 6) (Nat.le_of_ble_eq_true rfl) (Nat.le_of_ble_eq_true rfl) ?_
    exact j_ireturn hL hr rfl (by rw [if_pos c1]) dL_set_29
  · refine j_lconst h (v := 1) dL_set_11 (by decide) ?_
    refine j_goto h dL_set_12 (tgt := 16) (by decide) ?_
    refine j_lastore hL 25 2 (f := f) rfl rfl (i := 0) vp01 (w' := fx a cI cZ (fX7_set σ x1 x2).2 ++ [(o, .inl (cL, 1, .inr (.inl (vp_updL f 0 1))))]) rfl dL_set_16 ?_
    refine j_goto h dL_set_17 (tgt := 28) (by decide) ?_
    refine j_iconst h (v := 0) dL_set_28 (by decide) ?_
    refine j_widen (k := 1) (n := 6) (Nat.le_of_ble_eq_true rfl) (Nat.le_of_ble_eq_true rfl) ?_
    exact j_ireturn hL hr rfl (by rw [if_neg c1]) dL_set_29
set_option maxRecDepth 100000 in
set_option maxHeartbeats 4000000 in
theorem hL_set_1 (l : Launch) (hl : l.stackTraces = false) (D : va_G) (a : Nat → Nat) (cI cZ cL : ClassId) (σ : St) (o : Nat) (f : Nat → Int64) (x1 x2 : Int32) (hk : cX7_setx σ x1 x2 = 1) : Ch l yL_set cL_set 5 (some .int) [(0, 17, 20, 13), (0, 17, 24, 15)] TB rhL_set D vwCl [(cI, .int), (cZ, .boolean), (cL, .long)] [.ref (a 0), .int x1, .int x2, .ref o] (fx a cI cZ σ ++ [(o, .inl (cL, 1, .inr (.inl f)))]) (fx a cI cZ σ ++ [(o, .inl (cL, 1, .inr (.inl f)))]) 1 := by
  refine Ch_of (cc := cL_set) (maxL := 5) (ret := (some .int)) (hh := [(0, 17, 20, 13), (0, 17, 24, 15)]) (by decide +kernel) TBg (Nat.le_of_ble_eq_true rfl) ?_
  intro p e s m args below meth c A hL hr htab hZ
  have h : jC p s m args meth c cL_set 5 yL_set.cls TB D vwCl [(cI, .int), (cZ, .boolean)] A := jC_sub hL [0, 1] rfl
  have hts := h.2.2.2.2.1
  refine j_aload_n h 3 dL_set_0 rfl rfl ?_
  refine j_iconst h (v := 0) dL_set_1 (by decide) ?_
  refine j_aload_n h 0 dL_set_2 rfl rfl ?_
  refine j_iload_n h 1 dL_set_3 rfl rfl ?_
  refine j_iload_n h 2 dL_set_4 rfl rfl ?_
  refine j_callT h hZ (tX7_set_1 l hl D a cI cZ σ x1 x2 hk) tb2_201 tb2_202 tb2_203 tb1_1 tb2_204 ⟨rfl, rfl⟩ (n := 2) ⟨rfl, by decide, by decide, by decide +kernel⟩ ⟨Nat.le_of_ble_eq_true rfl, Nat.le_of_ble_eq_true rfl⟩ (As := [.int x1, .int x2]) rfl (ci := 7) rfl (q0 := 0) rfl (st := [.int 0, .ref o]) rfl (Nat.le_of_ble_eq_true rfl) dL_set_5 ⟨Nat.le_of_ble_eq_true rfl, Nat.le_of_ble_eq_true rfl⟩ [0, 1, 2, 3, 4, 5, 6, 7, 8, 9, 10, 11, 12, 13, 14, 15, 16, 17, 18, 19, 20, 21, 22, 23, 24] [25] [1, 2, 3, 4, 5, 6, 7, 8, 9, 10, 11, 12, 13, 14, 15, 16, 17, 18, 19, 20, 21, 22, 23, 24, 25, 0] (wr := [(o, .inl (cL, 1, .inr (.inl f)))]) rfl (by decide) rfl (by decide) (by decide) rfl (by decide) [] ⟨0, 17, 20, 13⟩ [⟨0, 17, 24, 15⟩] (tab2 htab) (fun z hz => by cases hz) (by decide) (by decide) (hts _ tb2_73) (z_cast (by decide +kernel) hZ) (fun q9 => ?_)
  refine j_astore h (i := 4) dL_set_20 (Nat.le_of_ble_eq_true rfl) rfl ?_
  refine j_iconst h (v := 1) dL_set_22 (by decide) ?_
  exact j_ireturn hL hr rfl rfl dL_set_23
set_option maxRecDepth 100000 in
set_option maxHeartbeats 4000000 in
theorem hL_set_2 (l : Launch) (hl : l.stackTraces = false) (D : va_G) (a : Nat → Nat) (cI cZ cL : ClassId) (σ : St) (o : Nat) (f : Nat → Int64) (x1 x2 : Int32) (hk : cX7_setx σ x1 x2 = 2) : Ch l yL_set cL_set 5 (some .int) [(0, 17, 20, 13), (0, 17, 24, 15)] TB rhL_set D vwCl [(cI, .int), (cZ, .boolean), (cL, .long)] [.ref (a 0), .int x1, .int x2, .ref o] (fx a cI cZ σ ++ [(o, .inl (cL, 1, .inr (.inl f)))]) (fx a cI cZ σ ++ [(o, .inl (cL, 1, .inr (.inl f)))]) 2 := by
  refine Ch_of (cc := cL_set) (maxL := 5) (ret := (some .int)) (hh := [(0, 17, 20, 13), (0, 17, 24, 15)]) (by decide +kernel) TBg (Nat.le_of_ble_eq_true rfl) ?_
  intro p e s m args below meth c A hL hr htab hZ
  have h : jC p s m args meth c cL_set 5 yL_set.cls TB D vwCl [(cI, .int), (cZ, .boolean)] A := jC_sub hL [0, 1] rfl
  have hts := h.2.2.2.2.1
  refine j_aload_n h 3 dL_set_0 rfl rfl ?_
  refine j_iconst h (v := 0) dL_set_1 (by decide) ?_
  refine j_aload_n h 0 dL_set_2 rfl rfl ?_
  refine j_iload_n h 1 dL_set_3 rfl rfl ?_
  refine j_iload_n h 2 dL_set_4 rfl rfl ?_
  refine j_callT h hZ (tX7_set_2 l hl D a cI cZ σ x1 x2 hk) tb2_201 tb2_202 tb2_203 tb1_1 tb2_204 ⟨rfl, rfl⟩ (n := 2) ⟨rfl, by decide, by decide, by decide +kernel⟩ ⟨Nat.le_of_ble_eq_true rfl, Nat.le_of_ble_eq_true rfl⟩ (As := [.int x1, .int x2]) rfl (ci := 7) rfl (q0 := 0) rfl (st := [.int 0, .ref o]) rfl (Nat.le_of_ble_eq_true rfl) dL_set_5 ⟨Nat.le_of_ble_eq_true rfl, Nat.le_of_ble_eq_true rfl⟩ [0, 1, 2, 3, 4, 5, 6, 7, 8, 9, 10, 11, 12, 13, 14, 15, 16, 17, 18, 19, 20, 21, 22, 23, 24] [25] [1, 2, 3, 4, 5, 6, 7, 8, 9, 10, 11, 12, 13, 14, 15, 16, 17, 18, 19, 20, 21, 22, 23, 24, 25, 0] (wr := [(o, .inl (cL, 1, .inr (.inl f)))]) rfl (by decide) rfl (by decide) (by decide) rfl (by decide) [⟨0, 17, 20, 13⟩] ⟨0, 17, 24, 15⟩ [] (tab2 htab) (fun z hz => by
    simp only [List.mem_cons, List.not_mem_nil, or_false] at hz
    rcases hz with rfl
    · exact ⟨by decide, "java/lang/IllegalArgumentException", hts _ tb2_73, z_nc (q := ("java/lang/IllegalStateException", "java/lang/IllegalArgumentException")) (by decide +kernel) hZ⟩) (by decide) (by decide) (hts _ tb2_74) (z_cast (by decide +kernel) hZ) (fun q9 => ?_)
  refine j_astore h (i := 4) dL_set_24 (Nat.le_of_ble_eq_true rfl) rfl ?_
  refine j_iconst h (v := 2) dL_set_26 (by decide) ?_
  exact j_ireturn hL hr rfl rfl dL_set_27
theorem cX7_setv (σ : St) (x1 x2 : Int32) : cX7_setx σ x1 x2 = 0 ∨ cX7_setx σ x1 x2 = 1 ∨ cX7_setx σ x1 x2 = 2 := by
  unfold cX7_setx
  dsimp only
  repeat' split
  all_goals decide
theorem hL_set (l : Launch) (hl : l.stackTraces = false) (D : va_G) (a : Nat → Nat) (cI cZ cL : ClassId) (σ : St) (o : Nat) (f : Nat → Int64) (x1 x2 : Int32) (hx : x1 = 0 ∨ x1 = 1) (hf : (σ.1 16) = 0 ∨ (σ.1 16) = 1) : Ch l yL_set cL_set 5 (some .int) [(0, 17, 20, 13), (0, 17, 24, 15)] TB rhL_set D vwCl [(cI, .int), (cZ, .boolean), (cL, .long)] [.ref (a 0), .int x1, .int x2, .ref o] (fx a cI cZ σ ++ [(o, .inl (cL, 1, .inr (.inl f)))]) (fx a cI cZ (if cX7_setx σ x1 x2 = 0 then (fX7_set σ x1 x2).2 else σ) ++ [(o, .inl (cL, 1, .inr (.inl (if cX7_setx σ x1 x2 = 0 then vp_updL f 0 (if (fX7_set σ x1 x2).1 = 0 then (0 : Int64) else 1) else f))))]) (cX7_setx σ x1 x2) := by
  rcases cX7_setv σ x1 x2 with hk | hk | hk
  · have z := hL_set_0 l D a cI cZ cL σ o f x1 x2 hx hf hk
    rw [if_pos hk, if_pos hk, hk]
    exact z
  · have z := hL_set_1 l hl D a cI cZ cL σ o f x1 x2 hk
    have hn : ¬ cX7_setx σ x1 x2 = 0 := by rw [hk]; decide
    rw [if_neg hn, if_neg hn, hk]
    exact z
  · have z := hL_set_2 l hl D a cI cZ cL σ o f x1 x2 hk
    have hn : ¬ cX7_setx σ x1 x2 = 0 := by rw [hk]; decide
    rw [if_neg hn, if_neg hn, hk]
    exact z
def rhL_run : Room := { frames := 7, cells := 1, slots := 6, locals := 159 }
set_option maxRecDepth 100000 in
set_option maxHeartbeats 4000000 in
theorem hL_run_0 (l : Launch) (D : va_G) (a : Nat → Nat) (cI cZ cL : ClassId) (σ : St) (o : Nat) (f : Nat → Int64) (x1 : Int32) (hs : shp σ) (hk : cX7_runx σ x1 = 0) : Ch l yL_run cL_run 4 (some .int) [(0, 9, 12, 13), (0, 9, 15, 15)] TB rhL_run D vwCl [(cI, .int), (cZ, .boolean), (cL, .long)] [.ref (a 0), .int x1, .ref o] (fx a cI cZ σ ++ [(o, .inl (cL, 1, .inr (.inl f)))]) (fx a cI cZ (fX7_run σ x1).2 ++ [(o, .inl (cL, 1, .inr (.inl (vp_updL f 0 (fX7_run σ x1).1.toInt64))))]) 0 := by
  refine Ch_of (cc := cL_run) (maxL := 4) (ret := (some .int)) (hh := [(0, 9, 12, 13), (0, 9, 15, 15)]) (by decide +kernel) TBg (Nat.le_of_ble_eq_true rfl) ?_
  intro p e s m args below meth c A hL hr htab hZ
  have h : jC p s m args meth c cL_run 4 yL_run.cls TB D vwCl [(cI, .int), (cZ, .boolean)] A := jC_sub hL [0, 1] rfl
  refine j_aload_n h 2 dL_run_0 rfl rfl ?_
  refine j_iconst h (v := 0) dL_run_1 (by decide) ?_
  refine j_aload_n h 0 dL_run_2 rfl rfl ?_
  refine j_iload_n h 1 dL_run_3 rfl rfl ?_
  refine j_callViG h (kX7_run l D a cI cZ σ x1 hs hk) tb2_209 tb2_210 tb2_211 tb1_1 tb2_212 ⟨rfl, rfl⟩ (n := 1) ⟨rfl, by decide, by decide, by decide +kernel⟩ ⟨Nat.le_of_ble_eq_true rfl, Nat.le_of_ble_eq_true rfl⟩ (As := [.int x1]) rfl (ci := 7) rfl (q0 := 0) rfl (st := [.int 0, .ref o]) rfl (Nat.le_of_ble_eq_true rfl) dL_run_4 ⟨Nat.le_of_ble_eq_true rfl, Nat.le_of_ble_eq_true rfl⟩ [0, 1, 2, 3, 4, 5, 6, 7, 8, 9, 10, 11, 12, 13, 14, 15, 16, 17, 18, 19, 20, 21, 22, 23, 24] [25] [1, 2, 3, 4, 5, 6, 7, 8, 9, 10, 11, 12, 13, 14, 15, 16, 17, 18, 19, 20, 21, 22, 23, 24, 25, 0] (wr := [(o, .inl (cL, 1, .inr (.inl f)))]) (w2 := fx a cI cZ (fX7_run σ x1).2 ++ [(o, .inl (cL, 1, .inr (.inl f)))]) rfl (by decide) rfl (by decide) (by decide) rfl (by decide) ?_
  refine j_i2l h (v := (fX7_run σ x1).1.toInt64) dL_run_7 rfl ?_
  refine j_lastore hL 25 2 (f := f) rfl rfl (i := 0) vp01 (w' := (fx a cI cZ (fX7_run σ x1).2 ++ [(o, .inl (cL, 1, .inr (.inl (vp_updL f 0 (fX7_run σ x1).1.toInt64))))])) rfl dL_run_8 ?_
  refine j_goto h dL_run_9 (tgt := 18) (by decide) ?_
  refine j_iconst h (v := 0) dL_run_18 (by decide) ?_
  refine j_widen (k := 1) (n := 6) (Nat.le_of_ble_eq_true rfl) (Nat.le_of_ble_eq_true rfl) ?_
  exact j_ireturn hL hr rfl rfl dL_run_19
set_option maxRecDepth 100000 in
set_option maxHeartbeats 4000000 in
theorem hL_run_1 (l : Launch) (hl : l.stackTraces = false) (D : va_G) (a : Nat → Nat) (cI cZ cL : ClassId) (σ : St) (o : Nat) (f : Nat → Int64) (x1 : Int32) (hk : cX7_runx σ x1 = 1) : Ch l yL_run cL_run 4 (some .int) [(0, 9, 12, 13), (0, 9, 15, 15)] TB rhL_run D vwCl [(cI, .int), (cZ, .boolean), (cL, .long)] [.ref (a 0), .int x1, .ref o] (fx a cI cZ σ ++ [(o, .inl (cL, 1, .inr (.inl f)))]) (fx a cI cZ σ ++ [(o, .inl (cL, 1, .inr (.inl f)))]) 1 := by
  refine Ch_of (cc := cL_run) (maxL := 4) (ret := (some .int)) (hh := [(0, 9, 12, 13), (0, 9, 15, 15)]) (by decide +kernel) TBg (Nat.le_of_ble_eq_true rfl) ?_
  intro p e s m args below meth c A hL hr htab hZ
  have h : jC p s m args meth c cL_run 4 yL_run.cls TB D vwCl [(cI, .int), (cZ, .boolean)] A := jC_sub hL [0, 1] rfl
  have hts := h.2.2.2.2.1
  refine j_aload_n h 2 dL_run_0 rfl rfl ?_
  refine j_iconst h (v := 0) dL_run_1 (by decide) ?_
  refine j_aload_n h 0 dL_run_2 rfl rfl ?_
  refine j_iload_n h 1 dL_run_3 rfl rfl ?_
  refine j_callT h hZ (tX7_run_1 l hl D a cI cZ σ x1 hk) tb2_209 tb2_210 tb2_211 tb1_1 tb2_212 ⟨rfl, rfl⟩ (n := 1) ⟨rfl, by decide, by decide, by decide +kernel⟩ ⟨Nat.le_of_ble_eq_true rfl, Nat.le_of_ble_eq_true rfl⟩ (As := [.int x1]) rfl (ci := 7) rfl (q0 := 0) rfl (st := [.int 0, .ref o]) rfl (Nat.le_of_ble_eq_true rfl) dL_run_4 ⟨Nat.le_of_ble_eq_true rfl, Nat.le_of_ble_eq_true rfl⟩ [0, 1, 2, 3, 4, 5, 6, 7, 8, 9, 10, 11, 12, 13, 14, 15, 16, 17, 18, 19, 20, 21, 22, 23, 24] [25] [1, 2, 3, 4, 5, 6, 7, 8, 9, 10, 11, 12, 13, 14, 15, 16, 17, 18, 19, 20, 21, 22, 23, 24, 25, 0] (wr := [(o, .inl (cL, 1, .inr (.inl f)))]) rfl (by decide) rfl (by decide) (by decide) rfl (by decide) [] ⟨0, 9, 12, 13⟩ [⟨0, 9, 15, 15⟩] (tab2 htab) (fun z hz => by cases hz) (by decide) (by decide) (hts _ tb2_73) (z_cast (by decide +kernel) hZ) (fun q9 => ?_)
  refine j_astore_n h (i := 3) dL_run_12 rfl (Nat.le_of_ble_eq_true rfl) rfl ?_
  refine j_iconst h (v := 1) dL_run_13 (by decide) ?_
  exact j_ireturn hL hr rfl rfl dL_run_14
set_option maxRecDepth 100000 in
set_option maxHeartbeats 4000000 in
theorem hL_run_2 (l : Launch) (hl : l.stackTraces = false) (D : va_G) (a : Nat → Nat) (cI cZ cL : ClassId) (σ : St) (o : Nat) (f : Nat → Int64) (x1 : Int32) (hk : cX7_runx σ x1 = 2) : Ch l yL_run cL_run 4 (some .int) [(0, 9, 12, 13), (0, 9, 15, 15)] TB rhL_run D vwCl [(cI, .int), (cZ, .boolean), (cL, .long)] [.ref (a 0), .int x1, .ref o] (fx a cI cZ σ ++ [(o, .inl (cL, 1, .inr (.inl f)))]) (fx a cI cZ σ ++ [(o, .inl (cL, 1, .inr (.inl f)))]) 2 := by
  refine Ch_of (cc := cL_run) (maxL := 4) (ret := (some .int)) (hh := [(0, 9, 12, 13), (0, 9, 15, 15)]) (by decide +kernel) TBg (Nat.le_of_ble_eq_true rfl) ?_
  intro p e s m args below meth c A hL hr htab hZ
  have h : jC p s m args meth c cL_run 4 yL_run.cls TB D vwCl [(cI, .int), (cZ, .boolean)] A := jC_sub hL [0, 1] rfl
  have hts := h.2.2.2.2.1
  refine j_aload_n h 2 dL_run_0 rfl rfl ?_
  refine j_iconst h (v := 0) dL_run_1 (by decide) ?_
  refine j_aload_n h 0 dL_run_2 rfl rfl ?_
  refine j_iload_n h 1 dL_run_3 rfl rfl ?_
  refine j_callT h hZ (tX7_run_2 l hl D a cI cZ σ x1 hk) tb2_209 tb2_210 tb2_211 tb1_1 tb2_212 ⟨rfl, rfl⟩ (n := 1) ⟨rfl, by decide, by decide, by decide +kernel⟩ ⟨Nat.le_of_ble_eq_true rfl, Nat.le_of_ble_eq_true rfl⟩ (As := [.int x1]) rfl (ci := 7) rfl (q0 := 0) rfl (st := [.int 0, .ref o]) rfl (Nat.le_of_ble_eq_true rfl) dL_run_4 ⟨Nat.le_of_ble_eq_true rfl, Nat.le_of_ble_eq_true rfl⟩ [0, 1, 2, 3, 4, 5, 6, 7, 8, 9, 10, 11, 12, 13, 14, 15, 16, 17, 18, 19, 20, 21, 22, 23, 24] [25] [1, 2, 3, 4, 5, 6, 7, 8, 9, 10, 11, 12, 13, 14, 15, 16, 17, 18, 19, 20, 21, 22, 23, 24, 25, 0] (wr := [(o, .inl (cL, 1, .inr (.inl f)))]) rfl (by decide) rfl (by decide) (by decide) rfl (by decide) [⟨0, 9, 12, 13⟩] ⟨0, 9, 15, 15⟩ [] (tab2 htab) (fun z hz => by
    simp only [List.mem_cons, List.not_mem_nil, or_false] at hz
    rcases hz with rfl
    · exact ⟨by decide, "java/lang/IllegalArgumentException", hts _ tb2_73, z_nc (q := ("java/lang/IllegalStateException", "java/lang/IllegalArgumentException")) (by decide +kernel) hZ⟩) (by decide) (by decide) (hts _ tb2_74) (z_cast (by decide +kernel) hZ) (fun q9 => ?_)
  refine j_astore_n h (i := 3) dL_run_15 rfl (Nat.le_of_ble_eq_true rfl) rfl ?_
  refine j_iconst h (v := 2) dL_run_16 (by decide) ?_
  exact j_ireturn hL hr rfl rfl dL_run_17
theorem cX7_runv (σ : St) (x1 : Int32) : cX7_runx σ x1 = 0 ∨ cX7_runx σ x1 = 1 ∨ cX7_runx σ x1 = 2 := by
  unfold cX7_runx
  dsimp only
  repeat' split
  all_goals decide
theorem hL_run (l : Launch) (hl : l.stackTraces = false) (D : va_G) (a : Nat → Nat) (cI cZ cL : ClassId) (σ : St) (o : Nat) (f : Nat → Int64) (x1 : Int32) (hs : shp σ) : Ch l yL_run cL_run 4 (some .int) [(0, 9, 12, 13), (0, 9, 15, 15)] TB rhL_run D vwCl [(cI, .int), (cZ, .boolean), (cL, .long)] [.ref (a 0), .int x1, .ref o] (fx a cI cZ σ ++ [(o, .inl (cL, 1, .inr (.inl f)))]) (fx a cI cZ (if cX7_runx σ x1 = 0 then (fX7_run σ x1).2 else σ) ++ [(o, .inl (cL, 1, .inr (.inl (if cX7_runx σ x1 = 0 then vp_updL f 0 (fX7_run σ x1).1.toInt64 else f))))]) (cX7_runx σ x1) := by
  rcases cX7_runv σ x1 with hk | hk | hk
  · have z := hL_run_0 l D a cI cZ cL σ o f x1 hs hk
    rw [if_pos hk, if_pos hk, hk]
    exact z
  · have z := hL_run_1 l hl D a cI cZ cL σ o f x1 hk
    have hn : ¬ cX7_runx σ x1 = 0 := by rw [hk]; decide
    rw [if_neg hn, if_neg hn, hk]
    exact z
  · have z := hL_run_2 l hl D a cI cZ cL σ o f x1 hk
    have hn : ¬ cX7_runx σ x1 = 0 := by rw [hk]; decide
    rw [if_neg hn, if_neg hn, hk]
    exact z
def rhL_stage : Room := { frames := 7, cells := 1, slots := 6, locals := 112 }
set_option maxRecDepth 100000 in
set_option maxHeartbeats 4000000 in
theorem hL_stage_0 (l : Launch) (D : va_G) (a : Nat → Nat) (cI cZ cL : ClassId) (σ : St) (o : Nat) (f : Nat → Int64) (x1 x2 : Int32) (hk : cX7_stagex σ x1 x2 = 0) : Ch l yL_stage cL_stage 5 (some .int) [(0, 10, 13, 31)] TB rhL_stage D vwCl [(cI, .int), (cZ, .boolean), (cL, .long)] [.ref (a 0), .int x1, .int x2, .ref o] (fx a cI cZ σ ++ [(o, .inl (cL, 1, .inr (.inl f)))]) (fx a cI cZ σ ++ [(o, .inl (cL, 1, .inr (.inl (vp_updL f 0 (fX7_stage σ x1 x2).toInt64))))]) 0 := by
  refine Ch_of (cc := cL_stage) (maxL := 5) (ret := (some .int)) (hh := [(0, 10, 13, 31)]) (by decide +kernel) TBg (Nat.le_of_ble_eq_true rfl) ?_
  intro p e s m args below meth c A hL hr htab hZ
  have h : jC p s m args meth c cL_stage 5 yL_stage.cls TB D vwCl [(cI, .int), (cZ, .boolean)] A := jC_sub hL [0, 1] rfl
  refine j_aload_n h 3 dL_stage_0 rfl rfl ?_
  refine j_iconst h (v := 0) dL_stage_1 (by decide) ?_
  refine j_aload_n h 0 dL_stage_2 rfl rfl ?_
  refine j_iload_n h 1 dL_stage_3 rfl rfl ?_
  refine j_iload_n h 2 dL_stage_4 rfl rfl ?_
  refine j_callViG h (kX7_stage l D a cI cZ σ x1 x2 hk) tb3_124 tb3_125 tb3_126 tb1_1 tb3_127 ⟨rfl, rfl⟩ (n := 2) ⟨rfl, by decide, by decide, by decide +kernel⟩ ⟨Nat.le_of_ble_eq_true rfl, Nat.le_of_ble_eq_true rfl⟩ (As := [.int x1, .int x2]) rfl (ci := 7) rfl (q0 := 0) rfl (st := [.int 0, .ref o]) rfl (Nat.le_of_ble_eq_true rfl) dL_stage_5 ⟨Nat.le_of_ble_eq_true rfl, Nat.le_of_ble_eq_true rfl⟩ [0, 1, 2, 3, 4, 5, 6, 7, 8, 9, 10, 11, 12, 13, 14, 15, 16, 17, 18, 19, 20, 21, 22, 23, 24] [25] [1, 2, 3, 4, 5, 6, 7, 8, 9, 10, 11, 12, 13, 14, 15, 16, 17, 18, 19, 20, 21, 22, 23, 24, 25, 0] (wr := [(o, .inl (cL, 1, .inr (.inl f)))]) (w2 := fx a cI cZ σ ++ [(o, .inl (cL, 1, .inr (.inl f)))]) rfl (by decide) rfl (by decide) (by decide) rfl (by decide) ?_
  refine j_i2l h (v := (fX7_stage σ x1 x2).toInt64) dL_stage_8 rfl ?_
  refine j_lastore hL 25 2 (f := f) rfl rfl (i := 0) vp01 (w' := (fx a cI cZ σ ++ [(o, .inl (cL, 1, .inr (.inl (vp_updL f 0 (fX7_stage σ x1 x2).toInt64))))])) rfl dL_stage_9 ?_
  refine j_goto h dL_stage_10 (tgt := 17) (by decide) ?_
  refine j_iconst h (v := 0) dL_stage_17 (by decide) ?_
  refine j_widen (k := 1) (n := 6) (Nat.le_of_ble_eq_true rfl) (Nat.le_of_ble_eq_true rfl) ?_
  exact j_ireturn hL hr rfl rfl dL_stage_18
set_option maxRecDepth 100000 in
set_option maxHeartbeats 4000000 in
theorem hL_stage_1 (l : Launch) (hl : l.stackTraces = false) (D : va_G) (a : Nat → Nat) (cI cZ cL : ClassId) (σ : St) (o : Nat) (f : Nat → Int64) (x1 x2 : Int32) (hk : cX7_stagex σ x1 x2 = 1) : Ch l yL_stage cL_stage 5 (some .int) [(0, 10, 13, 31)] TB rhL_stage D vwCl [(cI, .int), (cZ, .boolean), (cL, .long)] [.ref (a 0), .int x1, .int x2, .ref o] (fx a cI cZ σ ++ [(o, .inl (cL, 1, .inr (.inl f)))]) (fx a cI cZ σ ++ [(o, .inl (cL, 1, .inr (.inl f)))]) 1 := by
  refine Ch_of (cc := cL_stage) (maxL := 5) (ret := (some .int)) (hh := [(0, 10, 13, 31)]) (by decide +kernel) TBg (Nat.le_of_ble_eq_true rfl) ?_
  intro p e s m args below meth c A hL hr htab hZ
  have h : jC p s m args meth c cL_stage 5 yL_stage.cls TB D vwCl [(cI, .int), (cZ, .boolean)] A := jC_sub hL [0, 1] rfl
  have hts := h.2.2.2.2.1
  refine j_aload_n h 3 dL_stage_0 rfl rfl ?_
  refine j_iconst h (v := 0) dL_stage_1 (by decide) ?_
  refine j_aload_n h 0 dL_stage_2 rfl rfl ?_
  refine j_iload_n h 1 dL_stage_3 rfl rfl ?_
  refine j_iload_n h 2 dL_stage_4 rfl rfl ?_
  refine j_callT h hZ (tX7_stage_1 l hl D a cI cZ σ x1 x2 hk) tb3_124 tb3_125 tb3_126 tb1_1 tb3_127 ⟨rfl, rfl⟩ (n := 2) ⟨rfl, by decide, by decide, by decide +kernel⟩ ⟨Nat.le_of_ble_eq_true rfl, Nat.le_of_ble_eq_true rfl⟩ (As := [.int x1, .int x2]) rfl (ci := 7) rfl (q0 := 0) rfl (st := [.int 0, .ref o]) rfl (Nat.le_of_ble_eq_true rfl) dL_stage_5 ⟨Nat.le_of_ble_eq_true rfl, Nat.le_of_ble_eq_true rfl⟩ [0, 1, 2, 3, 4, 5, 6, 7, 8, 9, 10, 11, 12, 13, 14, 15, 16, 17, 18, 19, 20, 21, 22, 23, 24] [25] [1, 2, 3, 4, 5, 6, 7, 8, 9, 10, 11, 12, 13, 14, 15, 16, 17, 18, 19, 20, 21, 22, 23, 24, 25, 0] (wr := [(o, .inl (cL, 1, .inr (.inl f)))]) rfl (by decide) rfl (by decide) (by decide) rfl (by decide) [] ⟨0, 10, 13, 31⟩ [] (tab1 htab) (fun z hz => by cases hz) (by decide) (by decide) (hts _ tb3_123) (z_cast (by decide +kernel) hZ) (fun q9 => ?_)
  refine j_astore h (i := 4) dL_stage_13 (Nat.le_of_ble_eq_true rfl) rfl ?_
  refine j_iconst h (v := 1) dL_stage_15 (by decide) ?_
  exact j_ireturn hL hr rfl rfl dL_stage_16
theorem cX7_stagev (σ : St) (x1 x2 : Int32) : cX7_stagex σ x1 x2 = 0 ∨ cX7_stagex σ x1 x2 = 1 := by
  unfold cX7_stagex
  dsimp only
  repeat' split
  all_goals decide
theorem hL_stage (l : Launch) (hl : l.stackTraces = false) (D : va_G) (a : Nat → Nat) (cI cZ cL : ClassId) (σ : St) (o : Nat) (f : Nat → Int64) (x1 x2 : Int32) : Ch l yL_stage cL_stage 5 (some .int) [(0, 10, 13, 31)] TB rhL_stage D vwCl [(cI, .int), (cZ, .boolean), (cL, .long)] [.ref (a 0), .int x1, .int x2, .ref o] (fx a cI cZ σ ++ [(o, .inl (cL, 1, .inr (.inl f)))]) (fx a cI cZ (if cX7_stagex σ x1 x2 = 0 then σ else σ) ++ [(o, .inl (cL, 1, .inr (.inl (if cX7_stagex σ x1 x2 = 0 then vp_updL f 0 (fX7_stage σ x1 x2).toInt64 else f))))]) (cX7_stagex σ x1 x2) := by
  rcases cX7_stagev σ x1 x2 with hk | hk
  · have z := hL_stage_0 l D a cI cZ cL σ o f x1 x2 hk
    rw [if_pos hk, if_pos hk, hk]
    exact z
  · have z := hL_stage_1 l hl D a cI cZ cL σ o f x1 x2 hk
    have hn : ¬ cX7_stagex σ x1 x2 = 0 := by rw [hk]; decide
    rw [if_neg hn, if_neg hn, hk]
    exact z
def rhL_committed : Room := { frames := 7, cells := 1, slots := 6, locals := 112 }
set_option maxRecDepth 100000 in
set_option maxHeartbeats 4000000 in
theorem hL_committed_0 (l : Launch) (D : va_G) (a : Nat → Nat) (cI cZ cL : ClassId) (σ : St) (o : Nat) (f : Nat → Int64) (x1 x2 : Int32) (hk : cX7_committedx σ x1 x2 = 0) : Ch l yL_committed cL_committed 5 (some .int) [(0, 10, 13, 31)] TB rhL_committed D vwCl [(cI, .int), (cZ, .boolean), (cL, .long)] [.ref (a 0), .int x1, .int x2, .ref o] (fx a cI cZ σ ++ [(o, .inl (cL, 1, .inr (.inl f)))]) (fx a cI cZ σ ++ [(o, .inl (cL, 1, .inr (.inl (vp_updL f 0 (fX7_committed σ x1 x2).toInt64))))]) 0 := by
  refine Ch_of (cc := cL_committed) (maxL := 5) (ret := (some .int)) (hh := [(0, 10, 13, 31)]) (by decide +kernel) TBg (Nat.le_of_ble_eq_true rfl) ?_
  intro p e s m args below meth c A hL hr htab hZ
  have h : jC p s m args meth c cL_committed 5 yL_committed.cls TB D vwCl [(cI, .int), (cZ, .boolean)] A := jC_sub hL [0, 1] rfl
  refine j_aload_n h 3 dL_committed_0 rfl rfl ?_
  refine j_iconst h (v := 0) dL_committed_1 (by decide) ?_
  refine j_aload_n h 0 dL_committed_2 rfl rfl ?_
  refine j_iload_n h 1 dL_committed_3 rfl rfl ?_
  refine j_iload_n h 2 dL_committed_4 rfl rfl ?_
  refine j_callViG h (kX7_committed l D a cI cZ σ x1 x2 hk) tb3_149 tb3_150 tb3_151 tb1_1 tb3_152 ⟨rfl, rfl⟩ (n := 2) ⟨rfl, by decide, by decide, by decide +kernel⟩ ⟨Nat.le_of_ble_eq_true rfl, Nat.le_of_ble_eq_true rfl⟩ (As := [.int x1, .int x2]) rfl (ci := 7) rfl (q0 := 0) rfl (st := [.int 0, .ref o]) rfl (Nat.le_of_ble_eq_true rfl) dL_committed_5 ⟨Nat.le_of_ble_eq_true rfl, Nat.le_of_ble_eq_true rfl⟩ [0, 1, 2, 3, 4, 5, 6, 7, 8, 9, 10, 11, 12, 13, 14, 15, 16, 17, 18, 19, 20, 21, 22, 23, 24] [25] [1, 2, 3, 4, 5, 6, 7, 8, 9, 10, 11, 12, 13, 14, 15, 16, 17, 18, 19, 20, 21, 22, 23, 24, 25, 0] (wr := [(o, .inl (cL, 1, .inr (.inl f)))]) (w2 := fx a cI cZ σ ++ [(o, .inl (cL, 1, .inr (.inl f)))]) rfl (by decide) rfl (by decide) (by decide) rfl (by decide) ?_
  refine j_i2l h (v := (fX7_committed σ x1 x2).toInt64) dL_committed_8 rfl ?_
  refine j_lastore hL 25 2 (f := f) rfl rfl (i := 0) vp01 (w' := (fx a cI cZ σ ++ [(o, .inl (cL, 1, .inr (.inl (vp_updL f 0 (fX7_committed σ x1 x2).toInt64))))])) rfl dL_committed_9 ?_
  refine j_goto h dL_committed_10 (tgt := 17) (by decide) ?_
  refine j_iconst h (v := 0) dL_committed_17 (by decide) ?_
  refine j_widen (k := 1) (n := 6) (Nat.le_of_ble_eq_true rfl) (Nat.le_of_ble_eq_true rfl) ?_
  exact j_ireturn hL hr rfl rfl dL_committed_18
set_option maxRecDepth 100000 in
set_option maxHeartbeats 4000000 in
theorem hL_committed_1 (l : Launch) (hl : l.stackTraces = false) (D : va_G) (a : Nat → Nat) (cI cZ cL : ClassId) (σ : St) (o : Nat) (f : Nat → Int64) (x1 x2 : Int32) (hk : cX7_committedx σ x1 x2 = 1) : Ch l yL_committed cL_committed 5 (some .int) [(0, 10, 13, 31)] TB rhL_committed D vwCl [(cI, .int), (cZ, .boolean), (cL, .long)] [.ref (a 0), .int x1, .int x2, .ref o] (fx a cI cZ σ ++ [(o, .inl (cL, 1, .inr (.inl f)))]) (fx a cI cZ σ ++ [(o, .inl (cL, 1, .inr (.inl f)))]) 1 := by
  refine Ch_of (cc := cL_committed) (maxL := 5) (ret := (some .int)) (hh := [(0, 10, 13, 31)]) (by decide +kernel) TBg (Nat.le_of_ble_eq_true rfl) ?_
  intro p e s m args below meth c A hL hr htab hZ
  have h : jC p s m args meth c cL_committed 5 yL_committed.cls TB D vwCl [(cI, .int), (cZ, .boolean)] A := jC_sub hL [0, 1] rfl
  have hts := h.2.2.2.2.1
  refine j_aload_n h 3 dL_committed_0 rfl rfl ?_
  refine j_iconst h (v := 0) dL_committed_1 (by decide) ?_
  refine j_aload_n h 0 dL_committed_2 rfl rfl ?_
  refine j_iload_n h 1 dL_committed_3 rfl rfl ?_
  refine j_iload_n h 2 dL_committed_4 rfl rfl ?_
  refine j_callT h hZ (tX7_committed_1 l hl D a cI cZ σ x1 x2 hk) tb3_149 tb3_150 tb3_151 tb1_1 tb3_152 ⟨rfl, rfl⟩ (n := 2) ⟨rfl, by decide, by decide, by decide +kernel⟩ ⟨Nat.le_of_ble_eq_true rfl, Nat.le_of_ble_eq_true rfl⟩ (As := [.int x1, .int x2]) rfl (ci := 7) rfl (q0 := 0) rfl (st := [.int 0, .ref o]) rfl (Nat.le_of_ble_eq_true rfl) dL_committed_5 ⟨Nat.le_of_ble_eq_true rfl, Nat.le_of_ble_eq_true rfl⟩ [0, 1, 2, 3, 4, 5, 6, 7, 8, 9, 10, 11, 12, 13, 14, 15, 16, 17, 18, 19, 20, 21, 22, 23, 24] [25] [1, 2, 3, 4, 5, 6, 7, 8, 9, 10, 11, 12, 13, 14, 15, 16, 17, 18, 19, 20, 21, 22, 23, 24, 25, 0] (wr := [(o, .inl (cL, 1, .inr (.inl f)))]) rfl (by decide) rfl (by decide) (by decide) rfl (by decide) [] ⟨0, 10, 13, 31⟩ [] (tab1 htab) (fun z hz => by cases hz) (by decide) (by decide) (hts _ tb3_123) (z_cast (by decide +kernel) hZ) (fun q9 => ?_)
  refine j_astore h (i := 4) dL_committed_13 (Nat.le_of_ble_eq_true rfl) rfl ?_
  refine j_iconst h (v := 1) dL_committed_15 (by decide) ?_
  exact j_ireturn hL hr rfl rfl dL_committed_16
theorem cX7_committedv (σ : St) (x1 x2 : Int32) : cX7_committedx σ x1 x2 = 0 ∨ cX7_committedx σ x1 x2 = 1 := by
  unfold cX7_committedx
  dsimp only
  repeat' split
  all_goals decide
theorem hL_committed (l : Launch) (hl : l.stackTraces = false) (D : va_G) (a : Nat → Nat) (cI cZ cL : ClassId) (σ : St) (o : Nat) (f : Nat → Int64) (x1 x2 : Int32) : Ch l yL_committed cL_committed 5 (some .int) [(0, 10, 13, 31)] TB rhL_committed D vwCl [(cI, .int), (cZ, .boolean), (cL, .long)] [.ref (a 0), .int x1, .int x2, .ref o] (fx a cI cZ σ ++ [(o, .inl (cL, 1, .inr (.inl f)))]) (fx a cI cZ (if cX7_committedx σ x1 x2 = 0 then σ else σ) ++ [(o, .inl (cL, 1, .inr (.inl (if cX7_committedx σ x1 x2 = 0 then vp_updL f 0 (fX7_committed σ x1 x2).toInt64 else f))))]) (cX7_committedx σ x1 x2) := by
  rcases cX7_committedv σ x1 x2 with hk | hk
  · have z := hL_committed_0 l D a cI cZ cL σ o f x1 x2 hk
    rw [if_pos hk, if_pos hk, hk]
    exact z
  · have z := hL_committed_1 l hl D a cI cZ cL σ o f x1 x2 hk
    have hn : ¬ cX7_committedx σ x1 x2 = 0 := by rw [hk]; decide
    rw [if_neg hn, if_neg hn, hk]
    exact z
def rhL_register : Room := { frames := 7, cells := 1, slots := 6, locals := 111 }
set_option maxRecDepth 100000 in
set_option maxHeartbeats 4000000 in
theorem hL_register_0 (l : Launch) (D : va_G) (a : Nat → Nat) (cI cZ cL : ClassId) (σ : St) (o : Nat) (f : Nat → Int64) (x1 : Int32) (hk : cX7_registerx σ x1 = 0) : Ch l yL_register cL_register 4 (some .int) [(0, 9, 12, 31)] TB rhL_register D vwCl [(cI, .int), (cZ, .boolean), (cL, .long)] [.ref (a 0), .int x1, .ref o] (fx a cI cZ σ ++ [(o, .inl (cL, 1, .inr (.inl f)))]) (fx a cI cZ σ ++ [(o, .inl (cL, 1, .inr (.inl (vp_updL f 0 (fX7_register σ x1).toInt64))))]) 0 := by
  refine Ch_of (cc := cL_register) (maxL := 4) (ret := (some .int)) (hh := [(0, 9, 12, 31)]) (by decide +kernel) TBg (Nat.le_of_ble_eq_true rfl) ?_
  intro p e s m args below meth c A hL hr htab hZ
  have h : jC p s m args meth c cL_register 4 yL_register.cls TB D vwCl [(cI, .int), (cZ, .boolean)] A := jC_sub hL [0, 1] rfl
  refine j_aload_n h 2 dL_register_0 rfl rfl ?_
  refine j_iconst h (v := 0) dL_register_1 (by decide) ?_
  refine j_aload_n h 0 dL_register_2 rfl rfl ?_
  refine j_iload_n h 1 dL_register_3 rfl rfl ?_
  refine j_callViG h (kX7_register l D a cI cZ σ x1 hk) tb3_165 tb3_166 tb3_167 tb1_1 tb3_168 ⟨rfl, rfl⟩ (n := 1) ⟨rfl, by decide, by decide, by decide +kernel⟩ ⟨Nat.le_of_ble_eq_true rfl, Nat.le_of_ble_eq_true rfl⟩ (As := [.int x1]) rfl (ci := 7) rfl (q0 := 0) rfl (st := [.int 0, .ref o]) rfl (Nat.le_of_ble_eq_true rfl) dL_register_4 ⟨Nat.le_of_ble_eq_true rfl, Nat.le_of_ble_eq_true rfl⟩ [0, 1, 2, 3, 4, 5, 6, 7, 8, 9, 10, 11, 12, 13, 14, 15, 16, 17, 18, 19, 20, 21, 22, 23, 24] [25] [1, 2, 3, 4, 5, 6, 7, 8, 9, 10, 11, 12, 13, 14, 15, 16, 17, 18, 19, 20, 21, 22, 23, 24, 25, 0] (wr := [(o, .inl (cL, 1, .inr (.inl f)))]) (w2 := fx a cI cZ σ ++ [(o, .inl (cL, 1, .inr (.inl f)))]) rfl (by decide) rfl (by decide) (by decide) rfl (by decide) ?_
  refine j_i2l h (v := (fX7_register σ x1).toInt64) dL_register_7 rfl ?_
  refine j_lastore hL 25 2 (f := f) rfl rfl (i := 0) vp01 (w' := (fx a cI cZ σ ++ [(o, .inl (cL, 1, .inr (.inl (vp_updL f 0 (fX7_register σ x1).toInt64))))])) rfl dL_register_8 ?_
  refine j_goto h dL_register_9 (tgt := 15) (by decide) ?_
  refine j_iconst h (v := 0) dL_register_15 (by decide) ?_
  refine j_widen (k := 1) (n := 6) (Nat.le_of_ble_eq_true rfl) (Nat.le_of_ble_eq_true rfl) ?_
  exact j_ireturn hL hr rfl rfl dL_register_16
set_option maxRecDepth 100000 in
set_option maxHeartbeats 4000000 in
theorem hL_register_1 (l : Launch) (hl : l.stackTraces = false) (D : va_G) (a : Nat → Nat) (cI cZ cL : ClassId) (σ : St) (o : Nat) (f : Nat → Int64) (x1 : Int32) (hk : cX7_registerx σ x1 = 1) : Ch l yL_register cL_register 4 (some .int) [(0, 9, 12, 31)] TB rhL_register D vwCl [(cI, .int), (cZ, .boolean), (cL, .long)] [.ref (a 0), .int x1, .ref o] (fx a cI cZ σ ++ [(o, .inl (cL, 1, .inr (.inl f)))]) (fx a cI cZ σ ++ [(o, .inl (cL, 1, .inr (.inl f)))]) 1 := by
  refine Ch_of (cc := cL_register) (maxL := 4) (ret := (some .int)) (hh := [(0, 9, 12, 31)]) (by decide +kernel) TBg (Nat.le_of_ble_eq_true rfl) ?_
  intro p e s m args below meth c A hL hr htab hZ
  have h : jC p s m args meth c cL_register 4 yL_register.cls TB D vwCl [(cI, .int), (cZ, .boolean)] A := jC_sub hL [0, 1] rfl
  have hts := h.2.2.2.2.1
  refine j_aload_n h 2 dL_register_0 rfl rfl ?_
  refine j_iconst h (v := 0) dL_register_1 (by decide) ?_
  refine j_aload_n h 0 dL_register_2 rfl rfl ?_
  refine j_iload_n h 1 dL_register_3 rfl rfl ?_
  refine j_callT h hZ (tX7_register_1 l hl D a cI cZ σ x1 hk) tb3_165 tb3_166 tb3_167 tb1_1 tb3_168 ⟨rfl, rfl⟩ (n := 1) ⟨rfl, by decide, by decide, by decide +kernel⟩ ⟨Nat.le_of_ble_eq_true rfl, Nat.le_of_ble_eq_true rfl⟩ (As := [.int x1]) rfl (ci := 7) rfl (q0 := 0) rfl (st := [.int 0, .ref o]) rfl (Nat.le_of_ble_eq_true rfl) dL_register_4 ⟨Nat.le_of_ble_eq_true rfl, Nat.le_of_ble_eq_true rfl⟩ [0, 1, 2, 3, 4, 5, 6, 7, 8, 9, 10, 11, 12, 13, 14, 15, 16, 17, 18, 19, 20, 21, 22, 23, 24] [25] [1, 2, 3, 4, 5, 6, 7, 8, 9, 10, 11, 12, 13, 14, 15, 16, 17, 18, 19, 20, 21, 22, 23, 24, 25, 0] (wr := [(o, .inl (cL, 1, .inr (.inl f)))]) rfl (by decide) rfl (by decide) (by decide) rfl (by decide) [] ⟨0, 9, 12, 31⟩ [] (tab1 htab) (fun z hz => by cases hz) (by decide) (by decide) (hts _ tb3_123) (z_cast (by decide +kernel) hZ) (fun q9 => ?_)
  refine j_astore_n h (i := 3) dL_register_12 rfl (Nat.le_of_ble_eq_true rfl) rfl ?_
  refine j_iconst h (v := 1) dL_register_13 (by decide) ?_
  exact j_ireturn hL hr rfl rfl dL_register_14
theorem cX7_registerv (σ : St) (x1 : Int32) : cX7_registerx σ x1 = 0 ∨ cX7_registerx σ x1 = 1 := by
  unfold cX7_registerx
  dsimp only
  repeat' split
  all_goals decide
theorem hL_register (l : Launch) (hl : l.stackTraces = false) (D : va_G) (a : Nat → Nat) (cI cZ cL : ClassId) (σ : St) (o : Nat) (f : Nat → Int64) (x1 : Int32) : Ch l yL_register cL_register 4 (some .int) [(0, 9, 12, 31)] TB rhL_register D vwCl [(cI, .int), (cZ, .boolean), (cL, .long)] [.ref (a 0), .int x1, .ref o] (fx a cI cZ σ ++ [(o, .inl (cL, 1, .inr (.inl f)))]) (fx a cI cZ (if cX7_registerx σ x1 = 0 then σ else σ) ++ [(o, .inl (cL, 1, .inr (.inl (if cX7_registerx σ x1 = 0 then vp_updL f 0 (fX7_register σ x1).toInt64 else f))))]) (cX7_registerx σ x1) := by
  rcases cX7_registerv σ x1 with hk | hk
  · have z := hL_register_0 l D a cI cZ cL σ o f x1 hk
    rw [if_pos hk, if_pos hk, hk]
    exact z
  · have z := hL_register_1 l hl D a cI cZ cL σ o f x1 hk
    have hn : ¬ cX7_registerx σ x1 = 0 := by rw [hk]; decide
    rw [if_neg hn, if_neg hn, hk]
    exact z
def rhL_memory : Room := { frames := 7, cells := 1, slots := 6, locals := 111 }
set_option maxRecDepth 100000 in
set_option maxHeartbeats 4000000 in
theorem hL_memory_0 (l : Launch) (D : va_G) (a : Nat → Nat) (cI cZ cL : ClassId) (σ : St) (o : Nat) (f : Nat → Int64) (x1 : Int32) (hk : cX7_memoryx σ x1 = 0) : Ch l yL_memory cL_memory 4 (some .int) [(0, 9, 12, 31)] TB rhL_memory D vwCl [(cI, .int), (cZ, .boolean), (cL, .long)] [.ref (a 0), .int x1, .ref o] (fx a cI cZ σ ++ [(o, .inl (cL, 1, .inr (.inl f)))]) (fx a cI cZ σ ++ [(o, .inl (cL, 1, .inr (.inl (vp_updL f 0 (fX7_memory σ x1).toInt64))))]) 0 := by
  refine Ch_of (cc := cL_memory) (maxL := 4) (ret := (some .int)) (hh := [(0, 9, 12, 31)]) (by decide +kernel) TBg (Nat.le_of_ble_eq_true rfl) ?_
  intro p e s m args below meth c A hL hr htab hZ
  have h : jC p s m args meth c cL_memory 4 yL_memory.cls TB D vwCl [(cI, .int), (cZ, .boolean)] A := jC_sub hL [0, 1] rfl
  refine j_aload_n h 2 dL_memory_0 rfl rfl ?_
  refine j_iconst h (v := 0) dL_memory_1 (by decide) ?_
  refine j_aload_n h 0 dL_memory_2 rfl rfl ?_
  refine j_iload_n h 1 dL_memory_3 rfl rfl ?_
  refine j_callViG h (kX7_memory l D a cI cZ σ x1 hk) tb3_173 tb3_174 tb3_175 tb1_1 tb3_176 ⟨rfl, rfl⟩ (n := 1) ⟨rfl, by decide, by decide, by decide +kernel⟩ ⟨Nat.le_of_ble_eq_true rfl, Nat.le_of_ble_eq_true rfl⟩ (As := [.int x1]) rfl (ci := 7) rfl (q0 := 0) rfl (st := [.int 0, .ref o]) rfl (Nat.le_of_ble_eq_true rfl) dL_memory_4 ⟨Nat.le_of_ble_eq_true rfl, Nat.le_of_ble_eq_true rfl⟩ [0, 1, 2, 3, 4, 5, 6, 7, 8, 9, 10, 11, 12, 13, 14, 15, 16, 17, 18, 19, 20, 21, 22, 23, 24] [25] [1, 2, 3, 4, 5, 6, 7, 8, 9, 10, 11, 12, 13, 14, 15, 16, 17, 18, 19, 20, 21, 22, 23, 24, 25, 0] (wr := [(o, .inl (cL, 1, .inr (.inl f)))]) (w2 := fx a cI cZ σ ++ [(o, .inl (cL, 1, .inr (.inl f)))]) rfl (by decide) rfl (by decide) (by decide) rfl (by decide) ?_
  refine j_i2l h (v := (fX7_memory σ x1).toInt64) dL_memory_7 rfl ?_
  refine j_lastore hL 25 2 (f := f) rfl rfl (i := 0) vp01 (w' := (fx a cI cZ σ ++ [(o, .inl (cL, 1, .inr (.inl (vp_updL f 0 (fX7_memory σ x1).toInt64))))])) rfl dL_memory_8 ?_
  refine j_goto h dL_memory_9 (tgt := 15) (by decide) ?_
  refine j_iconst h (v := 0) dL_memory_15 (by decide) ?_
  refine j_widen (k := 1) (n := 6) (Nat.le_of_ble_eq_true rfl) (Nat.le_of_ble_eq_true rfl) ?_
  exact j_ireturn hL hr rfl rfl dL_memory_16
set_option maxRecDepth 100000 in
set_option maxHeartbeats 4000000 in
theorem hL_memory_1 (l : Launch) (hl : l.stackTraces = false) (D : va_G) (a : Nat → Nat) (cI cZ cL : ClassId) (σ : St) (o : Nat) (f : Nat → Int64) (x1 : Int32) (hk : cX7_memoryx σ x1 = 1) : Ch l yL_memory cL_memory 4 (some .int) [(0, 9, 12, 31)] TB rhL_memory D vwCl [(cI, .int), (cZ, .boolean), (cL, .long)] [.ref (a 0), .int x1, .ref o] (fx a cI cZ σ ++ [(o, .inl (cL, 1, .inr (.inl f)))]) (fx a cI cZ σ ++ [(o, .inl (cL, 1, .inr (.inl f)))]) 1 := by
  refine Ch_of (cc := cL_memory) (maxL := 4) (ret := (some .int)) (hh := [(0, 9, 12, 31)]) (by decide +kernel) TBg (Nat.le_of_ble_eq_true rfl) ?_
  intro p e s m args below meth c A hL hr htab hZ
  have h : jC p s m args meth c cL_memory 4 yL_memory.cls TB D vwCl [(cI, .int), (cZ, .boolean)] A := jC_sub hL [0, 1] rfl
  have hts := h.2.2.2.2.1
  refine j_aload_n h 2 dL_memory_0 rfl rfl ?_
  refine j_iconst h (v := 0) dL_memory_1 (by decide) ?_
  refine j_aload_n h 0 dL_memory_2 rfl rfl ?_
  refine j_iload_n h 1 dL_memory_3 rfl rfl ?_
  refine j_callT h hZ (tX7_memory_1 l hl D a cI cZ σ x1 hk) tb3_173 tb3_174 tb3_175 tb1_1 tb3_176 ⟨rfl, rfl⟩ (n := 1) ⟨rfl, by decide, by decide, by decide +kernel⟩ ⟨Nat.le_of_ble_eq_true rfl, Nat.le_of_ble_eq_true rfl⟩ (As := [.int x1]) rfl (ci := 7) rfl (q0 := 0) rfl (st := [.int 0, .ref o]) rfl (Nat.le_of_ble_eq_true rfl) dL_memory_4 ⟨Nat.le_of_ble_eq_true rfl, Nat.le_of_ble_eq_true rfl⟩ [0, 1, 2, 3, 4, 5, 6, 7, 8, 9, 10, 11, 12, 13, 14, 15, 16, 17, 18, 19, 20, 21, 22, 23, 24] [25] [1, 2, 3, 4, 5, 6, 7, 8, 9, 10, 11, 12, 13, 14, 15, 16, 17, 18, 19, 20, 21, 22, 23, 24, 25, 0] (wr := [(o, .inl (cL, 1, .inr (.inl f)))]) rfl (by decide) rfl (by decide) (by decide) rfl (by decide) [] ⟨0, 9, 12, 31⟩ [] (tab1 htab) (fun z hz => by cases hz) (by decide) (by decide) (hts _ tb3_123) (z_cast (by decide +kernel) hZ) (fun q9 => ?_)
  refine j_astore_n h (i := 3) dL_memory_12 rfl (Nat.le_of_ble_eq_true rfl) rfl ?_
  refine j_iconst h (v := 1) dL_memory_13 (by decide) ?_
  exact j_ireturn hL hr rfl rfl dL_memory_14
theorem cX7_memoryv (σ : St) (x1 : Int32) : cX7_memoryx σ x1 = 0 ∨ cX7_memoryx σ x1 = 1 := by
  unfold cX7_memoryx
  dsimp only
  repeat' split
  all_goals decide
theorem hL_memory (l : Launch) (hl : l.stackTraces = false) (D : va_G) (a : Nat → Nat) (cI cZ cL : ClassId) (σ : St) (o : Nat) (f : Nat → Int64) (x1 : Int32) : Ch l yL_memory cL_memory 4 (some .int) [(0, 9, 12, 31)] TB rhL_memory D vwCl [(cI, .int), (cZ, .boolean), (cL, .long)] [.ref (a 0), .int x1, .ref o] (fx a cI cZ σ ++ [(o, .inl (cL, 1, .inr (.inl f)))]) (fx a cI cZ (if cX7_memoryx σ x1 = 0 then σ else σ) ++ [(o, .inl (cL, 1, .inr (.inl (if cX7_memoryx σ x1 = 0 then vp_updL f 0 (fX7_memory σ x1).toInt64 else f))))]) (cX7_memoryx σ x1) := by
  rcases cX7_memoryv σ x1 with hk | hk
  · have z := hL_memory_0 l D a cI cZ cL σ o f x1 hk
    rw [if_pos hk, if_pos hk, hk]
    exact z
  · have z := hL_memory_1 l hl D a cI cZ cL σ o f x1 hk
    have hn : ¬ cX7_memoryx σ x1 = 0 := by rw [hk]; decide
    rw [if_neg hn, if_neg hn, hk]
    exact z
def rhL_cause : Room := { frames := 7, cells := 1, slots := 6, locals := 111 }
set_option maxRecDepth 100000 in
set_option maxHeartbeats 4000000 in
theorem hL_cause_0 (l : Launch) (D : va_G) (a : Nat → Nat) (cI cZ cL : ClassId) (σ : St) (o : Nat) (f : Nat → Int64) (x1 : Int32) (hk : cX7_causex σ x1 = 0) : Ch l yL_cause cL_cause 4 (some .int) [(0, 9, 12, 31)] TB rhL_cause D vwCl [(cI, .int), (cZ, .boolean), (cL, .long)] [.ref (a 0), .int x1, .ref o] (fx a cI cZ σ ++ [(o, .inl (cL, 1, .inr (.inl f)))]) (fx a cI cZ σ ++ [(o, .inl (cL, 1, .inr (.inl (vp_updL f 0 (fX7_cause σ x1).toInt64))))]) 0 := by
  refine Ch_of (cc := cL_cause) (maxL := 4) (ret := (some .int)) (hh := [(0, 9, 12, 31)]) (by decide +kernel) TBg (Nat.le_of_ble_eq_true rfl) ?_
  intro p e s m args below meth c A hL hr htab hZ
  have h : jC p s m args meth c cL_cause 4 yL_cause.cls TB D vwCl [(cI, .int), (cZ, .boolean)] A := jC_sub hL [0, 1] rfl
  refine j_aload_n h 2 dL_cause_0 rfl rfl ?_
  refine j_iconst h (v := 0) dL_cause_1 (by decide) ?_
  refine j_aload_n h 0 dL_cause_2 rfl rfl ?_
  refine j_iload_n h 1 dL_cause_3 rfl rfl ?_
  refine j_callViG h (kX7_cause l D a cI cZ σ x1 hk) tb3_182 tb3_183 tb3_184 tb1_1 tb3_185 ⟨rfl, rfl⟩ (n := 1) ⟨rfl, by decide, by decide, by decide +kernel⟩ ⟨Nat.le_of_ble_eq_true rfl, Nat.le_of_ble_eq_true rfl⟩ (As := [.int x1]) rfl (ci := 7) rfl (q0 := 0) rfl (st := [.int 0, .ref o]) rfl (Nat.le_of_ble_eq_true rfl) dL_cause_4 ⟨Nat.le_of_ble_eq_true rfl, Nat.le_of_ble_eq_true rfl⟩ [0, 1, 2, 3, 4, 5, 6, 7, 8, 9, 10, 11, 12, 13, 14, 15, 16, 17, 18, 19, 20, 21, 22, 23, 24] [25] [1, 2, 3, 4, 5, 6, 7, 8, 9, 10, 11, 12, 13, 14, 15, 16, 17, 18, 19, 20, 21, 22, 23, 24, 25, 0] (wr := [(o, .inl (cL, 1, .inr (.inl f)))]) (w2 := fx a cI cZ σ ++ [(o, .inl (cL, 1, .inr (.inl f)))]) rfl (by decide) rfl (by decide) (by decide) rfl (by decide) ?_
  refine j_i2l h (v := (fX7_cause σ x1).toInt64) dL_cause_7 rfl ?_
  refine j_lastore hL 25 2 (f := f) rfl rfl (i := 0) vp01 (w' := (fx a cI cZ σ ++ [(o, .inl (cL, 1, .inr (.inl (vp_updL f 0 (fX7_cause σ x1).toInt64))))])) rfl dL_cause_8 ?_
  refine j_goto h dL_cause_9 (tgt := 15) (by decide) ?_
  refine j_iconst h (v := 0) dL_cause_15 (by decide) ?_
  refine j_widen (k := 1) (n := 6) (Nat.le_of_ble_eq_true rfl) (Nat.le_of_ble_eq_true rfl) ?_
  exact j_ireturn hL hr rfl rfl dL_cause_16
set_option maxRecDepth 100000 in
set_option maxHeartbeats 4000000 in
theorem hL_cause_1 (l : Launch) (hl : l.stackTraces = false) (D : va_G) (a : Nat → Nat) (cI cZ cL : ClassId) (σ : St) (o : Nat) (f : Nat → Int64) (x1 : Int32) (hk : cX7_causex σ x1 = 1) : Ch l yL_cause cL_cause 4 (some .int) [(0, 9, 12, 31)] TB rhL_cause D vwCl [(cI, .int), (cZ, .boolean), (cL, .long)] [.ref (a 0), .int x1, .ref o] (fx a cI cZ σ ++ [(o, .inl (cL, 1, .inr (.inl f)))]) (fx a cI cZ σ ++ [(o, .inl (cL, 1, .inr (.inl f)))]) 1 := by
  refine Ch_of (cc := cL_cause) (maxL := 4) (ret := (some .int)) (hh := [(0, 9, 12, 31)]) (by decide +kernel) TBg (Nat.le_of_ble_eq_true rfl) ?_
  intro p e s m args below meth c A hL hr htab hZ
  have h : jC p s m args meth c cL_cause 4 yL_cause.cls TB D vwCl [(cI, .int), (cZ, .boolean)] A := jC_sub hL [0, 1] rfl
  have hts := h.2.2.2.2.1
  refine j_aload_n h 2 dL_cause_0 rfl rfl ?_
  refine j_iconst h (v := 0) dL_cause_1 (by decide) ?_
  refine j_aload_n h 0 dL_cause_2 rfl rfl ?_
  refine j_iload_n h 1 dL_cause_3 rfl rfl ?_
  refine j_callT h hZ (tX7_cause_1 l hl D a cI cZ σ x1 hk) tb3_182 tb3_183 tb3_184 tb1_1 tb3_185 ⟨rfl, rfl⟩ (n := 1) ⟨rfl, by decide, by decide, by decide +kernel⟩ ⟨Nat.le_of_ble_eq_true rfl, Nat.le_of_ble_eq_true rfl⟩ (As := [.int x1]) rfl (ci := 7) rfl (q0 := 0) rfl (st := [.int 0, .ref o]) rfl (Nat.le_of_ble_eq_true rfl) dL_cause_4 ⟨Nat.le_of_ble_eq_true rfl, Nat.le_of_ble_eq_true rfl⟩ [0, 1, 2, 3, 4, 5, 6, 7, 8, 9, 10, 11, 12, 13, 14, 15, 16, 17, 18, 19, 20, 21, 22, 23, 24] [25] [1, 2, 3, 4, 5, 6, 7, 8, 9, 10, 11, 12, 13, 14, 15, 16, 17, 18, 19, 20, 21, 22, 23, 24, 25, 0] (wr := [(o, .inl (cL, 1, .inr (.inl f)))]) rfl (by decide) rfl (by decide) (by decide) rfl (by decide) [] ⟨0, 9, 12, 31⟩ [] (tab1 htab) (fun z hz => by cases hz) (by decide) (by decide) (hts _ tb3_123) (z_cast (by decide +kernel) hZ) (fun q9 => ?_)
  refine j_astore_n h (i := 3) dL_cause_12 rfl (Nat.le_of_ble_eq_true rfl) rfl ?_
  refine j_iconst h (v := 1) dL_cause_13 (by decide) ?_
  exact j_ireturn hL hr rfl rfl dL_cause_14
theorem cX7_causev (σ : St) (x1 : Int32) : cX7_causex σ x1 = 0 ∨ cX7_causex σ x1 = 1 := by
  unfold cX7_causex
  dsimp only
  repeat' split
  all_goals decide
theorem hL_cause (l : Launch) (hl : l.stackTraces = false) (D : va_G) (a : Nat → Nat) (cI cZ cL : ClassId) (σ : St) (o : Nat) (f : Nat → Int64) (x1 : Int32) : Ch l yL_cause cL_cause 4 (some .int) [(0, 9, 12, 31)] TB rhL_cause D vwCl [(cI, .int), (cZ, .boolean), (cL, .long)] [.ref (a 0), .int x1, .ref o] (fx a cI cZ σ ++ [(o, .inl (cL, 1, .inr (.inl f)))]) (fx a cI cZ (if cX7_causex σ x1 = 0 then σ else σ) ++ [(o, .inl (cL, 1, .inr (.inl (if cX7_causex σ x1 = 0 then vp_updL f 0 (fX7_cause σ x1).toInt64 else f))))]) (cX7_causex σ x1) := by
  rcases cX7_causev σ x1 with hk | hk
  · have z := hL_cause_0 l D a cI cZ cL σ o f x1 hk
    rw [if_pos hk, if_pos hk, hk]
    exact z
  · have z := hL_cause_1 l hl D a cI cZ cL σ o f x1 hk
    have hn : ¬ cX7_causex σ x1 = 0 := by rw [hk]; decide
    rw [if_neg hn, if_neg hn, hk]
    exact z
