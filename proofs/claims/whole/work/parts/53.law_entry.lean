set_option maxRecDepth 100000 in
theorem LX_i1 (a : Nat → Nat) (cI cZ : ClassId) (σ : St) : [0, 1, 2, 3, 4, 5, 6, 7, 8, 9, 10, 11, 12, 13, 14, 15, 16, 17, 18, 19, 20, 21, 22, 23, 24].map (fun i => (([] : va_W) ++ fx a cI cZ σ)[i]?) = (fx a cI cZ σ).map some := rfl
set_option maxRecDepth 100000 in
theorem LX_i2 (a : Nat → Nat) (cI cZ : ClassId) (σ : St) (q : Nat × va_E) : [0, 1, 2, 3, 4, 5, 6, 7, 8, 9, 10, 11, 12, 13, 14, 15, 16, 17, 18, 19, 20, 21, 22, 23, 24].map (fun i => (fx a cI cZ σ ++ [q])[i]?) = (fx a cI cZ σ).map some := rfl
set_option maxRecDepth 100000 in
theorem LX_i3 (a bm : Nat → Nat) (cI cZ : ClassId) (σ τ : St) : [0, 1, 2, 3, 4, 5, 6, 7, 8, 9, 10, 11, 12, 13, 14, 15, 16, 17, 18, 19, 20, 21, 22, 23, 24, 25, 26, 27, 28, 29, 30, 31, 32, 33, 34, 35, 36, 37, 38, 39, 40, 41, 42, 43, 44, 45].map (fun i => (fx a cI cZ σ ++ mx bm cI cZ τ)[i]?) = (fx a cI cZ σ ++ mx bm cI cZ τ).map some := rfl
theorem fc_pos (k : Int32) (n : Nat) (h : k = nI n) (hn : n < 2 ^ 31) : 0 ≤ k.toInt := by rw [h, nI_toInt hn]; omega
theorem rx_inst7 : ∀ j, j < 3 → defaultValue (tyX7 j) = vp_V [.null, .null, .null] j := by decide +kernel
theorem rx_inst8 : ∀ j, j < 41 → defaultValue (tyX8 j) = vp_V [.int 0, .int 0, .int 0, .int 0, .int 0, .int 0, .int 0, .int 0, .int 0, .int 0, .null, .null, .null, .null, .null, .null, .null, .null, .null, .null, .null, .null, .null, .null, .null, .null, .int 0, .int 0, .int 0, .int 0, .int 0, .int 0, .int 0, .int 0, .int 0, .int 0, .int 0, .null, .null, .null, .null] j := by decide +kernel
set_option maxRecDepth 100000 in
set_option maxHeartbeats 4000000 in
/-- the law from its entry, over any relation that class and reference keep -/
theorem lw_start {Rel : Nat → St → St → Prop} (hS : SIM Rel) {p : Program} {e : Env} {s : State} {m : MethodId} {below : List Frame} {meth : Method} {c : Code} (l : Launch) (hl : l.stackTraces = false) {b L : Nat} {xs : Nat → Int32} (hL : L ≤ 3078) (C0 : lw_At p s m meth c b L xs) : W p l e room_1 s m #[Value.ref b] below meth c s.heap [] 0 0 (lw_Z below #[Value.ref b] s) (entryFrame m ([Value.ref b] : List Value).toArray 7) := by
  obtain ⟨hx, hb, hr, hml, hown, hts, hX, hbl, hlocks, hgv⟩ := id C0
  have htb : ∀ w ∈ TB, w.before #[Value.ref b] s = true := fun w hw => hts w (TBin w hw)
  have hbA : ¬ (fun q : Nat => s.heap.size ≤ q) b := Nat.not_le.mpr hbl
  obtain ⟨D, cI, cZ, cL, hK⟩ := K_start htb
  have hcs : ∃ cS : ClassId, s.vm.findClass "StageCycles" = some cS := ⟨_, (hK.1 7 _ rfl).2.1⟩
  obtain ⟨cS, hcs⟩ := hcs
  have hzw := zW_start hts hgv hcs
  have hxs := XS_start hts
  have hCL : jC p s m #[Value.ref b] meth c code 7 R_law TB D vwCl [(cI, .int), (cZ, .boolean), (cL, .long)] (fun q => s.heap.size ≤ q) := ⟨hx, hb, hml, hown, htb, hK, fun _ h => h, hlocks, TBg⟩
  have hC : lwC p s m meth c b L xs D cI cZ cL := ⟨hCL, fun H locs hS9 => ⟨s, State.WarmedH.refl s, hzw, fun q hq => ⟨Nat.not_le.mpr hq, hS9.2.1 q hq (Nat.not_le.mpr hq)⟩⟩, hX, hbl, hr⟩
  have h : jC p s m #[Value.ref b] meth c code 7 R_law TB D vwCl [(cI, .int), (cZ, .boolean)] (fun q => s.heap.size ≤ q) := jC_sub hCL [0, 1] rfl
  have K : JL p l e s m b below meth c D 0 0 [] 0 [(0, .ref b)] [] := by
    refine j_new h iX7 tyX7 tyX7_ok tb1_19 tb1_20 tb1_1 (ci := 7) rfl (fs := [.null, .null, .null]) rx_inst7 ⟨by decide, by decide⟩ dL_law_0 (fun q7 => ?_)
    refine j_world (w' := [(q7, .inr (7, [.null, .null, .null]))]) rfl ?_
    refine j_dup h dL_law_3 rfl ?_
    refine j_aload_n h 0 dL_law_4 rfl rfl ?_
    refine j_iconst h (v := 0) dL_law_5 (by decide) ?_
    refine j_callX h hX hbl hbA (kL_cell l D b L xs 0 hL (fc_pos 0 0 rfl (by decide))) tb2_67 tb2_68 tb1_0 tb2_69 ⟨rfl, rfl⟩ (n := 2) ⟨by decide, by decide, by decide +kernel⟩ ⟨Nat.le_of_ble_eq_true rfl, Nat.le_of_ble_eq_true rfl⟩ (As := [.ref b, .int 0]) rfl (st := [.ref q7, .ref q7]) rfl (Nat.le_of_ble_eq_true rfl) dL_law_6 ⟨by decide, by decide⟩ ?_
    refine j_aload_n h 0 dL_law_9 rfl rfl ?_
    refine j_iconst h (v := 1) dL_law_10 (by decide) ?_
    refine j_callX h hX hbl hbA (kL_cell l D b L xs 1 hL (fc_pos 1 1 rfl (by decide))) tb2_67 tb2_68 tb1_0 tb2_69 ⟨rfl, rfl⟩ (n := 2) ⟨by decide, by decide, by decide +kernel⟩ ⟨Nat.le_of_ble_eq_true rfl, Nat.le_of_ble_eq_true rfl⟩ (As := [.ref b, .int 1]) rfl (st := [.int (fcell L xs 0), .ref q7, .ref q7]) rfl (Nat.le_of_ble_eq_true rfl) dL_law_11 ⟨by decide, by decide⟩ ?_
    refine j_aload_n h 0 dL_law_14 rfl rfl ?_
    refine j_iconst h (v := 2) dL_law_15 (by decide) ?_
    refine j_callX h hX hbl hbA (kL_cell l D b L xs 2 hL (fc_pos 2 2 rfl (by decide))) tb2_67 tb2_68 tb1_0 tb2_69 ⟨rfl, rfl⟩ (n := 2) ⟨by decide, by decide, by decide +kernel⟩ ⟨Nat.le_of_ble_eq_true rfl, Nat.le_of_ble_eq_true rfl⟩ (As := [.ref b, .int 2]) rfl (st := [.int (fcell L xs 1), .int (fcell L xs 0), .ref q7, .ref q7]) rfl (Nat.le_of_ble_eq_true rfl) dL_law_16 ⟨by decide, by decide⟩ ?_
    refine j_aload_n h 0 dL_law_19 rfl rfl ?_
    refine j_iconst h (v := 3) dL_law_20 (by decide) ?_
    refine j_callX h hX hbl hbA (kL_cell l D b L xs 3 hL (fc_pos 3 3 rfl (by decide))) tb2_67 tb2_68 tb1_0 tb2_69 ⟨rfl, rfl⟩ (n := 2) ⟨by decide, by decide, by decide +kernel⟩ ⟨Nat.le_of_ble_eq_true rfl, Nat.le_of_ble_eq_true rfl⟩ (As := [.ref b, .int 3]) rfl (st := [.int (fcell L xs 2), .int (fcell L xs 1), .int (fcell L xs 0), .ref q7, .ref q7]) rfl (Nat.le_of_ble_eq_true rfl) dL_law_21 ⟨by decide, by decide⟩ ?_
    refine j_aload_n h 0 dL_law_24 rfl rfl ?_
    refine j_iconst h (v := 4) dL_law_25 (by decide) ?_
    refine j_callX h hX hbl hbA (kL_cell l D b L xs 4 hL (fc_pos 4 4 rfl (by decide))) tb2_67 tb2_68 tb1_0 tb2_69 ⟨rfl, rfl⟩ (n := 2) ⟨by decide, by decide, by decide +kernel⟩ ⟨Nat.le_of_ble_eq_true rfl, Nat.le_of_ble_eq_true rfl⟩ (As := [.ref b, .int 4]) rfl (st := [.int (fcell L xs 3), .int (fcell L xs 2), .int (fcell L xs 1), .int (fcell L xs 0), .ref q7, .ref q7]) rfl (Nat.le_of_ble_eq_true rfl) dL_law_26 ⟨by decide, by decide⟩ ?_
    refine j_aload_n h 0 dL_law_29 rfl rfl ?_
    refine j_iconst h (v := 5) dL_law_30 (by decide) ?_
    refine j_callX h hX hbl hbA (kL_cell l D b L xs 5 hL (fc_pos 5 5 rfl (by decide))) tb2_67 tb2_68 tb1_0 tb2_69 ⟨rfl, rfl⟩ (n := 2) ⟨by decide, by decide, by decide +kernel⟩ ⟨Nat.le_of_ble_eq_true rfl, Nat.le_of_ble_eq_true rfl⟩ (As := [.ref b, .int 5]) rfl (st := [.int (fcell L xs 4), .int (fcell L xs 3), .int (fcell L xs 2), .int (fcell L xs 1), .int (fcell L xs 0), .ref q7, .ref q7]) rfl (Nat.le_of_ble_eq_true rfl) dL_law_31 ⟨by decide, by decide⟩ ?_
    refine j_callIGX h XS_st hxs (kX7_init l D cI cZ q7 (fcell L xs 0) (fcell L xs 1) (fcell L xs 2) (fcell L xs 3) (fcell L xs 4) (fcell L xs 5)) tb1_23 ⟨rfl, rfl⟩ tb1_1 tb1_21 tb1_22 rfl (n := 6) (by decide +kernel) ⟨Nat.le_of_ble_eq_true rfl, Nat.le_of_ble_eq_true rfl⟩ (As := [.int (fcell L xs 0), .int (fcell L xs 1), .int (fcell L xs 2), .int (fcell L xs 3), .int (fcell L xs 4), .int (fcell L xs 5)]) rfl (st := [.ref q7]) rfl (Nat.le_of_ble_eq_true rfl) dL_law_34 ⟨by decide, by decide⟩ [0] [] [0, 1, 2, 3, 4, 5, 6, 7, 8, 9, 10, 11, 12, 13, 14, 15, 16, 17, 18, 19, 20, 21, 22, 23, 24] rfl rfl (wr := []) rfl rfl (by decide) (w2 := fun u => fx (va_up u 0 q7) cI cZ (st0 (fcell L xs 0) (fcell L xs 1) (fcell L xs 2) (fcell L xs 3) (fcell L xs 4) (fcell L xs 5))) (fun u => LX_i1 ..) (by decide) (fun u => ?_)
    have ea : q7 = (va_up u 0 q7) 0 := rfl
    revert ea
    generalize (va_up u 0 q7) = a
    intro ea
    subst ea
    generalize hσ : st0 (fcell L xs 0) (fcell L xs 1) (fcell L xs 2) (fcell L xs 3) (fcell L xs 4) (fcell L xs 5) = σ
    refine j_astore_n h (i := 1) dL_law_37 rfl (Nat.le_of_ble_eq_true rfl) (lv' := [(1, .ref (a 0)), (0, .ref b)]) rfl ?_
    refine j_lv [1, 0] (lv' := [(0, .ref b), (1, .ref (a 0))]) rfl ?_
    refine j_new h iX8 tyX8 tyX8_ok tb3_191 tb3_192 tb1_11 (ci := 8) rfl (fs := [.int 0, .int 0, .int 0, .int 0, .int 0, .int 0, .int 0, .int 0, .int 0, .int 0, .null, .null, .null, .null, .null, .null, .null, .null, .null, .null, .null, .null, .null, .null, .null, .null, .int 0, .int 0, .int 0, .int 0, .int 0, .int 0, .int 0, .int 0, .int 0, .int 0, .int 0, .null, .null, .null, .null]) rx_inst8 ⟨by decide, by decide⟩ dL_law_38 (fun q8 => ?_)
    refine j_dup h dL_law_41 rfl ?_
    refine j_aload_n h 0 dL_law_42 rfl rfl ?_
    refine j_iconst h (v := 0) dL_law_43 (by decide) ?_
    refine j_callX h hX hbl hbA (kL_cell l D b L xs 0 hL (fc_pos 0 0 rfl (by decide))) tb2_67 tb2_68 tb1_0 tb2_69 ⟨rfl, rfl⟩ (n := 2) ⟨by decide, by decide, by decide +kernel⟩ ⟨Nat.le_of_ble_eq_true rfl, Nat.le_of_ble_eq_true rfl⟩ (As := [.ref b, .int 0]) rfl (st := [.ref q8, .ref q8]) rfl (Nat.le_of_ble_eq_true rfl) dL_law_44 ⟨by decide, by decide⟩ ?_
    refine j_aload_n h 0 dL_law_47 rfl rfl ?_
    refine j_iconst h (v := 1) dL_law_48 (by decide) ?_
    refine j_callX h hX hbl hbA (kL_cell l D b L xs 1 hL (fc_pos 1 1 rfl (by decide))) tb2_67 tb2_68 tb1_0 tb2_69 ⟨rfl, rfl⟩ (n := 2) ⟨by decide, by decide, by decide +kernel⟩ ⟨Nat.le_of_ble_eq_true rfl, Nat.le_of_ble_eq_true rfl⟩ (As := [.ref b, .int 1]) rfl (st := [.int (fcell L xs 0), .ref q8, .ref q8]) rfl (Nat.le_of_ble_eq_true rfl) dL_law_49 ⟨by decide, by decide⟩ ?_
    refine j_aload_n h 0 dL_law_52 rfl rfl ?_
    refine j_iconst h (v := 2) dL_law_53 (by decide) ?_
    refine j_callX h hX hbl hbA (kL_cell l D b L xs 2 hL (fc_pos 2 2 rfl (by decide))) tb2_67 tb2_68 tb1_0 tb2_69 ⟨rfl, rfl⟩ (n := 2) ⟨by decide, by decide, by decide +kernel⟩ ⟨Nat.le_of_ble_eq_true rfl, Nat.le_of_ble_eq_true rfl⟩ (As := [.ref b, .int 2]) rfl (st := [.int (fcell L xs 1), .int (fcell L xs 0), .ref q8, .ref q8]) rfl (Nat.le_of_ble_eq_true rfl) dL_law_54 ⟨by decide, by decide⟩ ?_
    refine j_aload_n h 0 dL_law_57 rfl rfl ?_
    refine j_iconst h (v := 3) dL_law_58 (by decide) ?_
    refine j_callX h hX hbl hbA (kL_cell l D b L xs 3 hL (fc_pos 3 3 rfl (by decide))) tb2_67 tb2_68 tb1_0 tb2_69 ⟨rfl, rfl⟩ (n := 2) ⟨by decide, by decide, by decide +kernel⟩ ⟨Nat.le_of_ble_eq_true rfl, Nat.le_of_ble_eq_true rfl⟩ (As := [.ref b, .int 3]) rfl (st := [.int (fcell L xs 2), .int (fcell L xs 1), .int (fcell L xs 0), .ref q8, .ref q8]) rfl (Nat.le_of_ble_eq_true rfl) dL_law_59 ⟨by decide, by decide⟩ ?_
    refine j_aload_n h 0 dL_law_62 rfl rfl ?_
    refine j_iconst h (v := 4) dL_law_63 (by decide) ?_
    refine j_callX h hX hbl hbA (kL_cell l D b L xs 4 hL (fc_pos 4 4 rfl (by decide))) tb2_67 tb2_68 tb1_0 tb2_69 ⟨rfl, rfl⟩ (n := 2) ⟨by decide, by decide, by decide +kernel⟩ ⟨Nat.le_of_ble_eq_true rfl, Nat.le_of_ble_eq_true rfl⟩ (As := [.ref b, .int 4]) rfl (st := [.int (fcell L xs 3), .int (fcell L xs 2), .int (fcell L xs 1), .int (fcell L xs 0), .ref q8, .ref q8]) rfl (Nat.le_of_ble_eq_true rfl) dL_law_64 ⟨by decide, by decide⟩ ?_
    refine j_aload_n h 0 dL_law_67 rfl rfl ?_
    refine j_iconst h (v := 5) dL_law_68 (by decide) ?_
    refine j_callX h hX hbl hbA (kL_cell l D b L xs 5 hL (fc_pos 5 5 rfl (by decide))) tb2_67 tb2_68 tb1_0 tb2_69 ⟨rfl, rfl⟩ (n := 2) ⟨by decide, by decide, by decide +kernel⟩ ⟨Nat.le_of_ble_eq_true rfl, Nat.le_of_ble_eq_true rfl⟩ (As := [.ref b, .int 5]) rfl (st := [.int (fcell L xs 4), .int (fcell L xs 3), .int (fcell L xs 2), .int (fcell L xs 1), .int (fcell L xs 0), .ref q8, .ref q8]) rfl (Nat.le_of_ble_eq_true rfl) dL_law_69 ⟨by decide, by decide⟩ ?_
    refine j_callIG h (kX8_init l D cI cZ q8 (fcell L xs 0) (fcell L xs 1) (fcell L xs 2) (fcell L xs 3) (fcell L xs 4) (fcell L xs 5)) tb3_195 ⟨rfl, rfl⟩ tb1_11 tb3_193 tb3_194 rfl (n := 6) (by decide +kernel) ⟨Nat.le_of_ble_eq_true rfl, Nat.le_of_ble_eq_true rfl⟩ (As := [.int (fcell L xs 0), .int (fcell L xs 1), .int (fcell L xs 2), .int (fcell L xs 3), .int (fcell L xs 4), .int (fcell L xs 5)]) rfl (st := [.ref q8]) rfl (Nat.le_of_ble_eq_true rfl) dL_law_72 ⟨by decide, by decide⟩ [25] [0, 1, 2, 3, 4, 5, 6, 7, 8, 9, 10, 11, 12, 13, 14, 15, 16, 17, 18, 19, 20, 21, 22, 23, 24] [0, 1, 2, 3, 4, 5, 6, 7, 8, 9, 10, 11, 12, 13, 14, 15, 16, 17, 18, 19, 20, 21, 22, 23, 24, 25, 26, 27, 28, 29, 30, 31, 32, 33, 34, 35, 36, 37, 38, 39, 40, 41, 42, 43, 44, 45] rfl rfl (wr := fx a cI cZ σ) (LX_i2 ..) (by decide) (by decide) (w2 := fun u => fx a cI cZ σ ++ mx (va_up u 0 q8) cI cZ (fX8_begin (ms0 (fcell L xs 0) (fcell L xs 1) (fcell L xs 2) (fcell L xs 3) (fcell L xs 4) (fcell L xs 5)))) (fun u => LX_i3 ..) (by decide) (fun v => ?_)
    have ea : q8 = (va_up v 0 q8) 0 := rfl
    revert ea
    generalize (va_up v 0 q8) = bm
    intro ea
    subst ea
    generalize hτ : fX8_begin (ms0 (fcell L xs 0) (fcell L xs 1) (fcell L xs 2) (fcell L xs 3) (fcell L xs 4) (fcell L xs 5)) = τ
    refine j_astore_n h (i := 2) dL_law_75 rfl (Nat.le_of_ble_eq_true rfl) (lv' := [(2, .ref (bm 0)), (0, .ref b), (1, .ref (a 0))]) rfl ?_
    refine j_iconst h (v := 1) dL_law_76 (by decide) ?_
    refine j_newarr (atype := .long) hCL tb4_210 (ty := .long) rfl 2 rfl (fun _ _ z => z) (a0 := (1, .inr (.inl (fun _ => 0)))) (fun _ => rfl) (by decide) (N' := 1) (by decide) (by decide) ⟨by decide, by decide⟩ dL_law_77 (fun o => ?_)
    refine j_world (w' := LX a bm cI cZ cL σ τ o (fun _ => 0)) (List.append_assoc ..) ?_
    refine j_astore_n h (i := 3) dL_law_79 rfl (Nat.le_of_ble_eq_true rfl) (lv' := [(3, .ref o), (2, .ref (bm 0)), (0, .ref b), (1, .ref (a 0))]) rfl ?_
    refine j_bipush h (v := 6) dL_law_80 (by decide) ?_
    refine j_istore h (i := 4) dL_law_82 (Nat.le_of_ble_eq_true rfl) (lv' := [(4, .int 6), (3, .ref o), (2, .ref (bm 0)), (0, .ref b), (1, .ref (a 0))]) rfl ?_
    refine j_lv [3, 4, 2, 1, 0] (lv' := [(0, .ref b), (1, .ref (a 0)), (2, .ref (bm 0)), (3, .ref o), (4, .int (nI (6 + 6 * 0)))]) rfl ?_
    exact lw_loop hS hl hC hL 513 0 σ τ (fun _ => 0) rfl (by rw [← hσ, ← hτ]; exact hS.1 ..)
  have hP : va_P D vwCl ([] : va_W) s.heap := fun k q h => by simp at h
  have hD : va_D (fun q : Nat => s.heap.size ≤ q) ([] : va_W) := ⟨fun i j p q h => by simp at h, fun k q h => by simp at h⟩
  have hlv := lv_entry ([.ref b]) (n := 7) (Nat.le_of_ble_eq_true rfl)
  rw [lg_entry_eq]
  exact K s.heap [] _ hP hD va_S.rf hlv
