set_option maxRecDepth 100000 in
set_option maxHeartbeats 4000000 in
theorem lw_word {p : Program} {l : Launch} {e : Env} {s : State} {m : MethodId} {b : Nat} {below : List Frame} {meth : Method} {c : Code} {D : va_G} {L : Nat} {xs : Nat → Int32} {cI cZ cL : ClassId} {cells slots : Nat} {a bm : Nat → Nat} {σ τ : St} {o : Nat} {f : Nat → Int64} {i : Int32} (hC : lwC p s m meth c b L xs D cI cZ cL) (hl : l.stackTraces = false) (h1 : vp_in (i + 1) L) (h2 : vp_in (i + 2) L) (h3 : vp_in (i + 3) L) (h4 : vp_in (i + 4) L) (h5 : vp_in (i + 5) L) (hf : cells + 1 ≤ 1084 ∧ slots + 6 ≤ 11781) (h60 : 0 ≤ (τ.1 6).toInt ∧ (τ.1 6).toInt ≤ 64) (E1 : fX8_thrown (fX8_word τ (xs (i + 1).toNatClampNeg) (xs (i + 2).toNatClampNeg) (xs (i + 3).toNatClampNeg) (xs (i + 4).toNatClampNeg) (xs (i + 5).toNatClampNeg)).2 = cX7_wordx σ (xs (i + 1).toNatClampNeg) (xs (i + 2).toNatClampNeg) (xs (i + 3).toNatClampNeg) (xs (i + 4).toNatClampNeg) (xs (i + 5).toNatClampNeg)) (E2 : cX7_wordx σ (xs (i + 1).toNatClampNeg) (xs (i + 2).toNatClampNeg) (xs (i + 3).toNatClampNeg) (xs (i + 4).toNatClampNeg) (xs (i + 5).toNatClampNeg) = 0 → (fX7_word σ (xs (i + 1).toNatClampNeg) (xs (i + 2).toNatClampNeg) (xs (i + 3).toNatClampNeg) (xs (i + 4).toNatClampNeg) (xs (i + 5).toNatClampNeg)).1 = (fX8_word τ (xs (i + 1).toNatClampNeg) (xs (i + 2).toNatClampNeg) (xs (i + 3).toNatClampNeg) (xs (i + 4).toNatClampNeg) (xs (i + 5).toNatClampNeg)).1) (kk : ∀ f' : Nat → Int64, JL p l e s m b below meth c D (cells + 1) (slots + 6) (LX a bm cI cZ cL (if cX7_wordx σ (xs (i + 1).toNatClampNeg) (xs (i + 2).toNatClampNeg) (xs (i + 3).toNatClampNeg) (xs (i + 4).toNatClampNeg) (xs (i + 5).toNatClampNeg) = 0 then (fX7_word σ (xs (i + 1).toNatClampNeg) (xs (i + 2).toNatClampNeg) (xs (i + 3).toNatClampNeg) (xs (i + 4).toNatClampNeg) (xs (i + 5).toNatClampNeg)).2 else σ) (fX8_word τ (xs (i + 1).toNatClampNeg) (xs (i + 2).toNatClampNeg) (xs (i + 3).toNatClampNeg) (xs (i + 4).toNatClampNeg) (xs (i + 5).toNatClampNeg)).2 o f') 749 [(0, .ref b), (1, .ref (a 0)), (2, .ref (bm 0)), (3, .ref o), (4, .int i)] []) : JL p l e s m b below meth c D cells slots (LX a bm cI cZ cL σ τ o f) 156 [(0, .ref b), (1, .ref (a 0)), (2, .ref (bm 0)), (3, .ref o), (4, .int i)] [] := by
  have h : jC p s m #[Value.ref b] meth c code 7 R_law TB D vwCl [(cI, .int), (cZ, .boolean)] (fun q => s.heap.size ≤ q) := jC_sub hC.1 [0, 1] rfl
  have hZ := hC.2.1
  have hX := hC.2.2.1
  have hbl := hC.2.2.2.1
  have hbA : ¬ (fun q : Nat => s.heap.size ≤ q) b := Nat.not_le.mpr hbl
  have hf0 : cells ≤ room_1.cells ∧ slots ≤ room_1.slots := ⟨by show cells ≤ 1084; omega, by show slots ≤ 11781; omega⟩
  refine j_aload_n h 1 dL_law_156 rfl rfl ?_
  refine j_aload_n h 0 dL_law_157 rfl rfl ?_
  refine j_iload h 4 dL_law_158 rfl ?_
  refine j_iconst h (v := 1) dL_law_160 (by decide) ?_
  refine j_iadd h dL_law_161 ?_
  refine j_sld h hX hbl hbA h1 dL_law_162 ?_
  refine j_aload_n h 0 dL_law_163 rfl rfl ?_
  refine j_iload h 4 dL_law_164 rfl ?_
  refine j_iconst h (v := 2) dL_law_166 (by decide) ?_
  refine j_iadd h dL_law_167 ?_
  refine j_sld h hX hbl hbA h2 dL_law_168 ?_
  refine j_aload_n h 0 dL_law_169 rfl rfl ?_
  refine j_iload h 4 dL_law_170 rfl ?_
  refine j_iconst h (v := 3) dL_law_172 (by decide) ?_
  refine j_iadd h dL_law_173 ?_
  refine j_sld h hX hbl hbA h3 dL_law_174 ?_
  refine j_aload_n h 0 dL_law_175 rfl rfl ?_
  refine j_iload h 4 dL_law_176 rfl ?_
  refine j_iconst h (v := 4) dL_law_178 (by decide) ?_
  refine j_iadd h dL_law_179 ?_
  refine j_sld h hX hbl hbA h4 dL_law_180 ?_
  refine j_aload_n h 0 dL_law_181 rfl rfl ?_
  refine j_iload h 4 dL_law_182 rfl ?_
  refine j_iconst h (v := 5) dL_law_184 (by decide) ?_
  refine j_iadd h dL_law_185 ?_
  refine j_sld h hX hbl hbA h5 dL_law_186 ?_
  refine j_aload_n h 3 dL_law_187 rfl rfl ?_
  refine j_callSW hC.1 hZ (hL_word l hl D a cI cZ cL σ o f (xs (i + 1).toNatClampNeg) (xs (i + 2).toNatClampNeg) (xs (i + 3).toNatClampNeg) (xs (i + 4).toNatClampNeg) (xs (i + 5).toNatClampNeg)) tb2_70 tb2_71 tb1_0 tb2_72 ⟨rfl, rfl⟩ (n := 7) ⟨by decide, by decide, by decide +kernel⟩ ⟨Nat.le_of_ble_eq_true rfl, Nat.le_of_ble_eq_true rfl⟩ (As := [.ref (a 0), .int (xs (i + 1).toNatClampNeg), .int (xs (i + 2).toNatClampNeg), .int (xs (i + 3).toNatClampNeg), .int (xs (i + 4).toNatClampNeg), .int (xs (i + 5).toNatClampNeg), .ref o]) rfl (st := []) rfl (Nat.le_of_ble_eq_true rfl) dL_law_188 hf [0, 1, 2, 3, 4, 5, 6, 7, 8, 9, 10, 11, 12, 13, 14, 15, 16, 17, 18, 19, 20, 21, 22, 23, 24, 46] [25, 26, 27, 28, 29, 30, 31, 32, 33, 34, 35, 36, 37, 38, 39, 40, 41, 42, 43, 44, 45] [21, 22, 23, 24, 25, 26, 27, 28, 29, 30, 31, 32, 33, 34, 35, 36, 37, 38, 39, 40, 41, 42, 43, 44, 45, 0, 1, 2, 3, 4, 5, 6, 7, 8, 9, 10, 11, 12, 13, 14, 15, 16, 17, 18, 19, 20, 46] (wr := mx bm cI cZ τ) (w2 := LX a bm cI cZ cL (if (cX7_wordx σ (xs (i + 1).toNatClampNeg) (xs (i + 2).toNatClampNeg) (xs (i + 3).toNatClampNeg) (xs (i + 4).toNatClampNeg) (xs (i + 5).toNatClampNeg)) = 0 then (fX7_word σ (xs (i + 1).toNatClampNeg) (xs (i + 2).toNatClampNeg) (xs (i + 3).toNatClampNeg) (xs (i + 4).toNatClampNeg) (xs (i + 5).toNatClampNeg)).2 else σ) τ o (if (cX7_wordx σ (xs (i + 1).toNatClampNeg) (xs (i + 2).toNatClampNeg) (xs (i + 3).toNatClampNeg) (xs (i + 4).toNatClampNeg) (xs (i + 5).toNatClampNeg)) = 0 then vp_updL f 0 (fX7_word σ (xs (i + 1).toNatClampNeg) (xs (i + 2).toNatClampNeg) (xs (i + 3).toNatClampNeg) (xs (i + 4).toNatClampNeg) (xs (i + 5).toNatClampNeg)).1.toInt64 else f)) (LX_hC ..) (by decide) (LX_hR ..) (by decide) (by decide) (LX_hF ..) (by decide) ?_
  refine j_istore h (i := 5) dL_law_191 (Nat.le_of_ble_eq_true rfl) (lv' := [(5, .int (cX7_wordx σ (xs (i + 1).toNatClampNeg) (xs (i + 2).toNatClampNeg) (xs (i + 3).toNatClampNeg) (xs (i + 4).toNatClampNeg) (xs (i + 5).toNatClampNeg))), (0, .ref b), (1, .ref (a 0)), (2, .ref (bm 0)), (3, .ref o), (4, .int i)]) rfl ?_
  refine j_aload_n h 3 dL_law_193 rfl rfl ?_
  refine j_aload_n h 1 dL_law_194 rfl rfl ?_
  refine j_iload h 5 dL_law_195 rfl ?_
  refine j_iconst h (v := 1) dL_law_197 (by decide) ?_
  refine j_iadd h dL_law_198 ?_
  refine j_sld h hX hbl hbA h1 dL_law_199 ?_
  refine j_aload_n h 1 dL_law_200 rfl rfl ?_
  refine j_iload h 5 dL_law_201 rfl ?_
  refine j_iconst h (v := 2) dL_law_203 (by decide) ?_
  refine j_iadd h dL_law_204 ?_
  refine j_sld h hX hbl hbA h2 dL_law_205 ?_
  refine j_aload_n h 1 dL_law_206 rfl rfl ?_
  refine j_iload h 5 dL_law_207 rfl ?_
  refine j_iconst h (v := 3) dL_law_209 (by decide) ?_
  refine j_iadd h dL_law_210 ?_
  refine j_sld h hX hbl hbA h3 dL_law_211 ?_
  refine j_aload_n h 1 dL_law_212 rfl rfl ?_
  refine j_iload h 5 dL_law_213 rfl ?_
  refine j_iconst h (v := 4) dL_law_215 (by decide) ?_
  refine j_iadd h dL_law_216 ?_
  refine j_sld h hX hbl hbA h4 dL_law_217 ?_
  refine j_aload_n h 1 dL_law_218 rfl rfl ?_
  refine j_iload h 5 dL_law_219 rfl ?_
  refine j_iconst h (v := 5) dL_law_221 (by decide) ?_
  refine j_iadd h dL_law_222 ?_
  refine j_sld h hX hbl hbA h5 dL_law_223 ?_
  refine j_callViG h (kX8_word l D bm cI cZ τ (xs (i + 1).toNatClampNeg) (xs (i + 2).toNatClampNeg) (xs (i + 3).toNatClampNeg) (xs (i + 4).toNatClampNeg) (xs (i + 5).toNatClampNeg) h60) tb4_92 tb4_93 tb4_94 tb1_11 tb4_95 ⟨rfl, rfl⟩ (n := 5) ⟨rfl, by decide, by decide, by decide +kernel⟩ ⟨Nat.le_of_ble_eq_true rfl, Nat.le_of_ble_eq_true rfl⟩ (As := [.int (xs (i + 1).toNatClampNeg), .int (xs (i + 2).toNatClampNeg), .int (xs (i + 3).toNatClampNeg), .int (xs (i + 4).toNatClampNeg), .int (xs (i + 5).toNatClampNeg)]) rfl (ci := 8) rfl (q0 := 25) rfl (st := []) rfl (Nat.le_of_ble_eq_true rfl) dL_law_224 hf [25, 26, 27, 28, 29, 30, 31, 32, 33, 34, 35, 36, 37, 38, 39, 40, 41, 42, 43, 44, 45] [0, 1, 2, 3, 4, 5, 6, 7, 8, 9, 10, 11, 12, 13, 14, 15, 16, 17, 18, 19, 20, 21, 22, 23, 24, 46] [0, 1, 2, 3, 4, 5, 6, 7, 8, 9, 10, 11, 12, 13, 14, 15, 16, 17, 18, 19, 20, 21, 22, 23, 24, 26, 27, 28, 29, 30, 31, 32, 33, 34, 35, 36, 37, 38, 39, 40, 41, 42, 43, 44, 45, 46, 25] (wr := fx a cI cZ (if (cX7_wordx σ (xs (i + 1).toNatClampNeg) (xs (i + 2).toNatClampNeg) (xs (i + 3).toNatClampNeg) (xs (i + 4).toNatClampNeg) (xs (i + 5).toNatClampNeg)) = 0 then (fX7_word σ (xs (i + 1).toNatClampNeg) (xs (i + 2).toNatClampNeg) (xs (i + 3).toNatClampNeg) (xs (i + 4).toNatClampNeg) (xs (i + 5).toNatClampNeg)).2 else σ) ++ [(o, .inl (cL, 1, .inr (.inl (if (cX7_wordx σ (xs (i + 1).toNatClampNeg) (xs (i + 2).toNatClampNeg) (xs (i + 3).toNatClampNeg) (xs (i + 4).toNatClampNeg) (xs (i + 5).toNatClampNeg)) = 0 then vp_updL f 0 (fX7_word σ (xs (i + 1).toNatClampNeg) (xs (i + 2).toNatClampNeg) (xs (i + 3).toNatClampNeg) (xs (i + 4).toNatClampNeg) (xs (i + 5).toNatClampNeg)).1.toInt64 else f))))]) (w2 := LX a bm cI cZ cL (if (cX7_wordx σ (xs (i + 1).toNatClampNeg) (xs (i + 2).toNatClampNeg) (xs (i + 3).toNatClampNeg) (xs (i + 4).toNatClampNeg) (xs (i + 5).toNatClampNeg)) = 0 then (fX7_word σ (xs (i + 1).toNatClampNeg) (xs (i + 2).toNatClampNeg) (xs (i + 3).toNatClampNeg) (xs (i + 4).toNatClampNeg) (xs (i + 5).toNatClampNeg)).2 else σ) (fX8_word τ (xs (i + 1).toNatClampNeg) (xs (i + 2).toNatClampNeg) (xs (i + 3).toNatClampNeg) (xs (i + 4).toNatClampNeg) (xs (i + 5).toNatClampNeg)).2 o (if (cX7_wordx σ (xs (i + 1).toNatClampNeg) (xs (i + 2).toNatClampNeg) (xs (i + 3).toNatClampNeg) (xs (i + 4).toNatClampNeg) (xs (i + 5).toNatClampNeg)) = 0 then vp_updL f 0 (fX7_word σ (xs (i + 1).toNatClampNeg) (xs (i + 2).toNatClampNeg) (xs (i + 3).toNatClampNeg) (xs (i + 4).toNatClampNeg) (xs (i + 5).toNatClampNeg)).1.toInt64 else f)) (LX_hR ..) (by decide) (LX_mR ..) (by decide) (by decide) (LX_mF ..) (by decide) ?_
  refine j_istore h (i := 6) dL_law_227 (Nat.le_of_ble_eq_true rfl) (lv' := [(6, .int (fX8_word τ (xs (i + 1).toNatClampNeg) (xs (i + 2).toNatClampNeg) (xs (i + 3).toNatClampNeg) (xs (i + 4).toNatClampNeg) (xs (i + 5).toNatClampNeg)).1), (5, .int (cX7_wordx σ (xs (i + 1).toNatClampNeg) (xs (i + 2).toNatClampNeg) (xs (i + 3).toNatClampNeg) (xs (i + 4).toNatClampNeg) (xs (i + 5).toNatClampNeg))), (0, .ref b), (1, .ref (a 0)), (2, .ref (bm 0)), (3, .ref o), (4, .int i)]) rfl ?_
  refine j_aload_n h 4 dL_law_229 rfl rfl ?_
  refine j_callViG h (kX8_thrown l D bm cI cZ (fX8_word τ (xs (i + 1).toNatClampNeg) (xs (i + 2).toNatClampNeg) (xs (i + 3).toNatClampNeg) (xs (i + 4).toNatClampNeg) (xs (i + 5).toNatClampNeg)).2) tb4_88 tb4_89 tb4_90 tb1_11 tb4_91 ⟨rfl, rfl⟩ (n := 0) ⟨rfl, by decide, by decide, by decide +kernel⟩ ⟨Nat.le_of_ble_eq_true rfl, Nat.le_of_ble_eq_true rfl⟩ (As := []) rfl (ci := 8) rfl (q0 := 25) rfl (st := []) rfl (Nat.le_of_ble_eq_true rfl) dL_law_230 hf [25, 26, 27, 28, 29, 30, 31, 32, 33, 34, 35, 36, 37, 38, 39, 40, 41, 42, 43, 44, 45] [0, 1, 2, 3, 4, 5, 6, 7, 8, 9, 10, 11, 12, 13, 14, 15, 16, 17, 18, 19, 20, 21, 22, 23, 24, 46] [0, 1, 2, 3, 4, 5, 6, 7, 8, 9, 10, 11, 12, 13, 14, 15, 16, 17, 18, 19, 20, 21, 22, 23, 24, 26, 27, 28, 29, 30, 31, 32, 33, 34, 35, 36, 37, 38, 39, 40, 41, 42, 43, 44, 45, 46, 25] (wr := fx a cI cZ (if (cX7_wordx σ (xs (i + 1).toNatClampNeg) (xs (i + 2).toNatClampNeg) (xs (i + 3).toNatClampNeg) (xs (i + 4).toNatClampNeg) (xs (i + 5).toNatClampNeg)) = 0 then (fX7_word σ (xs (i + 1).toNatClampNeg) (xs (i + 2).toNatClampNeg) (xs (i + 3).toNatClampNeg) (xs (i + 4).toNatClampNeg) (xs (i + 5).toNatClampNeg)).2 else σ) ++ [(o, .inl (cL, 1, .inr (.inl (if (cX7_wordx σ (xs (i + 1).toNatClampNeg) (xs (i + 2).toNatClampNeg) (xs (i + 3).toNatClampNeg) (xs (i + 4).toNatClampNeg) (xs (i + 5).toNatClampNeg)) = 0 then vp_updL f 0 (fX7_word σ (xs (i + 1).toNatClampNeg) (xs (i + 2).toNatClampNeg) (xs (i + 3).toNatClampNeg) (xs (i + 4).toNatClampNeg) (xs (i + 5).toNatClampNeg)).1.toInt64 else f))))]) (w2 := LX a bm cI cZ cL (if (cX7_wordx σ (xs (i + 1).toNatClampNeg) (xs (i + 2).toNatClampNeg) (xs (i + 3).toNatClampNeg) (xs (i + 4).toNatClampNeg) (xs (i + 5).toNatClampNeg)) = 0 then (fX7_word σ (xs (i + 1).toNatClampNeg) (xs (i + 2).toNatClampNeg) (xs (i + 3).toNatClampNeg) (xs (i + 4).toNatClampNeg) (xs (i + 5).toNatClampNeg)).2 else σ) (fX8_word τ (xs (i + 1).toNatClampNeg) (xs (i + 2).toNatClampNeg) (xs (i + 3).toNatClampNeg) (xs (i + 4).toNatClampNeg) (xs (i + 5).toNatClampNeg)).2 o (if (cX7_wordx σ (xs (i + 1).toNatClampNeg) (xs (i + 2).toNatClampNeg) (xs (i + 3).toNatClampNeg) (xs (i + 4).toNatClampNeg) (xs (i + 5).toNatClampNeg)) = 0 then vp_updL f 0 (fX7_word σ (xs (i + 1).toNatClampNeg) (xs (i + 2).toNatClampNeg) (xs (i + 3).toNatClampNeg) (xs (i + 4).toNatClampNeg) (xs (i + 5).toNatClampNeg)).1.toInt64 else f)) (LX_hR ..) (by decide) (LX_mR ..) (by decide) (by decide) (LX_mF ..) (by decide) ?_
  refine j_iload h 1 dL_law_233 rfl ?_
  refine j_icmp_eq h dL_law_235 (tgt := 240) (by decide) (fun c1 => ?_) (fun c1 => absurd E1 c1)
  refine j_iload h 1 dL_law_240 rfl ?_
  refine j_if_ne h dL_law_242 (tgt := 257) (by decide) (fun c2 => ?_) (fun c2 => ?_)
  ·
    refine j_goto h dL_law_257 (tgt := 749) (by decide) ?_
    refine j_lv [2, 3, 4, 5, 6] (lv' := [(0, .ref b), (1, .ref (a 0)), (2, .ref (bm 0)), (3, .ref o), (4, .int i)]) rfl ?_
    exact kk _
  ·
    refine j_aload_n h 5 dL_law_245 rfl rfl ?_
    refine j_iconst h (v := 0) dL_law_246 (by decide) ?_
    refine j_laload hC.1 46 2 (f := (if (cX7_wordx σ (xs (i + 1).toNatClampNeg) (xs (i + 2).toNatClampNeg) (xs (i + 3).toNatClampNeg) (xs (i + 4).toNatClampNeg) (xs (i + 5).toNatClampNeg)) = 0 then vp_updL f 0 (fX7_word σ (xs (i + 1).toNatClampNeg) (xs (i + 2).toNatClampNeg) (xs (i + 3).toNatClampNeg) (xs (i + 4).toNatClampNeg) (xs (i + 5).toNatClampNeg)).1.toInt64 else f)) rfl rfl vp01 dL_law_247 ?_
    refine j_iload h 0 dL_law_248 rfl ?_
    refine j_i2l h (v := (fX8_word τ (xs (i + 1).toNatClampNeg) (xs (i + 2).toNatClampNeg) (xs (i + 3).toNatClampNeg) (xs (i + 4).toNatClampNeg) (xs (i + 5).toNatClampNeg)).1.toInt64) dL_law_250 rfl ?_
    refine j_lcmp h dL_law_251 ?_
    refine j_if_eq h dL_law_252 (tgt := 257) (by decide) (fun c3 => ?_) (fun c3 => absurd (lw_cmp c2 (E2 c2)) c3)
    refine j_goto h dL_law_257 (tgt := 749) (by decide) ?_
    refine j_lv [2, 3, 4, 5, 6] (lv' := [(0, .ref b), (1, .ref (a 0)), (2, .ref (bm 0)), (3, .ref o), (4, .int i)]) rfl ?_
    exact kk _
set_option maxRecDepth 100000 in
set_option maxHeartbeats 4000000 in
theorem lw_set {p : Program} {l : Launch} {e : Env} {s : State} {m : MethodId} {b : Nat} {below : List Frame} {meth : Method} {c : Code} {D : va_G} {L : Nat} {xs : Nat → Int32} {cI cZ cL : ClassId} {cells slots : Nat} {a bm : Nat → Nat} {σ τ : St} {o : Nat} {f : Nat → Int64} {i : Int32} (hC : lwC p s m meth c b L xs D cI cZ cL) (hl : l.stackTraces = false) (h1 : vp_in (i + 1) L) (h2 : vp_in (i + 2) L) (hf : cells + 1 ≤ 1084 ∧ slots + 6 ≤ 11781) (hf1 : (σ.1 16) = 0 ∨ (σ.1 16) = 1) (hf2 : (τ.1 16) = 0 ∨ (τ.1 16) = 1) (E1 : ∀ y : Int32, (y = 0 ∨ y = 1) → fX8_thrown (fX8_set τ y (xs (i + 2).toNatClampNeg)).2 = cX7_setx σ y (xs (i + 2).toNatClampNeg)) (E2 : ∀ y : Int32, (y = 0 ∨ y = 1) → cX7_setx σ y (xs (i + 2).toNatClampNeg) = 0 → (fX7_set σ y (xs (i + 2).toNatClampNeg)).1 = (fX8_set τ y (xs (i + 2).toNatClampNeg)).1) (kk : ∀ y : Int32, (y = 0 ∨ y = 1) → ∀ f' : Nat → Int64, JL p l e s m b below meth c D (cells + 1) (slots + 6) (LX a bm cI cZ cL (if cX7_setx σ y (xs (i + 2).toNatClampNeg) = 0 then (fX7_set σ y (xs (i + 2).toNatClampNeg)).2 else σ) (fX8_set τ y (xs (i + 2).toNatClampNeg)).2 o f') 749 [(0, .ref b), (1, .ref (a 0)), (2, .ref (bm 0)), (3, .ref o), (4, .int i)] []) : JL p l e s m b below meth c D cells slots (LX a bm cI cZ cL σ τ o f) 260 [(0, .ref b), (1, .ref (a 0)), (2, .ref (bm 0)), (3, .ref o), (4, .int i)] [] := by
  have h : jC p s m #[Value.ref b] meth c code 7 R_law TB D vwCl [(cI, .int), (cZ, .boolean)] (fun q => s.heap.size ≤ q) := jC_sub hC.1 [0, 1] rfl
  have hZ := hC.2.1
  have hX := hC.2.2.1
  have hbl := hC.2.2.2.1
  have hbA : ¬ (fun q : Nat => s.heap.size ≤ q) b := Nat.not_le.mpr hbl
  have hf0 : cells ≤ room_1.cells ∧ slots ≤ room_1.slots := ⟨by show cells ≤ 1084; omega, by show slots ≤ 11781; omega⟩
  refine j_aload_n h 1 dL_law_260 rfl rfl ?_
  refine j_aload_n h 0 dL_law_261 rfl rfl ?_
  refine j_iload h 4 dL_law_262 rfl ?_
  refine j_iconst h (v := 1) dL_law_264 (by decide) ?_
  refine j_iadd h dL_law_265 ?_
  refine j_sld h hX hbl hbA h1 dL_law_266 ?_
  refine j_if_eq h dL_law_267 (tgt := 274) (by decide) (fun cx => ?_) (fun cx => ?_)
  ·
    refine j_iconst h (v := 0) dL_law_274 (by decide) ?_
    refine j_aload_n h 0 dL_law_275 rfl rfl ?_
    refine j_iload h 4 dL_law_276 rfl ?_
    refine j_iconst h (v := 2) dL_law_278 (by decide) ?_
    refine j_iadd h dL_law_279 ?_
    refine j_sld h hX hbl hbA h2 dL_law_280 ?_
    refine j_aload_n h 3 dL_law_281 rfl rfl ?_
    refine j_callSW hC.1 hZ (hL_set l hl D a cI cZ cL σ o f 0 (xs (i + 2).toNatClampNeg) (by decide) hf1) tb2_198 tb2_199 tb1_0 tb2_200 ⟨rfl, rfl⟩ (n := 4) ⟨by decide, by decide, by decide +kernel⟩ ⟨Nat.le_of_ble_eq_true rfl, Nat.le_of_ble_eq_true rfl⟩ (As := [.ref (a 0), .int 0, .int (xs (i + 2).toNatClampNeg), .ref o]) rfl (st := []) rfl (Nat.le_of_ble_eq_true rfl) dL_law_282 hf [0, 1, 2, 3, 4, 5, 6, 7, 8, 9, 10, 11, 12, 13, 14, 15, 16, 17, 18, 19, 20, 21, 22, 23, 24, 46] [25, 26, 27, 28, 29, 30, 31, 32, 33, 34, 35, 36, 37, 38, 39, 40, 41, 42, 43, 44, 45] [21, 22, 23, 24, 25, 26, 27, 28, 29, 30, 31, 32, 33, 34, 35, 36, 37, 38, 39, 40, 41, 42, 43, 44, 45, 0, 1, 2, 3, 4, 5, 6, 7, 8, 9, 10, 11, 12, 13, 14, 15, 16, 17, 18, 19, 20, 46] (wr := mx bm cI cZ τ) (w2 := LX a bm cI cZ cL (if (cX7_setx σ 0 (xs (i + 2).toNatClampNeg)) = 0 then (fX7_set σ 0 (xs (i + 2).toNatClampNeg)).2 else σ) τ o (if (cX7_setx σ 0 (xs (i + 2).toNatClampNeg)) = 0 then vp_updL f 0 (if (fX7_set σ 0 (xs (i + 2).toNatClampNeg)).1 = 0 then (0 : Int64) else 1) else f)) (LX_hC ..) (by decide) (LX_hR ..) (by decide) (by decide) (LX_hF ..) (by decide) ?_
    refine j_istore h (i := 5) dL_law_285 (Nat.le_of_ble_eq_true rfl) (lv' := [(5, .int (cX7_setx σ 0 (xs (i + 2).toNatClampNeg))), (0, .ref b), (1, .ref (a 0)), (2, .ref (bm 0)), (3, .ref o), (4, .int i)]) rfl ?_
    refine j_aload_n h 3 dL_law_287 rfl rfl ?_
    refine j_aload_n h 1 dL_law_288 rfl rfl ?_
    refine j_iload h 5 dL_law_289 rfl ?_
    refine j_iconst h (v := 1) dL_law_291 (by decide) ?_
    refine j_iadd h dL_law_292 ?_
    refine j_sld h hX hbl hbA h1 dL_law_293 ?_
    refine j_if_eq h dL_law_294 (tgt := 301) (by decide) (fun _ => ?_) (fun c9 => absurd cx c9)
    refine j_iconst h (v := 0) dL_law_301 (by decide) ?_
    refine j_aload_n h 1 dL_law_302 rfl rfl ?_
    refine j_iload h 5 dL_law_303 rfl ?_
    refine j_iconst h (v := 2) dL_law_305 (by decide) ?_
    refine j_iadd h dL_law_306 ?_
    refine j_sld h hX hbl hbA h2 dL_law_307 ?_
    refine j_callViG h (kX8_set l D bm cI cZ τ 0 (xs (i + 2).toNatClampNeg) (by decide) hf2) tb4_106 tb4_107 tb4_108 tb1_11 tb4_109 ⟨rfl, rfl⟩ (n := 2) ⟨rfl, by decide, by decide, by decide +kernel⟩ ⟨Nat.le_of_ble_eq_true rfl, Nat.le_of_ble_eq_true rfl⟩ (As := [.int 0, .int (xs (i + 2).toNatClampNeg)]) rfl (ci := 8) rfl (q0 := 25) rfl (st := []) rfl (Nat.le_of_ble_eq_true rfl) dL_law_308 hf [25, 26, 27, 28, 29, 30, 31, 32, 33, 34, 35, 36, 37, 38, 39, 40, 41, 42, 43, 44, 45] [0, 1, 2, 3, 4, 5, 6, 7, 8, 9, 10, 11, 12, 13, 14, 15, 16, 17, 18, 19, 20, 21, 22, 23, 24, 46] [0, 1, 2, 3, 4, 5, 6, 7, 8, 9, 10, 11, 12, 13, 14, 15, 16, 17, 18, 19, 20, 21, 22, 23, 24, 26, 27, 28, 29, 30, 31, 32, 33, 34, 35, 36, 37, 38, 39, 40, 41, 42, 43, 44, 45, 46, 25] (wr := fx a cI cZ (if (cX7_setx σ 0 (xs (i + 2).toNatClampNeg)) = 0 then (fX7_set σ 0 (xs (i + 2).toNatClampNeg)).2 else σ) ++ [(o, .inl (cL, 1, .inr (.inl (if (cX7_setx σ 0 (xs (i + 2).toNatClampNeg)) = 0 then vp_updL f 0 (if (fX7_set σ 0 (xs (i + 2).toNatClampNeg)).1 = 0 then (0 : Int64) else 1) else f))))]) (w2 := LX a bm cI cZ cL (if (cX7_setx σ 0 (xs (i + 2).toNatClampNeg)) = 0 then (fX7_set σ 0 (xs (i + 2).toNatClampNeg)).2 else σ) (fX8_set τ 0 (xs (i + 2).toNatClampNeg)).2 o (if (cX7_setx σ 0 (xs (i + 2).toNatClampNeg)) = 0 then vp_updL f 0 (if (fX7_set σ 0 (xs (i + 2).toNatClampNeg)).1 = 0 then (0 : Int64) else 1) else f)) (LX_hR ..) (by decide) (LX_mR ..) (by decide) (by decide) (LX_mF ..) (by decide) ?_
    refine j_istore h (i := 6) dL_law_311 (Nat.le_of_ble_eq_true rfl) (lv' := [(6, .int (fX8_set τ 0 (xs (i + 2).toNatClampNeg)).1), (5, .int (cX7_setx σ 0 (xs (i + 2).toNatClampNeg))), (0, .ref b), (1, .ref (a 0)), (2, .ref (bm 0)), (3, .ref o), (4, .int i)]) rfl ?_
    refine j_aload_n h 4 dL_law_313 rfl rfl ?_
    refine j_callViG h (kX8_thrown l D bm cI cZ (fX8_set τ 0 (xs (i + 2).toNatClampNeg)).2) tb4_88 tb4_89 tb4_90 tb1_11 tb4_91 ⟨rfl, rfl⟩ (n := 0) ⟨rfl, by decide, by decide, by decide +kernel⟩ ⟨Nat.le_of_ble_eq_true rfl, Nat.le_of_ble_eq_true rfl⟩ (As := []) rfl (ci := 8) rfl (q0 := 25) rfl (st := []) rfl (Nat.le_of_ble_eq_true rfl) dL_law_314 hf [25, 26, 27, 28, 29, 30, 31, 32, 33, 34, 35, 36, 37, 38, 39, 40, 41, 42, 43, 44, 45] [0, 1, 2, 3, 4, 5, 6, 7, 8, 9, 10, 11, 12, 13, 14, 15, 16, 17, 18, 19, 20, 21, 22, 23, 24, 46] [0, 1, 2, 3, 4, 5, 6, 7, 8, 9, 10, 11, 12, 13, 14, 15, 16, 17, 18, 19, 20, 21, 22, 23, 24, 26, 27, 28, 29, 30, 31, 32, 33, 34, 35, 36, 37, 38, 39, 40, 41, 42, 43, 44, 45, 46, 25] (wr := fx a cI cZ (if (cX7_setx σ 0 (xs (i + 2).toNatClampNeg)) = 0 then (fX7_set σ 0 (xs (i + 2).toNatClampNeg)).2 else σ) ++ [(o, .inl (cL, 1, .inr (.inl (if (cX7_setx σ 0 (xs (i + 2).toNatClampNeg)) = 0 then vp_updL f 0 (if (fX7_set σ 0 (xs (i + 2).toNatClampNeg)).1 = 0 then (0 : Int64) else 1) else f))))]) (w2 := LX a bm cI cZ cL (if (cX7_setx σ 0 (xs (i + 2).toNatClampNeg)) = 0 then (fX7_set σ 0 (xs (i + 2).toNatClampNeg)).2 else σ) (fX8_set τ 0 (xs (i + 2).toNatClampNeg)).2 o (if (cX7_setx σ 0 (xs (i + 2).toNatClampNeg)) = 0 then vp_updL f 0 (if (fX7_set σ 0 (xs (i + 2).toNatClampNeg)).1 = 0 then (0 : Int64) else 1) else f)) (LX_hR ..) (by decide) (LX_mR ..) (by decide) (by decide) (LX_mF ..) (by decide) ?_
    refine j_iload h 1 dL_law_317 rfl ?_
    refine j_icmp_eq h dL_law_319 (tgt := 324) (by decide) (fun c1 => ?_) (fun c1 => absurd (E1 0 (by decide)) c1)
    refine j_iload h 1 dL_law_324 rfl ?_
    refine j_if_ne h dL_law_326 (tgt := 348) (by decide) (fun c2 => ?_) (fun c2 => ?_)
    ·
      refine j_goto h dL_law_348 (tgt := 749) (by decide) ?_
      refine j_lv [2, 3, 4, 5, 6] (lv' := [(0, .ref b), (1, .ref (a 0)), (2, .ref (bm 0)), (3, .ref o), (4, .int i)]) rfl ?_
      exact kk 0 (by decide) _
    ·
      refine j_aload_n h 5 dL_law_329 rfl rfl ?_
      refine j_iconst h (v := 0) dL_law_330 (by decide) ?_
      refine j_laload hC.1 46 2 (f := (if (cX7_setx σ 0 (xs (i + 2).toNatClampNeg)) = 0 then vp_updL f 0 (if (fX7_set σ 0 (xs (i + 2).toNatClampNeg)).1 = 0 then (0 : Int64) else 1) else f)) rfl rfl vp01 dL_law_331 ?_
      refine j_iload h 0 dL_law_332 rfl ?_
      refine j_if_eq h dL_law_334 (tgt := 341) (by decide) (fun c4 => ?_) (fun c4 => ?_)
      ·
        refine j_lconst h (v := 0) dL_law_341 (by decide) ?_
        refine j_lcmp h dL_law_342 ?_
        refine j_if_eq h dL_law_343 (tgt := 348) (by decide) (fun c3 => ?_) (fun c3 => absurd (lw_cmpz c2 (by rw [(E2 0 (by decide)) c2, if_pos c4])) c3)
        refine j_goto h dL_law_348 (tgt := 749) (by decide) ?_
        refine j_lv [2, 3, 4, 5, 6] (lv' := [(0, .ref b), (1, .ref (a 0)), (2, .ref (bm 0)), (3, .ref o), (4, .int i)]) rfl ?_
        exact kk 0 (by decide) _
      ·
        refine j_lconst h (v := 1) dL_law_337 (by decide) ?_
        refine j_goto h dL_law_338 (tgt := 342) (by decide) ?_
        refine j_lcmp h dL_law_342 ?_
        refine j_if_eq h dL_law_343 (tgt := 348) (by decide) (fun c3 => ?_) (fun c3 => absurd (lw_cmpz c2 (by rw [(E2 0 (by decide)) c2, if_neg c4])) c3)
        refine j_goto h dL_law_348 (tgt := 749) (by decide) ?_
        refine j_lv [2, 3, 4, 5, 6] (lv' := [(0, .ref b), (1, .ref (a 0)), (2, .ref (bm 0)), (3, .ref o), (4, .int i)]) rfl ?_
        exact kk 0 (by decide) _
  ·
    refine j_iconst h (v := 1) dL_law_270 (by decide) ?_
    refine j_goto h dL_law_271 (tgt := 275) (by decide) ?_
    refine j_aload_n h 0 dL_law_275 rfl rfl ?_
    refine j_iload h 4 dL_law_276 rfl ?_
    refine j_iconst h (v := 2) dL_law_278 (by decide) ?_
    refine j_iadd h dL_law_279 ?_
    refine j_sld h hX hbl hbA h2 dL_law_280 ?_
    refine j_aload_n h 3 dL_law_281 rfl rfl ?_
    refine j_callSW hC.1 hZ (hL_set l hl D a cI cZ cL σ o f 1 (xs (i + 2).toNatClampNeg) (by decide) hf1) tb2_198 tb2_199 tb1_0 tb2_200 ⟨rfl, rfl⟩ (n := 4) ⟨by decide, by decide, by decide +kernel⟩ ⟨Nat.le_of_ble_eq_true rfl, Nat.le_of_ble_eq_true rfl⟩ (As := [.ref (a 0), .int 1, .int (xs (i + 2).toNatClampNeg), .ref o]) rfl (st := []) rfl (Nat.le_of_ble_eq_true rfl) dL_law_282 hf [0, 1, 2, 3, 4, 5, 6, 7, 8, 9, 10, 11, 12, 13, 14, 15, 16, 17, 18, 19, 20, 21, 22, 23, 24, 46] [25, 26, 27, 28, 29, 30, 31, 32, 33, 34, 35, 36, 37, 38, 39, 40, 41, 42, 43, 44, 45] [21, 22, 23, 24, 25, 26, 27, 28, 29, 30, 31, 32, 33, 34, 35, 36, 37, 38, 39, 40, 41, 42, 43, 44, 45, 0, 1, 2, 3, 4, 5, 6, 7, 8, 9, 10, 11, 12, 13, 14, 15, 16, 17, 18, 19, 20, 46] (wr := mx bm cI cZ τ) (w2 := LX a bm cI cZ cL (if (cX7_setx σ 1 (xs (i + 2).toNatClampNeg)) = 0 then (fX7_set σ 1 (xs (i + 2).toNatClampNeg)).2 else σ) τ o (if (cX7_setx σ 1 (xs (i + 2).toNatClampNeg)) = 0 then vp_updL f 0 (if (fX7_set σ 1 (xs (i + 2).toNatClampNeg)).1 = 0 then (0 : Int64) else 1) else f)) (LX_hC ..) (by decide) (LX_hR ..) (by decide) (by decide) (LX_hF ..) (by decide) ?_
    refine j_istore h (i := 5) dL_law_285 (Nat.le_of_ble_eq_true rfl) (lv' := [(5, .int (cX7_setx σ 1 (xs (i + 2).toNatClampNeg))), (0, .ref b), (1, .ref (a 0)), (2, .ref (bm 0)), (3, .ref o), (4, .int i)]) rfl ?_
    refine j_aload_n h 3 dL_law_287 rfl rfl ?_
    refine j_aload_n h 1 dL_law_288 rfl rfl ?_
    refine j_iload h 5 dL_law_289 rfl ?_
    refine j_iconst h (v := 1) dL_law_291 (by decide) ?_
    refine j_iadd h dL_law_292 ?_
    refine j_sld h hX hbl hbA h1 dL_law_293 ?_
    refine j_if_eq h dL_law_294 (tgt := 301) (by decide) (fun c9 => absurd c9 cx) (fun _ => ?_)
    refine j_iconst h (v := 1) dL_law_297 (by decide) ?_
    refine j_goto h dL_law_298 (tgt := 302) (by decide) ?_
    refine j_aload_n h 1 dL_law_302 rfl rfl ?_
    refine j_iload h 5 dL_law_303 rfl ?_
    refine j_iconst h (v := 2) dL_law_305 (by decide) ?_
    refine j_iadd h dL_law_306 ?_
    refine j_sld h hX hbl hbA h2 dL_law_307 ?_
    refine j_callViG h (kX8_set l D bm cI cZ τ 1 (xs (i + 2).toNatClampNeg) (by decide) hf2) tb4_106 tb4_107 tb4_108 tb1_11 tb4_109 ⟨rfl, rfl⟩ (n := 2) ⟨rfl, by decide, by decide, by decide +kernel⟩ ⟨Nat.le_of_ble_eq_true rfl, Nat.le_of_ble_eq_true rfl⟩ (As := [.int 1, .int (xs (i + 2).toNatClampNeg)]) rfl (ci := 8) rfl (q0 := 25) rfl (st := []) rfl (Nat.le_of_ble_eq_true rfl) dL_law_308 hf [25, 26, 27, 28, 29, 30, 31, 32, 33, 34, 35, 36, 37, 38, 39, 40, 41, 42, 43, 44, 45] [0, 1, 2, 3, 4, 5, 6, 7, 8, 9, 10, 11, 12, 13, 14, 15, 16, 17, 18, 19, 20, 21, 22, 23, 24, 46] [0, 1, 2, 3, 4, 5, 6, 7, 8, 9, 10, 11, 12, 13, 14, 15, 16, 17, 18, 19, 20, 21, 22, 23, 24, 26, 27, 28, 29, 30, 31, 32, 33, 34, 35, 36, 37, 38, 39, 40, 41, 42, 43, 44, 45, 46, 25] (wr := fx a cI cZ (if (cX7_setx σ 1 (xs (i + 2).toNatClampNeg)) = 0 then (fX7_set σ 1 (xs (i + 2).toNatClampNeg)).2 else σ) ++ [(o, .inl (cL, 1, .inr (.inl (if (cX7_setx σ 1 (xs (i + 2).toNatClampNeg)) = 0 then vp_updL f 0 (if (fX7_set σ 1 (xs (i + 2).toNatClampNeg)).1 = 0 then (0 : Int64) else 1) else f))))]) (w2 := LX a bm cI cZ cL (if (cX7_setx σ 1 (xs (i + 2).toNatClampNeg)) = 0 then (fX7_set σ 1 (xs (i + 2).toNatClampNeg)).2 else σ) (fX8_set τ 1 (xs (i + 2).toNatClampNeg)).2 o (if (cX7_setx σ 1 (xs (i + 2).toNatClampNeg)) = 0 then vp_updL f 0 (if (fX7_set σ 1 (xs (i + 2).toNatClampNeg)).1 = 0 then (0 : Int64) else 1) else f)) (LX_hR ..) (by decide) (LX_mR ..) (by decide) (by decide) (LX_mF ..) (by decide) ?_
    refine j_istore h (i := 6) dL_law_311 (Nat.le_of_ble_eq_true rfl) (lv' := [(6, .int (fX8_set τ 1 (xs (i + 2).toNatClampNeg)).1), (5, .int (cX7_setx σ 1 (xs (i + 2).toNatClampNeg))), (0, .ref b), (1, .ref (a 0)), (2, .ref (bm 0)), (3, .ref o), (4, .int i)]) rfl ?_
    refine j_aload_n h 4 dL_law_313 rfl rfl ?_
    refine j_callViG h (kX8_thrown l D bm cI cZ (fX8_set τ 1 (xs (i + 2).toNatClampNeg)).2) tb4_88 tb4_89 tb4_90 tb1_11 tb4_91 ⟨rfl, rfl⟩ (n := 0) ⟨rfl, by decide, by decide, by decide +kernel⟩ ⟨Nat.le_of_ble_eq_true rfl, Nat.le_of_ble_eq_true rfl⟩ (As := []) rfl (ci := 8) rfl (q0 := 25) rfl (st := []) rfl (Nat.le_of_ble_eq_true rfl) dL_law_314 hf [25, 26, 27, 28, 29, 30, 31, 32, 33, 34, 35, 36, 37, 38, 39, 40, 41, 42, 43, 44, 45] [0, 1, 2, 3, 4, 5, 6, 7, 8, 9, 10, 11, 12, 13, 14, 15, 16, 17, 18, 19, 20, 21, 22, 23, 24, 46] [0, 1, 2, 3, 4, 5, 6, 7, 8, 9, 10, 11, 12, 13, 14, 15, 16, 17, 18, 19, 20, 21, 22, 23, 24, 26, 27, 28, 29, 30, 31, 32, 33, 34, 35, 36, 37, 38, 39, 40, 41, 42, 43, 44, 45, 46, 25] (wr := fx a cI cZ (if (cX7_setx σ 1 (xs (i + 2).toNatClampNeg)) = 0 then (fX7_set σ 1 (xs (i + 2).toNatClampNeg)).2 else σ) ++ [(o, .inl (cL, 1, .inr (.inl (if (cX7_setx σ 1 (xs (i + 2).toNatClampNeg)) = 0 then vp_updL f 0 (if (fX7_set σ 1 (xs (i + 2).toNatClampNeg)).1 = 0 then (0 : Int64) else 1) else f))))]) (w2 := LX a bm cI cZ cL (if (cX7_setx σ 1 (xs (i + 2).toNatClampNeg)) = 0 then (fX7_set σ 1 (xs (i + 2).toNatClampNeg)).2 else σ) (fX8_set τ 1 (xs (i + 2).toNatClampNeg)).2 o (if (cX7_setx σ 1 (xs (i + 2).toNatClampNeg)) = 0 then vp_updL f 0 (if (fX7_set σ 1 (xs (i + 2).toNatClampNeg)).1 = 0 then (0 : Int64) else 1) else f)) (LX_hR ..) (by decide) (LX_mR ..) (by decide) (by decide) (LX_mF ..) (by decide) ?_
    refine j_iload h 1 dL_law_317 rfl ?_
    refine j_icmp_eq h dL_law_319 (tgt := 324) (by decide) (fun c1 => ?_) (fun c1 => absurd (E1 1 (by decide)) c1)
    refine j_iload h 1 dL_law_324 rfl ?_
    refine j_if_ne h dL_law_326 (tgt := 348) (by decide) (fun c2 => ?_) (fun c2 => ?_)
    ·
      refine j_goto h dL_law_348 (tgt := 749) (by decide) ?_
      refine j_lv [2, 3, 4, 5, 6] (lv' := [(0, .ref b), (1, .ref (a 0)), (2, .ref (bm 0)), (3, .ref o), (4, .int i)]) rfl ?_
      exact kk 1 (by decide) _
    ·
      refine j_aload_n h 5 dL_law_329 rfl rfl ?_
      refine j_iconst h (v := 0) dL_law_330 (by decide) ?_
      refine j_laload hC.1 46 2 (f := (if (cX7_setx σ 1 (xs (i + 2).toNatClampNeg)) = 0 then vp_updL f 0 (if (fX7_set σ 1 (xs (i + 2).toNatClampNeg)).1 = 0 then (0 : Int64) else 1) else f)) rfl rfl vp01 dL_law_331 ?_
      refine j_iload h 0 dL_law_332 rfl ?_
      refine j_if_eq h dL_law_334 (tgt := 341) (by decide) (fun c4 => ?_) (fun c4 => ?_)
      ·
        refine j_lconst h (v := 0) dL_law_341 (by decide) ?_
        refine j_lcmp h dL_law_342 ?_
        refine j_if_eq h dL_law_343 (tgt := 348) (by decide) (fun c3 => ?_) (fun c3 => absurd (lw_cmpz c2 (by rw [(E2 1 (by decide)) c2, if_pos c4])) c3)
        refine j_goto h dL_law_348 (tgt := 749) (by decide) ?_
        refine j_lv [2, 3, 4, 5, 6] (lv' := [(0, .ref b), (1, .ref (a 0)), (2, .ref (bm 0)), (3, .ref o), (4, .int i)]) rfl ?_
        exact kk 1 (by decide) _
      ·
        refine j_lconst h (v := 1) dL_law_337 (by decide) ?_
        refine j_goto h dL_law_338 (tgt := 342) (by decide) ?_
        refine j_lcmp h dL_law_342 ?_
        refine j_if_eq h dL_law_343 (tgt := 348) (by decide) (fun c3 => ?_) (fun c3 => absurd (lw_cmpz c2 (by rw [(E2 1 (by decide)) c2, if_neg c4])) c3)
        refine j_goto h dL_law_348 (tgt := 749) (by decide) ?_
        refine j_lv [2, 3, 4, 5, 6] (lv' := [(0, .ref b), (1, .ref (a 0)), (2, .ref (bm 0)), (3, .ref o), (4, .int i)]) rfl ?_
        exact kk 1 (by decide) _
set_option maxRecDepth 100000 in
set_option maxHeartbeats 4000000 in
theorem lw_clear {p : Program} {l : Launch} {e : Env} {s : State} {m : MethodId} {b : Nat} {below : List Frame} {meth : Method} {c : Code} {D : va_G} {L : Nat} {xs : Nat → Int32} {cI cZ cL : ClassId} {cells slots : Nat} {a bm : Nat → Nat} {σ τ : St} {o : Nat} {f : Nat → Int64} {i : Int32} (hC : lwC p s m meth c b L xs D cI cZ cL)  (hf : cells + 1 ≤ 1084 ∧ slots + 6 ≤ 11781) (E1 : (fX7_clear σ).1 = (fX8_clear τ).1) (kk : JL p l e s m b below meth c D (cells + 1) (slots + 6) (LX a bm cI cZ cL (fX7_clear σ).2 (fX8_clear τ).2 o f) 749 [(0, .ref b), (1, .ref (a 0)), (2, .ref (bm 0)), (3, .ref o), (4, .int i)] []) : JL p l e s m b below meth c D cells slots (LX a bm cI cZ cL σ τ o f) 351 [(0, .ref b), (1, .ref (a 0)), (2, .ref (bm 0)), (3, .ref o), (4, .int i)] [] := by
  have h : jC p s m #[Value.ref b] meth c code 7 R_law TB D vwCl [(cI, .int), (cZ, .boolean)] (fun q => s.heap.size ≤ q) := jC_sub hC.1 [0, 1] rfl
  have hZ := hC.2.1
  have hX := hC.2.2.1
  have hbl := hC.2.2.2.1
  have hbA : ¬ (fun q : Nat => s.heap.size ≤ q) b := Nat.not_le.mpr hbl
  have hf0 : cells ≤ room_1.cells ∧ slots ≤ room_1.slots := ⟨by show cells ≤ 1084; omega, by show slots ≤ 11781; omega⟩
  refine j_aload_n h 1 dL_law_351 rfl rfl ?_
  refine j_callViG h (kX7_clear l D a cI cZ σ) tb2_21 tb2_22 tb2_23 tb1_1 tb2_24 ⟨rfl, rfl⟩ (n := 0) ⟨rfl, by decide, by decide, by decide +kernel⟩ ⟨Nat.le_of_ble_eq_true rfl, Nat.le_of_ble_eq_true rfl⟩ (As := []) rfl (ci := 7) rfl (q0 := 0) rfl (st := []) rfl (Nat.le_of_ble_eq_true rfl) dL_law_352 hf0 [0, 1, 2, 3, 4, 5, 6, 7, 8, 9, 10, 11, 12, 13, 14, 15, 16, 17, 18, 19, 20, 21, 22, 23, 24] [25, 26, 27, 28, 29, 30, 31, 32, 33, 34, 35, 36, 37, 38, 39, 40, 41, 42, 43, 44, 45, 46] [22, 23, 24, 25, 26, 27, 28, 29, 30, 31, 32, 33, 34, 35, 36, 37, 38, 39, 40, 41, 42, 43, 44, 45, 46, 0, 1, 2, 3, 4, 5, 6, 7, 8, 9, 10, 11, 12, 13, 14, 15, 16, 17, 18, 19, 20, 21] (wr := mx bm cI cZ τ ++ [(o, .inl (cL, 1, .inr (.inl f)))]) (w2 := LX a bm cI cZ cL (fX7_clear σ).2 τ o f) (LX_cC ..) (by decide) (LX_cR ..) (by decide) (by decide) (LX_cF ..) (by decide) ?_
  refine j_aload_n h 2 dL_law_355 rfl rfl ?_
  refine j_callViG h (kX8_clear l D bm cI cZ τ) tb4_110 tb4_111 tb4_112 tb1_11 tb4_113 ⟨rfl, rfl⟩ (n := 0) ⟨rfl, by decide, by decide, by decide +kernel⟩ ⟨Nat.le_of_ble_eq_true rfl, Nat.le_of_ble_eq_true rfl⟩ (As := []) rfl (ci := 8) rfl (q0 := 25) rfl (st := [.int (fX7_clear σ).1]) rfl (Nat.le_of_ble_eq_true rfl) dL_law_356 hf0 [25, 26, 27, 28, 29, 30, 31, 32, 33, 34, 35, 36, 37, 38, 39, 40, 41, 42, 43, 44, 45] [0, 1, 2, 3, 4, 5, 6, 7, 8, 9, 10, 11, 12, 13, 14, 15, 16, 17, 18, 19, 20, 21, 22, 23, 24, 46] [0, 1, 2, 3, 4, 5, 6, 7, 8, 9, 10, 11, 12, 13, 14, 15, 16, 17, 18, 19, 20, 21, 22, 23, 24, 26, 27, 28, 29, 30, 31, 32, 33, 34, 35, 36, 37, 38, 39, 40, 41, 42, 43, 44, 45, 46, 25] (wr := fx a cI cZ (fX7_clear σ).2 ++ [(o, .inl (cL, 1, .inr (.inl f)))]) (w2 := LX a bm cI cZ cL (fX7_clear σ).2 (fX8_clear τ).2 o f) (LX_hR ..) (by decide) (LX_mR ..) (by decide) (by decide) (LX_mF ..) (by decide) ?_
  refine j_icmp_eq h dL_law_359 (tgt := 749) (by decide) (fun c1 => ?_) (fun c1 => absurd E1 c1)
  refine j_lv [0, 1, 2, 3, 4] (lv' := [(0, .ref b), (1, .ref (a 0)), (2, .ref (bm 0)), (3, .ref o), (4, .int i)]) rfl ?_
  refine j_widen (k := cells + 1) (n := slots + 6) (by omega) (by omega) ?_
  exact kk
set_option maxRecDepth 100000 in
set_option maxHeartbeats 4000000 in
theorem lw_run {p : Program} {l : Launch} {e : Env} {s : State} {m : MethodId} {b : Nat} {below : List Frame} {meth : Method} {c : Code} {D : va_G} {L : Nat} {xs : Nat → Int32} {cI cZ cL : ClassId} {cells slots : Nat} {a bm : Nat → Nat} {σ τ : St} {o : Nat} {f : Nat → Int64} {i : Int32} (hC : lwC p s m meth c b L xs D cI cZ cL) (hl : l.stackTraces = false) (h1 : vp_in (i + 1) L) (hf : cells + 1 ≤ 1084 ∧ slots + 6 ≤ 11781) (hs : shp σ) {K : Nat} (hB : ¬ (τ.1 6) = 0 → mB τ) (hV : mV K τ) (hK : K + 2001 < 2 ^ 30) (E1 : fX8_thrown (fX8_run τ (xs (i + 1).toNatClampNeg)).2 = cX7_runx σ (xs (i + 1).toNatClampNeg)) (E2 : cX7_runx σ (xs (i + 1).toNatClampNeg) = 0 → (fX7_run σ (xs (i + 1).toNatClampNeg)).1 = (fX8_run τ (xs (i + 1).toNatClampNeg)).1) (kk : ∀ f' : Nat → Int64, JL p l e s m b below meth c D (cells + 1) (slots + 6) (LX a bm cI cZ cL (if cX7_runx σ (xs (i + 1).toNatClampNeg) = 0 then (fX7_run σ (xs (i + 1).toNatClampNeg)).2 else σ) (fX8_run τ (xs (i + 1).toNatClampNeg)).2 o f') 749 [(0, .ref b), (1, .ref (a 0)), (2, .ref (bm 0)), (3, .ref o), (4, .int i)] []) : JL p l e s m b below meth c D cells slots (LX a bm cI cZ cL σ τ o f) 364 [(0, .ref b), (1, .ref (a 0)), (2, .ref (bm 0)), (3, .ref o), (4, .int i)] [] := by
  have h : jC p s m #[Value.ref b] meth c code 7 R_law TB D vwCl [(cI, .int), (cZ, .boolean)] (fun q => s.heap.size ≤ q) := jC_sub hC.1 [0, 1] rfl
  have hZ := hC.2.1
  have hX := hC.2.2.1
  have hbl := hC.2.2.2.1
  have hbA : ¬ (fun q : Nat => s.heap.size ≤ q) b := Nat.not_le.mpr hbl
  have hf0 : cells ≤ room_1.cells ∧ slots ≤ room_1.slots := ⟨by show cells ≤ 1084; omega, by show slots ≤ 11781; omega⟩
  refine j_aload_n h 1 dL_law_364 rfl rfl ?_
  refine j_aload_n h 0 dL_law_365 rfl rfl ?_
  refine j_iload h 4 dL_law_366 rfl ?_
  refine j_iconst h (v := 1) dL_law_368 (by decide) ?_
  refine j_iadd h dL_law_369 ?_
  refine j_sld h hX hbl hbA h1 dL_law_370 ?_
  refine j_aload_n h 3 dL_law_371 rfl rfl ?_
  refine j_callSW hC.1 hZ (hL_run l hl D a cI cZ cL σ o f (xs (i + 1).toNatClampNeg) hs) tb2_206 tb2_207 tb1_0 tb2_208 ⟨rfl, rfl⟩ (n := 3) ⟨by decide, by decide, by decide +kernel⟩ ⟨Nat.le_of_ble_eq_true rfl, Nat.le_of_ble_eq_true rfl⟩ (As := [.ref (a 0), .int (xs (i + 1).toNatClampNeg), .ref o]) rfl (st := []) rfl (Nat.le_of_ble_eq_true rfl) dL_law_372 hf [0, 1, 2, 3, 4, 5, 6, 7, 8, 9, 10, 11, 12, 13, 14, 15, 16, 17, 18, 19, 20, 21, 22, 23, 24, 46] [25, 26, 27, 28, 29, 30, 31, 32, 33, 34, 35, 36, 37, 38, 39, 40, 41, 42, 43, 44, 45] [21, 22, 23, 24, 25, 26, 27, 28, 29, 30, 31, 32, 33, 34, 35, 36, 37, 38, 39, 40, 41, 42, 43, 44, 45, 0, 1, 2, 3, 4, 5, 6, 7, 8, 9, 10, 11, 12, 13, 14, 15, 16, 17, 18, 19, 20, 46] (wr := mx bm cI cZ τ) (w2 := LX a bm cI cZ cL (if (cX7_runx σ (xs (i + 1).toNatClampNeg)) = 0 then (fX7_run σ (xs (i + 1).toNatClampNeg)).2 else σ) τ o (if (cX7_runx σ (xs (i + 1).toNatClampNeg)) = 0 then vp_updL f 0 (fX7_run σ (xs (i + 1).toNatClampNeg)).1.toInt64 else f)) (LX_hC ..) (by decide) (LX_hR ..) (by decide) (by decide) (LX_hF ..) (by decide) ?_
  refine j_istore h (i := 5) dL_law_375 (Nat.le_of_ble_eq_true rfl) (lv' := [(5, .int (cX7_runx σ (xs (i + 1).toNatClampNeg))), (0, .ref b), (1, .ref (a 0)), (2, .ref (bm 0)), (3, .ref o), (4, .int i)]) rfl ?_
  refine j_aload_n h 3 dL_law_377 rfl rfl ?_
  refine j_aload_n h 1 dL_law_378 rfl rfl ?_
  refine j_iload h 5 dL_law_379 rfl ?_
  refine j_iconst h (v := 1) dL_law_381 (by decide) ?_
  refine j_iadd h dL_law_382 ?_
  refine j_sld h hX hbl hbA h1 dL_law_383 ?_
  refine j_callViG h (kX8_run l D bm cI cZ τ (xs (i + 1).toNatClampNeg) hB hV hK) tb4_114 tb4_115 tb4_116 tb1_11 tb4_117 ⟨rfl, rfl⟩ (n := 1) ⟨rfl, by decide, by decide, by decide +kernel⟩ ⟨Nat.le_of_ble_eq_true rfl, Nat.le_of_ble_eq_true rfl⟩ (As := [.int (xs (i + 1).toNatClampNeg)]) rfl (ci := 8) rfl (q0 := 25) rfl (st := []) rfl (Nat.le_of_ble_eq_true rfl) dL_law_384 hf [25, 26, 27, 28, 29, 30, 31, 32, 33, 34, 35, 36, 37, 38, 39, 40, 41, 42, 43, 44, 45] [0, 1, 2, 3, 4, 5, 6, 7, 8, 9, 10, 11, 12, 13, 14, 15, 16, 17, 18, 19, 20, 21, 22, 23, 24, 46] [0, 1, 2, 3, 4, 5, 6, 7, 8, 9, 10, 11, 12, 13, 14, 15, 16, 17, 18, 19, 20, 21, 22, 23, 24, 26, 27, 28, 29, 30, 31, 32, 33, 34, 35, 36, 37, 38, 39, 40, 41, 42, 43, 44, 45, 46, 25] (wr := fx a cI cZ (if (cX7_runx σ (xs (i + 1).toNatClampNeg)) = 0 then (fX7_run σ (xs (i + 1).toNatClampNeg)).2 else σ) ++ [(o, .inl (cL, 1, .inr (.inl (if (cX7_runx σ (xs (i + 1).toNatClampNeg)) = 0 then vp_updL f 0 (fX7_run σ (xs (i + 1).toNatClampNeg)).1.toInt64 else f))))]) (w2 := LX a bm cI cZ cL (if (cX7_runx σ (xs (i + 1).toNatClampNeg)) = 0 then (fX7_run σ (xs (i + 1).toNatClampNeg)).2 else σ) (fX8_run τ (xs (i + 1).toNatClampNeg)).2 o (if (cX7_runx σ (xs (i + 1).toNatClampNeg)) = 0 then vp_updL f 0 (fX7_run σ (xs (i + 1).toNatClampNeg)).1.toInt64 else f)) (LX_hR ..) (by decide) (LX_mR ..) (by decide) (by decide) (LX_mF ..) (by decide) ?_
  refine j_istore h (i := 6) dL_law_387 (Nat.le_of_ble_eq_true rfl) (lv' := [(6, .int (fX8_run τ (xs (i + 1).toNatClampNeg)).1), (5, .int (cX7_runx σ (xs (i + 1).toNatClampNeg))), (0, .ref b), (1, .ref (a 0)), (2, .ref (bm 0)), (3, .ref o), (4, .int i)]) rfl ?_
  refine j_aload_n h 4 dL_law_389 rfl rfl ?_
  refine j_callViG h (kX8_thrown l D bm cI cZ (fX8_run τ (xs (i + 1).toNatClampNeg)).2) tb4_88 tb4_89 tb4_90 tb1_11 tb4_91 ⟨rfl, rfl⟩ (n := 0) ⟨rfl, by decide, by decide, by decide +kernel⟩ ⟨Nat.le_of_ble_eq_true rfl, Nat.le_of_ble_eq_true rfl⟩ (As := []) rfl (ci := 8) rfl (q0 := 25) rfl (st := []) rfl (Nat.le_of_ble_eq_true rfl) dL_law_390 hf [25, 26, 27, 28, 29, 30, 31, 32, 33, 34, 35, 36, 37, 38, 39, 40, 41, 42, 43, 44, 45] [0, 1, 2, 3, 4, 5, 6, 7, 8, 9, 10, 11, 12, 13, 14, 15, 16, 17, 18, 19, 20, 21, 22, 23, 24, 46] [0, 1, 2, 3, 4, 5, 6, 7, 8, 9, 10, 11, 12, 13, 14, 15, 16, 17, 18, 19, 20, 21, 22, 23, 24, 26, 27, 28, 29, 30, 31, 32, 33, 34, 35, 36, 37, 38, 39, 40, 41, 42, 43, 44, 45, 46, 25] (wr := fx a cI cZ (if (cX7_runx σ (xs (i + 1).toNatClampNeg)) = 0 then (fX7_run σ (xs (i + 1).toNatClampNeg)).2 else σ) ++ [(o, .inl (cL, 1, .inr (.inl (if (cX7_runx σ (xs (i + 1).toNatClampNeg)) = 0 then vp_updL f 0 (fX7_run σ (xs (i + 1).toNatClampNeg)).1.toInt64 else f))))]) (w2 := LX a bm cI cZ cL (if (cX7_runx σ (xs (i + 1).toNatClampNeg)) = 0 then (fX7_run σ (xs (i + 1).toNatClampNeg)).2 else σ) (fX8_run τ (xs (i + 1).toNatClampNeg)).2 o (if (cX7_runx σ (xs (i + 1).toNatClampNeg)) = 0 then vp_updL f 0 (fX7_run σ (xs (i + 1).toNatClampNeg)).1.toInt64 else f)) (LX_hR ..) (by decide) (LX_mR ..) (by decide) (by decide) (LX_mF ..) (by decide) ?_
  refine j_iload h 1 dL_law_393 rfl ?_
  refine j_icmp_eq h dL_law_395 (tgt := 400) (by decide) (fun c1 => ?_) (fun c1 => absurd E1 c1)
  refine j_iload h 1 dL_law_400 rfl ?_
  refine j_if_ne h dL_law_402 (tgt := 417) (by decide) (fun c2 => ?_) (fun c2 => ?_)
  ·
    refine j_goto h dL_law_417 (tgt := 749) (by decide) ?_
    refine j_lv [2, 3, 4, 5, 6] (lv' := [(0, .ref b), (1, .ref (a 0)), (2, .ref (bm 0)), (3, .ref o), (4, .int i)]) rfl ?_
    exact kk _
  ·
    refine j_aload_n h 5 dL_law_405 rfl rfl ?_
    refine j_iconst h (v := 0) dL_law_406 (by decide) ?_
    refine j_laload hC.1 46 2 (f := (if (cX7_runx σ (xs (i + 1).toNatClampNeg)) = 0 then vp_updL f 0 (fX7_run σ (xs (i + 1).toNatClampNeg)).1.toInt64 else f)) rfl rfl vp01 dL_law_407 ?_
    refine j_iload h 0 dL_law_408 rfl ?_
    refine j_i2l h (v := (fX8_run τ (xs (i + 1).toNatClampNeg)).1.toInt64) dL_law_410 rfl ?_
    refine j_lcmp h dL_law_411 ?_
    refine j_if_eq h dL_law_412 (tgt := 417) (by decide) (fun c3 => ?_) (fun c3 => absurd (lw_cmp c2 (E2 c2)) c3)
    refine j_goto h dL_law_417 (tgt := 749) (by decide) ?_
    refine j_lv [2, 3, 4, 5, 6] (lv' := [(0, .ref b), (1, .ref (a 0)), (2, .ref (bm 0)), (3, .ref o), (4, .int i)]) rfl ?_
    exact kk _
set_option maxRecDepth 100000 in
set_option maxHeartbeats 4000000 in
theorem lw_stage {p : Program} {l : Launch} {e : Env} {s : State} {m : MethodId} {b : Nat} {below : List Frame} {meth : Method} {c : Code} {D : va_G} {L : Nat} {xs : Nat → Int32} {cI cZ cL : ClassId} {cells slots : Nat} {a bm : Nat → Nat} {σ τ : St} {o : Nat} {f : Nat → Int64} {i : Int32} (hC : lwC p s m meth c b L xs D cI cZ cL) (hl : l.stackTraces = false) (h1 : vp_in (i + 1) L) (h2 : vp_in (i + 2) L) (hf : cells + 1 ≤ 1084 ∧ slots + 6 ≤ 11781) (hs : shp τ) (E1 : fX8_thrown (fX8_stage τ (xs (i + 1).toNatClampNeg) (xs (i + 2).toNatClampNeg)).2 = cX7_stagex σ (xs (i + 1).toNatClampNeg) (xs (i + 2).toNatClampNeg)) (E2 : cX7_stagex σ (xs (i + 1).toNatClampNeg) (xs (i + 2).toNatClampNeg) = 0 → (fX7_stage σ (xs (i + 1).toNatClampNeg) (xs (i + 2).toNatClampNeg)) = (fX8_stage τ (xs (i + 1).toNatClampNeg) (xs (i + 2).toNatClampNeg)).1) (kk : ∀ f' : Nat → Int64, JL p l e s m b below meth c D (cells + 1) (slots + 6) (LX a bm cI cZ cL (if cX7_stagex σ (xs (i + 1).toNatClampNeg) (xs (i + 2).toNatClampNeg) = 0 then σ else σ) (fX8_stage τ (xs (i + 1).toNatClampNeg) (xs (i + 2).toNatClampNeg)).2 o f') 749 [(0, .ref b), (1, .ref (a 0)), (2, .ref (bm 0)), (3, .ref o), (4, .int i)] []) : JL p l e s m b below meth c D cells slots (LX a bm cI cZ cL σ τ o f) 420 [(0, .ref b), (1, .ref (a 0)), (2, .ref (bm 0)), (3, .ref o), (4, .int i)] [] := by
  have h : jC p s m #[Value.ref b] meth c code 7 R_law TB D vwCl [(cI, .int), (cZ, .boolean)] (fun q => s.heap.size ≤ q) := jC_sub hC.1 [0, 1] rfl
  have hZ := hC.2.1
  have hX := hC.2.2.1
  have hbl := hC.2.2.2.1
  have hbA : ¬ (fun q : Nat => s.heap.size ≤ q) b := Nat.not_le.mpr hbl
  have hf0 : cells ≤ room_1.cells ∧ slots ≤ room_1.slots := ⟨by show cells ≤ 1084; omega, by show slots ≤ 11781; omega⟩
  refine j_aload_n h 1 dL_law_420 rfl rfl ?_
  refine j_aload_n h 0 dL_law_421 rfl rfl ?_
  refine j_iload h 4 dL_law_422 rfl ?_
  refine j_iconst h (v := 1) dL_law_424 (by decide) ?_
  refine j_iadd h dL_law_425 ?_
  refine j_sld h hX hbl hbA h1 dL_law_426 ?_
  refine j_aload_n h 0 dL_law_427 rfl rfl ?_
  refine j_iload h 4 dL_law_428 rfl ?_
  refine j_iconst h (v := 2) dL_law_430 (by decide) ?_
  refine j_iadd h dL_law_431 ?_
  refine j_sld h hX hbl hbA h2 dL_law_432 ?_
  refine j_aload_n h 3 dL_law_433 rfl rfl ?_
  refine j_callSW hC.1 hZ (hL_stage l hl D a cI cZ cL σ o f (xs (i + 1).toNatClampNeg) (xs (i + 2).toNatClampNeg)) tb3_120 tb3_121 tb1_0 tb3_122 ⟨rfl, rfl⟩ (n := 4) ⟨by decide, by decide, by decide +kernel⟩ ⟨Nat.le_of_ble_eq_true rfl, Nat.le_of_ble_eq_true rfl⟩ (As := [.ref (a 0), .int (xs (i + 1).toNatClampNeg), .int (xs (i + 2).toNatClampNeg), .ref o]) rfl (st := []) rfl (Nat.le_of_ble_eq_true rfl) dL_law_434 hf [0, 1, 2, 3, 4, 5, 6, 7, 8, 9, 10, 11, 12, 13, 14, 15, 16, 17, 18, 19, 20, 21, 22, 23, 24, 46] [25, 26, 27, 28, 29, 30, 31, 32, 33, 34, 35, 36, 37, 38, 39, 40, 41, 42, 43, 44, 45] [21, 22, 23, 24, 25, 26, 27, 28, 29, 30, 31, 32, 33, 34, 35, 36, 37, 38, 39, 40, 41, 42, 43, 44, 45, 0, 1, 2, 3, 4, 5, 6, 7, 8, 9, 10, 11, 12, 13, 14, 15, 16, 17, 18, 19, 20, 46] (wr := mx bm cI cZ τ) (w2 := LX a bm cI cZ cL (if (cX7_stagex σ (xs (i + 1).toNatClampNeg) (xs (i + 2).toNatClampNeg)) = 0 then σ else σ) τ o (if (cX7_stagex σ (xs (i + 1).toNatClampNeg) (xs (i + 2).toNatClampNeg)) = 0 then vp_updL f 0 (fX7_stage σ (xs (i + 1).toNatClampNeg) (xs (i + 2).toNatClampNeg)).toInt64 else f)) (LX_hC ..) (by decide) (LX_hR ..) (by decide) (by decide) (LX_hF ..) (by decide) ?_
  refine j_istore h (i := 5) dL_law_437 (Nat.le_of_ble_eq_true rfl) (lv' := [(5, .int (cX7_stagex σ (xs (i + 1).toNatClampNeg) (xs (i + 2).toNatClampNeg))), (0, .ref b), (1, .ref (a 0)), (2, .ref (bm 0)), (3, .ref o), (4, .int i)]) rfl ?_
  refine j_aload_n h 3 dL_law_439 rfl rfl ?_
  refine j_aload_n h 1 dL_law_440 rfl rfl ?_
  refine j_iload h 5 dL_law_441 rfl ?_
  refine j_iconst h (v := 1) dL_law_443 (by decide) ?_
  refine j_iadd h dL_law_444 ?_
  refine j_sld h hX hbl hbA h1 dL_law_445 ?_
  refine j_aload_n h 1 dL_law_446 rfl rfl ?_
  refine j_iload h 5 dL_law_447 rfl ?_
  refine j_iconst h (v := 2) dL_law_449 (by decide) ?_
  refine j_iadd h dL_law_450 ?_
  refine j_sld h hX hbl hbA h2 dL_law_451 ?_
  refine j_callViG h (kX8_stage l D bm cI cZ τ (xs (i + 1).toNatClampNeg) (xs (i + 2).toNatClampNeg) hs) tb4_186 tb4_187 tb4_188 tb1_11 tb4_189 ⟨rfl, rfl⟩ (n := 2) ⟨rfl, by decide, by decide, by decide +kernel⟩ ⟨Nat.le_of_ble_eq_true rfl, Nat.le_of_ble_eq_true rfl⟩ (As := [.int (xs (i + 1).toNatClampNeg), .int (xs (i + 2).toNatClampNeg)]) rfl (ci := 8) rfl (q0 := 25) rfl (st := []) rfl (Nat.le_of_ble_eq_true rfl) dL_law_452 hf [25, 26, 27, 28, 29, 30, 31, 32, 33, 34, 35, 36, 37, 38, 39, 40, 41, 42, 43, 44, 45] [0, 1, 2, 3, 4, 5, 6, 7, 8, 9, 10, 11, 12, 13, 14, 15, 16, 17, 18, 19, 20, 21, 22, 23, 24, 46] [0, 1, 2, 3, 4, 5, 6, 7, 8, 9, 10, 11, 12, 13, 14, 15, 16, 17, 18, 19, 20, 21, 22, 23, 24, 26, 27, 28, 29, 30, 31, 32, 33, 34, 35, 36, 37, 38, 39, 40, 41, 42, 43, 44, 45, 46, 25] (wr := fx a cI cZ (if (cX7_stagex σ (xs (i + 1).toNatClampNeg) (xs (i + 2).toNatClampNeg)) = 0 then σ else σ) ++ [(o, .inl (cL, 1, .inr (.inl (if (cX7_stagex σ (xs (i + 1).toNatClampNeg) (xs (i + 2).toNatClampNeg)) = 0 then vp_updL f 0 (fX7_stage σ (xs (i + 1).toNatClampNeg) (xs (i + 2).toNatClampNeg)).toInt64 else f))))]) (w2 := LX a bm cI cZ cL (if (cX7_stagex σ (xs (i + 1).toNatClampNeg) (xs (i + 2).toNatClampNeg)) = 0 then σ else σ) (fX8_stage τ (xs (i + 1).toNatClampNeg) (xs (i + 2).toNatClampNeg)).2 o (if (cX7_stagex σ (xs (i + 1).toNatClampNeg) (xs (i + 2).toNatClampNeg)) = 0 then vp_updL f 0 (fX7_stage σ (xs (i + 1).toNatClampNeg) (xs (i + 2).toNatClampNeg)).toInt64 else f)) (LX_hR ..) (by decide) (LX_mR ..) (by decide) (by decide) (LX_mF ..) (by decide) ?_
  refine j_istore h (i := 6) dL_law_455 (Nat.le_of_ble_eq_true rfl) (lv' := [(6, .int (fX8_stage τ (xs (i + 1).toNatClampNeg) (xs (i + 2).toNatClampNeg)).1), (5, .int (cX7_stagex σ (xs (i + 1).toNatClampNeg) (xs (i + 2).toNatClampNeg))), (0, .ref b), (1, .ref (a 0)), (2, .ref (bm 0)), (3, .ref o), (4, .int i)]) rfl ?_
  refine j_aload_n h 4 dL_law_457 rfl rfl ?_
  refine j_callViG h (kX8_thrown l D bm cI cZ (fX8_stage τ (xs (i + 1).toNatClampNeg) (xs (i + 2).toNatClampNeg)).2) tb4_88 tb4_89 tb4_90 tb1_11 tb4_91 ⟨rfl, rfl⟩ (n := 0) ⟨rfl, by decide, by decide, by decide +kernel⟩ ⟨Nat.le_of_ble_eq_true rfl, Nat.le_of_ble_eq_true rfl⟩ (As := []) rfl (ci := 8) rfl (q0 := 25) rfl (st := []) rfl (Nat.le_of_ble_eq_true rfl) dL_law_458 hf [25, 26, 27, 28, 29, 30, 31, 32, 33, 34, 35, 36, 37, 38, 39, 40, 41, 42, 43, 44, 45] [0, 1, 2, 3, 4, 5, 6, 7, 8, 9, 10, 11, 12, 13, 14, 15, 16, 17, 18, 19, 20, 21, 22, 23, 24, 46] [0, 1, 2, 3, 4, 5, 6, 7, 8, 9, 10, 11, 12, 13, 14, 15, 16, 17, 18, 19, 20, 21, 22, 23, 24, 26, 27, 28, 29, 30, 31, 32, 33, 34, 35, 36, 37, 38, 39, 40, 41, 42, 43, 44, 45, 46, 25] (wr := fx a cI cZ (if (cX7_stagex σ (xs (i + 1).toNatClampNeg) (xs (i + 2).toNatClampNeg)) = 0 then σ else σ) ++ [(o, .inl (cL, 1, .inr (.inl (if (cX7_stagex σ (xs (i + 1).toNatClampNeg) (xs (i + 2).toNatClampNeg)) = 0 then vp_updL f 0 (fX7_stage σ (xs (i + 1).toNatClampNeg) (xs (i + 2).toNatClampNeg)).toInt64 else f))))]) (w2 := LX a bm cI cZ cL (if (cX7_stagex σ (xs (i + 1).toNatClampNeg) (xs (i + 2).toNatClampNeg)) = 0 then σ else σ) (fX8_stage τ (xs (i + 1).toNatClampNeg) (xs (i + 2).toNatClampNeg)).2 o (if (cX7_stagex σ (xs (i + 1).toNatClampNeg) (xs (i + 2).toNatClampNeg)) = 0 then vp_updL f 0 (fX7_stage σ (xs (i + 1).toNatClampNeg) (xs (i + 2).toNatClampNeg)).toInt64 else f)) (LX_hR ..) (by decide) (LX_mR ..) (by decide) (by decide) (LX_mF ..) (by decide) ?_
  refine j_iload h 1 dL_law_461 rfl ?_
  refine j_icmp_eq h dL_law_463 (tgt := 468) (by decide) (fun c1 => ?_) (fun c1 => absurd E1 c1)
  refine j_iload h 1 dL_law_468 rfl ?_
  refine j_if_ne h dL_law_470 (tgt := 485) (by decide) (fun c2 => ?_) (fun c2 => ?_)
  ·
    refine j_goto h dL_law_485 (tgt := 749) (by decide) ?_
    refine j_lv [2, 3, 4, 5, 6] (lv' := [(0, .ref b), (1, .ref (a 0)), (2, .ref (bm 0)), (3, .ref o), (4, .int i)]) rfl ?_
    exact kk _
  ·
    refine j_aload_n h 5 dL_law_473 rfl rfl ?_
    refine j_iconst h (v := 0) dL_law_474 (by decide) ?_
    refine j_laload hC.1 46 2 (f := (if (cX7_stagex σ (xs (i + 1).toNatClampNeg) (xs (i + 2).toNatClampNeg)) = 0 then vp_updL f 0 (fX7_stage σ (xs (i + 1).toNatClampNeg) (xs (i + 2).toNatClampNeg)).toInt64 else f)) rfl rfl vp01 dL_law_475 ?_
    refine j_iload h 0 dL_law_476 rfl ?_
    refine j_i2l h (v := (fX8_stage τ (xs (i + 1).toNatClampNeg) (xs (i + 2).toNatClampNeg)).1.toInt64) dL_law_478 rfl ?_
    refine j_lcmp h dL_law_479 ?_
    refine j_if_eq h dL_law_480 (tgt := 485) (by decide) (fun c3 => ?_) (fun c3 => absurd (lw_cmp c2 (E2 c2)) c3)
    refine j_goto h dL_law_485 (tgt := 749) (by decide) ?_
    refine j_lv [2, 3, 4, 5, 6] (lv' := [(0, .ref b), (1, .ref (a 0)), (2, .ref (bm 0)), (3, .ref o), (4, .int i)]) rfl ?_
    exact kk _
set_option maxRecDepth 100000 in
set_option maxHeartbeats 4000000 in
theorem lw_committed {p : Program} {l : Launch} {e : Env} {s : State} {m : MethodId} {b : Nat} {below : List Frame} {meth : Method} {c : Code} {D : va_G} {L : Nat} {xs : Nat → Int32} {cI cZ cL : ClassId} {cells slots : Nat} {a bm : Nat → Nat} {σ τ : St} {o : Nat} {f : Nat → Int64} {i : Int32} (hC : lwC p s m meth c b L xs D cI cZ cL) (hl : l.stackTraces = false) (h1 : vp_in (i + 1) L) (h2 : vp_in (i + 2) L) (hf : cells + 1 ≤ 1084 ∧ slots + 6 ≤ 11781) (hc : 0 ≤ (τ.1 10).toInt ∧ (τ.1 10).toInt < 2 ^ 30) (E1 : fX8_thrown (fX8_committed τ (xs (i + 1).toNatClampNeg) (xs (i + 2).toNatClampNeg)).2 = cX7_committedx σ (xs (i + 1).toNatClampNeg) (xs (i + 2).toNatClampNeg)) (E2 : cX7_committedx σ (xs (i + 1).toNatClampNeg) (xs (i + 2).toNatClampNeg) = 0 → (fX7_committed σ (xs (i + 1).toNatClampNeg) (xs (i + 2).toNatClampNeg)) = (fX8_committed τ (xs (i + 1).toNatClampNeg) (xs (i + 2).toNatClampNeg)).1) (kk : ∀ f' : Nat → Int64, JL p l e s m b below meth c D (cells + 1) (slots + 6) (LX a bm cI cZ cL (if cX7_committedx σ (xs (i + 1).toNatClampNeg) (xs (i + 2).toNatClampNeg) = 0 then σ else σ) (fX8_committed τ (xs (i + 1).toNatClampNeg) (xs (i + 2).toNatClampNeg)).2 o f') 749 [(0, .ref b), (1, .ref (a 0)), (2, .ref (bm 0)), (3, .ref o), (4, .int i)] []) : JL p l e s m b below meth c D cells slots (LX a bm cI cZ cL σ τ o f) 488 [(0, .ref b), (1, .ref (a 0)), (2, .ref (bm 0)), (3, .ref o), (4, .int i)] [] := by
  have h : jC p s m #[Value.ref b] meth c code 7 R_law TB D vwCl [(cI, .int), (cZ, .boolean)] (fun q => s.heap.size ≤ q) := jC_sub hC.1 [0, 1] rfl
  have hZ := hC.2.1
  have hX := hC.2.2.1
  have hbl := hC.2.2.2.1
  have hbA : ¬ (fun q : Nat => s.heap.size ≤ q) b := Nat.not_le.mpr hbl
  have hf0 : cells ≤ room_1.cells ∧ slots ≤ room_1.slots := ⟨by show cells ≤ 1084; omega, by show slots ≤ 11781; omega⟩
  refine j_aload_n h 1 dL_law_488 rfl rfl ?_
  refine j_aload_n h 0 dL_law_489 rfl rfl ?_
  refine j_iload h 4 dL_law_490 rfl ?_
  refine j_iconst h (v := 1) dL_law_492 (by decide) ?_
  refine j_iadd h dL_law_493 ?_
  refine j_sld h hX hbl hbA h1 dL_law_494 ?_
  refine j_aload_n h 0 dL_law_495 rfl rfl ?_
  refine j_iload h 4 dL_law_496 rfl ?_
  refine j_iconst h (v := 2) dL_law_498 (by decide) ?_
  refine j_iadd h dL_law_499 ?_
  refine j_sld h hX hbl hbA h2 dL_law_500 ?_
  refine j_aload_n h 3 dL_law_501 rfl rfl ?_
  refine j_callSW hC.1 hZ (hL_committed l hl D a cI cZ cL σ o f (xs (i + 1).toNatClampNeg) (xs (i + 2).toNatClampNeg)) tb3_146 tb3_147 tb1_0 tb3_148 ⟨rfl, rfl⟩ (n := 4) ⟨by decide, by decide, by decide +kernel⟩ ⟨Nat.le_of_ble_eq_true rfl, Nat.le_of_ble_eq_true rfl⟩ (As := [.ref (a 0), .int (xs (i + 1).toNatClampNeg), .int (xs (i + 2).toNatClampNeg), .ref o]) rfl (st := []) rfl (Nat.le_of_ble_eq_true rfl) dL_law_502 hf [0, 1, 2, 3, 4, 5, 6, 7, 8, 9, 10, 11, 12, 13, 14, 15, 16, 17, 18, 19, 20, 21, 22, 23, 24, 46] [25, 26, 27, 28, 29, 30, 31, 32, 33, 34, 35, 36, 37, 38, 39, 40, 41, 42, 43, 44, 45] [21, 22, 23, 24, 25, 26, 27, 28, 29, 30, 31, 32, 33, 34, 35, 36, 37, 38, 39, 40, 41, 42, 43, 44, 45, 0, 1, 2, 3, 4, 5, 6, 7, 8, 9, 10, 11, 12, 13, 14, 15, 16, 17, 18, 19, 20, 46] (wr := mx bm cI cZ τ) (w2 := LX a bm cI cZ cL (if (cX7_committedx σ (xs (i + 1).toNatClampNeg) (xs (i + 2).toNatClampNeg)) = 0 then σ else σ) τ o (if (cX7_committedx σ (xs (i + 1).toNatClampNeg) (xs (i + 2).toNatClampNeg)) = 0 then vp_updL f 0 (fX7_committed σ (xs (i + 1).toNatClampNeg) (xs (i + 2).toNatClampNeg)).toInt64 else f)) (LX_hC ..) (by decide) (LX_hR ..) (by decide) (by decide) (LX_hF ..) (by decide) ?_
  refine j_istore h (i := 5) dL_law_505 (Nat.le_of_ble_eq_true rfl) (lv' := [(5, .int (cX7_committedx σ (xs (i + 1).toNatClampNeg) (xs (i + 2).toNatClampNeg))), (0, .ref b), (1, .ref (a 0)), (2, .ref (bm 0)), (3, .ref o), (4, .int i)]) rfl ?_
  refine j_aload_n h 3 dL_law_507 rfl rfl ?_
  refine j_aload_n h 1 dL_law_508 rfl rfl ?_
  refine j_iload h 5 dL_law_509 rfl ?_
  refine j_iconst h (v := 1) dL_law_511 (by decide) ?_
  refine j_iadd h dL_law_512 ?_
  refine j_sld h hX hbl hbA h1 dL_law_513 ?_
  refine j_aload_n h 1 dL_law_514 rfl rfl ?_
  refine j_iload h 5 dL_law_515 rfl ?_
  refine j_iconst h (v := 2) dL_law_517 (by decide) ?_
  refine j_iadd h dL_law_518 ?_
  refine j_sld h hX hbl hbA h2 dL_law_519 ?_
  refine j_callViG h (kX8_committed l D bm cI cZ τ (xs (i + 1).toNatClampNeg) (xs (i + 2).toNatClampNeg) hc) tb4_190 tb4_191 tb4_192 tb1_11 tb4_193 ⟨rfl, rfl⟩ (n := 2) ⟨rfl, by decide, by decide, by decide +kernel⟩ ⟨Nat.le_of_ble_eq_true rfl, Nat.le_of_ble_eq_true rfl⟩ (As := [.int (xs (i + 1).toNatClampNeg), .int (xs (i + 2).toNatClampNeg)]) rfl (ci := 8) rfl (q0 := 25) rfl (st := []) rfl (Nat.le_of_ble_eq_true rfl) dL_law_520 hf [25, 26, 27, 28, 29, 30, 31, 32, 33, 34, 35, 36, 37, 38, 39, 40, 41, 42, 43, 44, 45] [0, 1, 2, 3, 4, 5, 6, 7, 8, 9, 10, 11, 12, 13, 14, 15, 16, 17, 18, 19, 20, 21, 22, 23, 24, 46] [0, 1, 2, 3, 4, 5, 6, 7, 8, 9, 10, 11, 12, 13, 14, 15, 16, 17, 18, 19, 20, 21, 22, 23, 24, 26, 27, 28, 29, 30, 31, 32, 33, 34, 35, 36, 37, 38, 39, 40, 41, 42, 43, 44, 45, 46, 25] (wr := fx a cI cZ (if (cX7_committedx σ (xs (i + 1).toNatClampNeg) (xs (i + 2).toNatClampNeg)) = 0 then σ else σ) ++ [(o, .inl (cL, 1, .inr (.inl (if (cX7_committedx σ (xs (i + 1).toNatClampNeg) (xs (i + 2).toNatClampNeg)) = 0 then vp_updL f 0 (fX7_committed σ (xs (i + 1).toNatClampNeg) (xs (i + 2).toNatClampNeg)).toInt64 else f))))]) (w2 := LX a bm cI cZ cL (if (cX7_committedx σ (xs (i + 1).toNatClampNeg) (xs (i + 2).toNatClampNeg)) = 0 then σ else σ) (fX8_committed τ (xs (i + 1).toNatClampNeg) (xs (i + 2).toNatClampNeg)).2 o (if (cX7_committedx σ (xs (i + 1).toNatClampNeg) (xs (i + 2).toNatClampNeg)) = 0 then vp_updL f 0 (fX7_committed σ (xs (i + 1).toNatClampNeg) (xs (i + 2).toNatClampNeg)).toInt64 else f)) (LX_hR ..) (by decide) (LX_mR ..) (by decide) (by decide) (LX_mF ..) (by decide) ?_
  refine j_istore h (i := 6) dL_law_523 (Nat.le_of_ble_eq_true rfl) (lv' := [(6, .int (fX8_committed τ (xs (i + 1).toNatClampNeg) (xs (i + 2).toNatClampNeg)).1), (5, .int (cX7_committedx σ (xs (i + 1).toNatClampNeg) (xs (i + 2).toNatClampNeg))), (0, .ref b), (1, .ref (a 0)), (2, .ref (bm 0)), (3, .ref o), (4, .int i)]) rfl ?_
  refine j_aload_n h 4 dL_law_525 rfl rfl ?_
  refine j_callViG h (kX8_thrown l D bm cI cZ (fX8_committed τ (xs (i + 1).toNatClampNeg) (xs (i + 2).toNatClampNeg)).2) tb4_88 tb4_89 tb4_90 tb1_11 tb4_91 ⟨rfl, rfl⟩ (n := 0) ⟨rfl, by decide, by decide, by decide +kernel⟩ ⟨Nat.le_of_ble_eq_true rfl, Nat.le_of_ble_eq_true rfl⟩ (As := []) rfl (ci := 8) rfl (q0 := 25) rfl (st := []) rfl (Nat.le_of_ble_eq_true rfl) dL_law_526 hf [25, 26, 27, 28, 29, 30, 31, 32, 33, 34, 35, 36, 37, 38, 39, 40, 41, 42, 43, 44, 45] [0, 1, 2, 3, 4, 5, 6, 7, 8, 9, 10, 11, 12, 13, 14, 15, 16, 17, 18, 19, 20, 21, 22, 23, 24, 46] [0, 1, 2, 3, 4, 5, 6, 7, 8, 9, 10, 11, 12, 13, 14, 15, 16, 17, 18, 19, 20, 21, 22, 23, 24, 26, 27, 28, 29, 30, 31, 32, 33, 34, 35, 36, 37, 38, 39, 40, 41, 42, 43, 44, 45, 46, 25] (wr := fx a cI cZ (if (cX7_committedx σ (xs (i + 1).toNatClampNeg) (xs (i + 2).toNatClampNeg)) = 0 then σ else σ) ++ [(o, .inl (cL, 1, .inr (.inl (if (cX7_committedx σ (xs (i + 1).toNatClampNeg) (xs (i + 2).toNatClampNeg)) = 0 then vp_updL f 0 (fX7_committed σ (xs (i + 1).toNatClampNeg) (xs (i + 2).toNatClampNeg)).toInt64 else f))))]) (w2 := LX a bm cI cZ cL (if (cX7_committedx σ (xs (i + 1).toNatClampNeg) (xs (i + 2).toNatClampNeg)) = 0 then σ else σ) (fX8_committed τ (xs (i + 1).toNatClampNeg) (xs (i + 2).toNatClampNeg)).2 o (if (cX7_committedx σ (xs (i + 1).toNatClampNeg) (xs (i + 2).toNatClampNeg)) = 0 then vp_updL f 0 (fX7_committed σ (xs (i + 1).toNatClampNeg) (xs (i + 2).toNatClampNeg)).toInt64 else f)) (LX_hR ..) (by decide) (LX_mR ..) (by decide) (by decide) (LX_mF ..) (by decide) ?_
  refine j_iload h 1 dL_law_529 rfl ?_
  refine j_icmp_eq h dL_law_531 (tgt := 536) (by decide) (fun c1 => ?_) (fun c1 => absurd E1 c1)
  refine j_iload h 1 dL_law_536 rfl ?_
  refine j_if_ne h dL_law_538 (tgt := 553) (by decide) (fun c2 => ?_) (fun c2 => ?_)
  ·
    refine j_goto h dL_law_553 (tgt := 749) (by decide) ?_
    refine j_lv [2, 3, 4, 5, 6] (lv' := [(0, .ref b), (1, .ref (a 0)), (2, .ref (bm 0)), (3, .ref o), (4, .int i)]) rfl ?_
    exact kk _
  ·
    refine j_aload_n h 5 dL_law_541 rfl rfl ?_
    refine j_iconst h (v := 0) dL_law_542 (by decide) ?_
    refine j_laload hC.1 46 2 (f := (if (cX7_committedx σ (xs (i + 1).toNatClampNeg) (xs (i + 2).toNatClampNeg)) = 0 then vp_updL f 0 (fX7_committed σ (xs (i + 1).toNatClampNeg) (xs (i + 2).toNatClampNeg)).toInt64 else f)) rfl rfl vp01 dL_law_543 ?_
    refine j_iload h 0 dL_law_544 rfl ?_
    refine j_i2l h (v := (fX8_committed τ (xs (i + 1).toNatClampNeg) (xs (i + 2).toNatClampNeg)).1.toInt64) dL_law_546 rfl ?_
    refine j_lcmp h dL_law_547 ?_
    refine j_if_eq h dL_law_548 (tgt := 553) (by decide) (fun c3 => ?_) (fun c3 => absurd (lw_cmp c2 (E2 c2)) c3)
    refine j_goto h dL_law_553 (tgt := 749) (by decide) ?_
    refine j_lv [2, 3, 4, 5, 6] (lv' := [(0, .ref b), (1, .ref (a 0)), (2, .ref (bm 0)), (3, .ref o), (4, .int i)]) rfl ?_
    exact kk _
set_option maxRecDepth 100000 in
set_option maxHeartbeats 4000000 in
theorem lw_register {p : Program} {l : Launch} {e : Env} {s : State} {m : MethodId} {b : Nat} {below : List Frame} {meth : Method} {c : Code} {D : va_G} {L : Nat} {xs : Nat → Int32} {cI cZ cL : ClassId} {cells slots : Nat} {a bm : Nat → Nat} {σ τ : St} {o : Nat} {f : Nat → Int64} {i : Int32} (hC : lwC p s m meth c b L xs D cI cZ cL) (hl : l.stackTraces = false) (h1 : vp_in (i + 1) L) (hf : cells + 1 ≤ 1084 ∧ slots + 6 ≤ 11781) (E1 : fX8_thrown (fX8_register τ (xs (i + 1).toNatClampNeg)).2 = cX7_registerx σ (xs (i + 1).toNatClampNeg)) (E2 : cX7_registerx σ (xs (i + 1).toNatClampNeg) = 0 → (fX7_register σ (xs (i + 1).toNatClampNeg)) = (fX8_register τ (xs (i + 1).toNatClampNeg)).1) (kk : ∀ f' : Nat → Int64, JL p l e s m b below meth c D (cells + 1) (slots + 6) (LX a bm cI cZ cL (if cX7_registerx σ (xs (i + 1).toNatClampNeg) = 0 then σ else σ) (fX8_register τ (xs (i + 1).toNatClampNeg)).2 o f') 749 [(0, .ref b), (1, .ref (a 0)), (2, .ref (bm 0)), (3, .ref o), (4, .int i)] []) : JL p l e s m b below meth c D cells slots (LX a bm cI cZ cL σ τ o f) 556 [(0, .ref b), (1, .ref (a 0)), (2, .ref (bm 0)), (3, .ref o), (4, .int i)] [] := by
  have h : jC p s m #[Value.ref b] meth c code 7 R_law TB D vwCl [(cI, .int), (cZ, .boolean)] (fun q => s.heap.size ≤ q) := jC_sub hC.1 [0, 1] rfl
  have hZ := hC.2.1
  have hX := hC.2.2.1
  have hbl := hC.2.2.2.1
  have hbA : ¬ (fun q : Nat => s.heap.size ≤ q) b := Nat.not_le.mpr hbl
  have hf0 : cells ≤ room_1.cells ∧ slots ≤ room_1.slots := ⟨by show cells ≤ 1084; omega, by show slots ≤ 11781; omega⟩
  refine j_aload_n h 1 dL_law_556 rfl rfl ?_
  refine j_aload_n h 0 dL_law_557 rfl rfl ?_
  refine j_iload h 4 dL_law_558 rfl ?_
  refine j_iconst h (v := 1) dL_law_560 (by decide) ?_
  refine j_iadd h dL_law_561 ?_
  refine j_sld h hX hbl hbA h1 dL_law_562 ?_
  refine j_aload_n h 3 dL_law_563 rfl rfl ?_
  refine j_callSW hC.1 hZ (hL_register l hl D a cI cZ cL σ o f (xs (i + 1).toNatClampNeg)) tb3_162 tb3_163 tb1_0 tb3_164 ⟨rfl, rfl⟩ (n := 3) ⟨by decide, by decide, by decide +kernel⟩ ⟨Nat.le_of_ble_eq_true rfl, Nat.le_of_ble_eq_true rfl⟩ (As := [.ref (a 0), .int (xs (i + 1).toNatClampNeg), .ref o]) rfl (st := []) rfl (Nat.le_of_ble_eq_true rfl) dL_law_564 hf [0, 1, 2, 3, 4, 5, 6, 7, 8, 9, 10, 11, 12, 13, 14, 15, 16, 17, 18, 19, 20, 21, 22, 23, 24, 46] [25, 26, 27, 28, 29, 30, 31, 32, 33, 34, 35, 36, 37, 38, 39, 40, 41, 42, 43, 44, 45] [21, 22, 23, 24, 25, 26, 27, 28, 29, 30, 31, 32, 33, 34, 35, 36, 37, 38, 39, 40, 41, 42, 43, 44, 45, 0, 1, 2, 3, 4, 5, 6, 7, 8, 9, 10, 11, 12, 13, 14, 15, 16, 17, 18, 19, 20, 46] (wr := mx bm cI cZ τ) (w2 := LX a bm cI cZ cL (if (cX7_registerx σ (xs (i + 1).toNatClampNeg)) = 0 then σ else σ) τ o (if (cX7_registerx σ (xs (i + 1).toNatClampNeg)) = 0 then vp_updL f 0 (fX7_register σ (xs (i + 1).toNatClampNeg)).toInt64 else f)) (LX_hC ..) (by decide) (LX_hR ..) (by decide) (by decide) (LX_hF ..) (by decide) ?_
  refine j_istore h (i := 5) dL_law_567 (Nat.le_of_ble_eq_true rfl) (lv' := [(5, .int (cX7_registerx σ (xs (i + 1).toNatClampNeg))), (0, .ref b), (1, .ref (a 0)), (2, .ref (bm 0)), (3, .ref o), (4, .int i)]) rfl ?_
  refine j_aload_n h 3 dL_law_569 rfl rfl ?_
  refine j_aload_n h 1 dL_law_570 rfl rfl ?_
  refine j_iload h 5 dL_law_571 rfl ?_
  refine j_iconst h (v := 1) dL_law_573 (by decide) ?_
  refine j_iadd h dL_law_574 ?_
  refine j_sld h hX hbl hbA h1 dL_law_575 ?_
  refine j_callViG h (kX8_register l D bm cI cZ τ (xs (i + 1).toNatClampNeg)) tb4_194 tb4_195 tb4_196 tb1_11 tb4_197 ⟨rfl, rfl⟩ (n := 1) ⟨rfl, by decide, by decide, by decide +kernel⟩ ⟨Nat.le_of_ble_eq_true rfl, Nat.le_of_ble_eq_true rfl⟩ (As := [.int (xs (i + 1).toNatClampNeg)]) rfl (ci := 8) rfl (q0 := 25) rfl (st := []) rfl (Nat.le_of_ble_eq_true rfl) dL_law_576 hf [25, 26, 27, 28, 29, 30, 31, 32, 33, 34, 35, 36, 37, 38, 39, 40, 41, 42, 43, 44, 45] [0, 1, 2, 3, 4, 5, 6, 7, 8, 9, 10, 11, 12, 13, 14, 15, 16, 17, 18, 19, 20, 21, 22, 23, 24, 46] [0, 1, 2, 3, 4, 5, 6, 7, 8, 9, 10, 11, 12, 13, 14, 15, 16, 17, 18, 19, 20, 21, 22, 23, 24, 26, 27, 28, 29, 30, 31, 32, 33, 34, 35, 36, 37, 38, 39, 40, 41, 42, 43, 44, 45, 46, 25] (wr := fx a cI cZ (if (cX7_registerx σ (xs (i + 1).toNatClampNeg)) = 0 then σ else σ) ++ [(o, .inl (cL, 1, .inr (.inl (if (cX7_registerx σ (xs (i + 1).toNatClampNeg)) = 0 then vp_updL f 0 (fX7_register σ (xs (i + 1).toNatClampNeg)).toInt64 else f))))]) (w2 := LX a bm cI cZ cL (if (cX7_registerx σ (xs (i + 1).toNatClampNeg)) = 0 then σ else σ) (fX8_register τ (xs (i + 1).toNatClampNeg)).2 o (if (cX7_registerx σ (xs (i + 1).toNatClampNeg)) = 0 then vp_updL f 0 (fX7_register σ (xs (i + 1).toNatClampNeg)).toInt64 else f)) (LX_hR ..) (by decide) (LX_mR ..) (by decide) (by decide) (LX_mF ..) (by decide) ?_
  refine j_istore h (i := 6) dL_law_579 (Nat.le_of_ble_eq_true rfl) (lv' := [(6, .int (fX8_register τ (xs (i + 1).toNatClampNeg)).1), (5, .int (cX7_registerx σ (xs (i + 1).toNatClampNeg))), (0, .ref b), (1, .ref (a 0)), (2, .ref (bm 0)), (3, .ref o), (4, .int i)]) rfl ?_
  refine j_aload_n h 4 dL_law_581 rfl rfl ?_
  refine j_callViG h (kX8_thrown l D bm cI cZ (fX8_register τ (xs (i + 1).toNatClampNeg)).2) tb4_88 tb4_89 tb4_90 tb1_11 tb4_91 ⟨rfl, rfl⟩ (n := 0) ⟨rfl, by decide, by decide, by decide +kernel⟩ ⟨Nat.le_of_ble_eq_true rfl, Nat.le_of_ble_eq_true rfl⟩ (As := []) rfl (ci := 8) rfl (q0 := 25) rfl (st := []) rfl (Nat.le_of_ble_eq_true rfl) dL_law_582 hf [25, 26, 27, 28, 29, 30, 31, 32, 33, 34, 35, 36, 37, 38, 39, 40, 41, 42, 43, 44, 45] [0, 1, 2, 3, 4, 5, 6, 7, 8, 9, 10, 11, 12, 13, 14, 15, 16, 17, 18, 19, 20, 21, 22, 23, 24, 46] [0, 1, 2, 3, 4, 5, 6, 7, 8, 9, 10, 11, 12, 13, 14, 15, 16, 17, 18, 19, 20, 21, 22, 23, 24, 26, 27, 28, 29, 30, 31, 32, 33, 34, 35, 36, 37, 38, 39, 40, 41, 42, 43, 44, 45, 46, 25] (wr := fx a cI cZ (if (cX7_registerx σ (xs (i + 1).toNatClampNeg)) = 0 then σ else σ) ++ [(o, .inl (cL, 1, .inr (.inl (if (cX7_registerx σ (xs (i + 1).toNatClampNeg)) = 0 then vp_updL f 0 (fX7_register σ (xs (i + 1).toNatClampNeg)).toInt64 else f))))]) (w2 := LX a bm cI cZ cL (if (cX7_registerx σ (xs (i + 1).toNatClampNeg)) = 0 then σ else σ) (fX8_register τ (xs (i + 1).toNatClampNeg)).2 o (if (cX7_registerx σ (xs (i + 1).toNatClampNeg)) = 0 then vp_updL f 0 (fX7_register σ (xs (i + 1).toNatClampNeg)).toInt64 else f)) (LX_hR ..) (by decide) (LX_mR ..) (by decide) (by decide) (LX_mF ..) (by decide) ?_
  refine j_iload h 1 dL_law_585 rfl ?_
  refine j_icmp_eq h dL_law_587 (tgt := 592) (by decide) (fun c1 => ?_) (fun c1 => absurd E1 c1)
  refine j_iload h 1 dL_law_592 rfl ?_
  refine j_if_ne h dL_law_594 (tgt := 609) (by decide) (fun c2 => ?_) (fun c2 => ?_)
  ·
    refine j_goto h dL_law_609 (tgt := 749) (by decide) ?_
    refine j_lv [2, 3, 4, 5, 6] (lv' := [(0, .ref b), (1, .ref (a 0)), (2, .ref (bm 0)), (3, .ref o), (4, .int i)]) rfl ?_
    exact kk _
  ·
    refine j_aload_n h 5 dL_law_597 rfl rfl ?_
    refine j_iconst h (v := 0) dL_law_598 (by decide) ?_
    refine j_laload hC.1 46 2 (f := (if (cX7_registerx σ (xs (i + 1).toNatClampNeg)) = 0 then vp_updL f 0 (fX7_register σ (xs (i + 1).toNatClampNeg)).toInt64 else f)) rfl rfl vp01 dL_law_599 ?_
    refine j_iload h 0 dL_law_600 rfl ?_
    refine j_i2l h (v := (fX8_register τ (xs (i + 1).toNatClampNeg)).1.toInt64) dL_law_602 rfl ?_
    refine j_lcmp h dL_law_603 ?_
    refine j_if_eq h dL_law_604 (tgt := 609) (by decide) (fun c3 => ?_) (fun c3 => absurd (lw_cmp c2 (E2 c2)) c3)
    refine j_goto h dL_law_609 (tgt := 749) (by decide) ?_
    refine j_lv [2, 3, 4, 5, 6] (lv' := [(0, .ref b), (1, .ref (a 0)), (2, .ref (bm 0)), (3, .ref o), (4, .int i)]) rfl ?_
    exact kk _
set_option maxRecDepth 100000 in
set_option maxHeartbeats 4000000 in
theorem lw_memory {p : Program} {l : Launch} {e : Env} {s : State} {m : MethodId} {b : Nat} {below : List Frame} {meth : Method} {c : Code} {D : va_G} {L : Nat} {xs : Nat → Int32} {cI cZ cL : ClassId} {cells slots : Nat} {a bm : Nat → Nat} {σ τ : St} {o : Nat} {f : Nat → Int64} {i : Int32} (hC : lwC p s m meth c b L xs D cI cZ cL) (hl : l.stackTraces = false) (h1 : vp_in (i + 1) L) (hf : cells + 1 ≤ 1084 ∧ slots + 6 ≤ 11781) (E1 : fX8_thrown (fX8_memory τ (xs (i + 1).toNatClampNeg)).2 = cX7_memoryx σ (xs (i + 1).toNatClampNeg)) (E2 : cX7_memoryx σ (xs (i + 1).toNatClampNeg) = 0 → (fX7_memory σ (xs (i + 1).toNatClampNeg)) = (fX8_memory τ (xs (i + 1).toNatClampNeg)).1) (kk : ∀ f' : Nat → Int64, JL p l e s m b below meth c D (cells + 1) (slots + 6) (LX a bm cI cZ cL (if cX7_memoryx σ (xs (i + 1).toNatClampNeg) = 0 then σ else σ) (fX8_memory τ (xs (i + 1).toNatClampNeg)).2 o f') 749 [(0, .ref b), (1, .ref (a 0)), (2, .ref (bm 0)), (3, .ref o), (4, .int i)] []) : JL p l e s m b below meth c D cells slots (LX a bm cI cZ cL σ τ o f) 612 [(0, .ref b), (1, .ref (a 0)), (2, .ref (bm 0)), (3, .ref o), (4, .int i)] [] := by
  have h : jC p s m #[Value.ref b] meth c code 7 R_law TB D vwCl [(cI, .int), (cZ, .boolean)] (fun q => s.heap.size ≤ q) := jC_sub hC.1 [0, 1] rfl
  have hZ := hC.2.1
  have hX := hC.2.2.1
  have hbl := hC.2.2.2.1
  have hbA : ¬ (fun q : Nat => s.heap.size ≤ q) b := Nat.not_le.mpr hbl
  have hf0 : cells ≤ room_1.cells ∧ slots ≤ room_1.slots := ⟨by show cells ≤ 1084; omega, by show slots ≤ 11781; omega⟩
  refine j_aload_n h 1 dL_law_612 rfl rfl ?_
  refine j_aload_n h 0 dL_law_613 rfl rfl ?_
  refine j_iload h 4 dL_law_614 rfl ?_
  refine j_iconst h (v := 1) dL_law_616 (by decide) ?_
  refine j_iadd h dL_law_617 ?_
  refine j_sld h hX hbl hbA h1 dL_law_618 ?_
  refine j_aload_n h 3 dL_law_619 rfl rfl ?_
  refine j_callSW hC.1 hZ (hL_memory l hl D a cI cZ cL σ o f (xs (i + 1).toNatClampNeg)) tb3_170 tb3_171 tb1_0 tb3_172 ⟨rfl, rfl⟩ (n := 3) ⟨by decide, by decide, by decide +kernel⟩ ⟨Nat.le_of_ble_eq_true rfl, Nat.le_of_ble_eq_true rfl⟩ (As := [.ref (a 0), .int (xs (i + 1).toNatClampNeg), .ref o]) rfl (st := []) rfl (Nat.le_of_ble_eq_true rfl) dL_law_620 hf [0, 1, 2, 3, 4, 5, 6, 7, 8, 9, 10, 11, 12, 13, 14, 15, 16, 17, 18, 19, 20, 21, 22, 23, 24, 46] [25, 26, 27, 28, 29, 30, 31, 32, 33, 34, 35, 36, 37, 38, 39, 40, 41, 42, 43, 44, 45] [21, 22, 23, 24, 25, 26, 27, 28, 29, 30, 31, 32, 33, 34, 35, 36, 37, 38, 39, 40, 41, 42, 43, 44, 45, 0, 1, 2, 3, 4, 5, 6, 7, 8, 9, 10, 11, 12, 13, 14, 15, 16, 17, 18, 19, 20, 46] (wr := mx bm cI cZ τ) (w2 := LX a bm cI cZ cL (if (cX7_memoryx σ (xs (i + 1).toNatClampNeg)) = 0 then σ else σ) τ o (if (cX7_memoryx σ (xs (i + 1).toNatClampNeg)) = 0 then vp_updL f 0 (fX7_memory σ (xs (i + 1).toNatClampNeg)).toInt64 else f)) (LX_hC ..) (by decide) (LX_hR ..) (by decide) (by decide) (LX_hF ..) (by decide) ?_
  refine j_istore h (i := 5) dL_law_623 (Nat.le_of_ble_eq_true rfl) (lv' := [(5, .int (cX7_memoryx σ (xs (i + 1).toNatClampNeg))), (0, .ref b), (1, .ref (a 0)), (2, .ref (bm 0)), (3, .ref o), (4, .int i)]) rfl ?_
  refine j_aload_n h 3 dL_law_625 rfl rfl ?_
  refine j_aload_n h 1 dL_law_626 rfl rfl ?_
  refine j_iload h 5 dL_law_627 rfl ?_
  refine j_iconst h (v := 1) dL_law_629 (by decide) ?_
  refine j_iadd h dL_law_630 ?_
  refine j_sld h hX hbl hbA h1 dL_law_631 ?_
  refine j_callViG h (kX8_memory l D bm cI cZ τ (xs (i + 1).toNatClampNeg)) tb4_198 tb4_199 tb4_200 tb1_11 tb4_201 ⟨rfl, rfl⟩ (n := 1) ⟨rfl, by decide, by decide, by decide +kernel⟩ ⟨Nat.le_of_ble_eq_true rfl, Nat.le_of_ble_eq_true rfl⟩ (As := [.int (xs (i + 1).toNatClampNeg)]) rfl (ci := 8) rfl (q0 := 25) rfl (st := []) rfl (Nat.le_of_ble_eq_true rfl) dL_law_632 hf [25, 26, 27, 28, 29, 30, 31, 32, 33, 34, 35, 36, 37, 38, 39, 40, 41, 42, 43, 44, 45] [0, 1, 2, 3, 4, 5, 6, 7, 8, 9, 10, 11, 12, 13, 14, 15, 16, 17, 18, 19, 20, 21, 22, 23, 24, 46] [0, 1, 2, 3, 4, 5, 6, 7, 8, 9, 10, 11, 12, 13, 14, 15, 16, 17, 18, 19, 20, 21, 22, 23, 24, 26, 27, 28, 29, 30, 31, 32, 33, 34, 35, 36, 37, 38, 39, 40, 41, 42, 43, 44, 45, 46, 25] (wr := fx a cI cZ (if (cX7_memoryx σ (xs (i + 1).toNatClampNeg)) = 0 then σ else σ) ++ [(o, .inl (cL, 1, .inr (.inl (if (cX7_memoryx σ (xs (i + 1).toNatClampNeg)) = 0 then vp_updL f 0 (fX7_memory σ (xs (i + 1).toNatClampNeg)).toInt64 else f))))]) (w2 := LX a bm cI cZ cL (if (cX7_memoryx σ (xs (i + 1).toNatClampNeg)) = 0 then σ else σ) (fX8_memory τ (xs (i + 1).toNatClampNeg)).2 o (if (cX7_memoryx σ (xs (i + 1).toNatClampNeg)) = 0 then vp_updL f 0 (fX7_memory σ (xs (i + 1).toNatClampNeg)).toInt64 else f)) (LX_hR ..) (by decide) (LX_mR ..) (by decide) (by decide) (LX_mF ..) (by decide) ?_
  refine j_istore h (i := 6) dL_law_635 (Nat.le_of_ble_eq_true rfl) (lv' := [(6, .int (fX8_memory τ (xs (i + 1).toNatClampNeg)).1), (5, .int (cX7_memoryx σ (xs (i + 1).toNatClampNeg))), (0, .ref b), (1, .ref (a 0)), (2, .ref (bm 0)), (3, .ref o), (4, .int i)]) rfl ?_
  refine j_aload_n h 4 dL_law_637 rfl rfl ?_
  refine j_callViG h (kX8_thrown l D bm cI cZ (fX8_memory τ (xs (i + 1).toNatClampNeg)).2) tb4_88 tb4_89 tb4_90 tb1_11 tb4_91 ⟨rfl, rfl⟩ (n := 0) ⟨rfl, by decide, by decide, by decide +kernel⟩ ⟨Nat.le_of_ble_eq_true rfl, Nat.le_of_ble_eq_true rfl⟩ (As := []) rfl (ci := 8) rfl (q0 := 25) rfl (st := []) rfl (Nat.le_of_ble_eq_true rfl) dL_law_638 hf [25, 26, 27, 28, 29, 30, 31, 32, 33, 34, 35, 36, 37, 38, 39, 40, 41, 42, 43, 44, 45] [0, 1, 2, 3, 4, 5, 6, 7, 8, 9, 10, 11, 12, 13, 14, 15, 16, 17, 18, 19, 20, 21, 22, 23, 24, 46] [0, 1, 2, 3, 4, 5, 6, 7, 8, 9, 10, 11, 12, 13, 14, 15, 16, 17, 18, 19, 20, 21, 22, 23, 24, 26, 27, 28, 29, 30, 31, 32, 33, 34, 35, 36, 37, 38, 39, 40, 41, 42, 43, 44, 45, 46, 25] (wr := fx a cI cZ (if (cX7_memoryx σ (xs (i + 1).toNatClampNeg)) = 0 then σ else σ) ++ [(o, .inl (cL, 1, .inr (.inl (if (cX7_memoryx σ (xs (i + 1).toNatClampNeg)) = 0 then vp_updL f 0 (fX7_memory σ (xs (i + 1).toNatClampNeg)).toInt64 else f))))]) (w2 := LX a bm cI cZ cL (if (cX7_memoryx σ (xs (i + 1).toNatClampNeg)) = 0 then σ else σ) (fX8_memory τ (xs (i + 1).toNatClampNeg)).2 o (if (cX7_memoryx σ (xs (i + 1).toNatClampNeg)) = 0 then vp_updL f 0 (fX7_memory σ (xs (i + 1).toNatClampNeg)).toInt64 else f)) (LX_hR ..) (by decide) (LX_mR ..) (by decide) (by decide) (LX_mF ..) (by decide) ?_
  refine j_iload h 1 dL_law_641 rfl ?_
  refine j_icmp_eq h dL_law_643 (tgt := 648) (by decide) (fun c1 => ?_) (fun c1 => absurd E1 c1)
  refine j_iload h 1 dL_law_648 rfl ?_
  refine j_if_ne h dL_law_650 (tgt := 665) (by decide) (fun c2 => ?_) (fun c2 => ?_)
  ·
    refine j_goto h dL_law_665 (tgt := 749) (by decide) ?_
    refine j_lv [2, 3, 4, 5, 6] (lv' := [(0, .ref b), (1, .ref (a 0)), (2, .ref (bm 0)), (3, .ref o), (4, .int i)]) rfl ?_
    exact kk _
  ·
    refine j_aload_n h 5 dL_law_653 rfl rfl ?_
    refine j_iconst h (v := 0) dL_law_654 (by decide) ?_
    refine j_laload hC.1 46 2 (f := (if (cX7_memoryx σ (xs (i + 1).toNatClampNeg)) = 0 then vp_updL f 0 (fX7_memory σ (xs (i + 1).toNatClampNeg)).toInt64 else f)) rfl rfl vp01 dL_law_655 ?_
    refine j_iload h 0 dL_law_656 rfl ?_
    refine j_i2l h (v := (fX8_memory τ (xs (i + 1).toNatClampNeg)).1.toInt64) dL_law_658 rfl ?_
    refine j_lcmp h dL_law_659 ?_
    refine j_if_eq h dL_law_660 (tgt := 665) (by decide) (fun c3 => ?_) (fun c3 => absurd (lw_cmp c2 (E2 c2)) c3)
    refine j_goto h dL_law_665 (tgt := 749) (by decide) ?_
    refine j_lv [2, 3, 4, 5, 6] (lv' := [(0, .ref b), (1, .ref (a 0)), (2, .ref (bm 0)), (3, .ref o), (4, .int i)]) rfl ?_
    exact kk _
set_option maxRecDepth 100000 in
set_option maxHeartbeats 4000000 in
theorem lw_cause {p : Program} {l : Launch} {e : Env} {s : State} {m : MethodId} {b : Nat} {below : List Frame} {meth : Method} {c : Code} {D : va_G} {L : Nat} {xs : Nat → Int32} {cI cZ cL : ClassId} {cells slots : Nat} {a bm : Nat → Nat} {σ τ : St} {o : Nat} {f : Nat → Int64} {i : Int32} (hC : lwC p s m meth c b L xs D cI cZ cL) (hl : l.stackTraces = false) (h1 : vp_in (i + 1) L) (hf : cells + 1 ≤ 1084 ∧ slots + 6 ≤ 11781) (E1 : fX8_thrown (fX8_cause τ (xs (i + 1).toNatClampNeg)).2 = cX7_causex σ (xs (i + 1).toNatClampNeg)) (E2 : cX7_causex σ (xs (i + 1).toNatClampNeg) = 0 → (fX7_cause σ (xs (i + 1).toNatClampNeg)) = (fX8_cause τ (xs (i + 1).toNatClampNeg)).1) (kk : ∀ f' : Nat → Int64, JL p l e s m b below meth c D (cells + 1) (slots + 6) (LX a bm cI cZ cL (if cX7_causex σ (xs (i + 1).toNatClampNeg) = 0 then σ else σ) (fX8_cause τ (xs (i + 1).toNatClampNeg)).2 o f') 749 [(0, .ref b), (1, .ref (a 0)), (2, .ref (bm 0)), (3, .ref o), (4, .int i)] []) : JL p l e s m b below meth c D cells slots (LX a bm cI cZ cL σ τ o f) 668 [(0, .ref b), (1, .ref (a 0)), (2, .ref (bm 0)), (3, .ref o), (4, .int i)] [] := by
  have h : jC p s m #[Value.ref b] meth c code 7 R_law TB D vwCl [(cI, .int), (cZ, .boolean)] (fun q => s.heap.size ≤ q) := jC_sub hC.1 [0, 1] rfl
  have hZ := hC.2.1
  have hX := hC.2.2.1
  have hbl := hC.2.2.2.1
  have hbA : ¬ (fun q : Nat => s.heap.size ≤ q) b := Nat.not_le.mpr hbl
  have hf0 : cells ≤ room_1.cells ∧ slots ≤ room_1.slots := ⟨by show cells ≤ 1084; omega, by show slots ≤ 11781; omega⟩
  refine j_aload_n h 1 dL_law_668 rfl rfl ?_
  refine j_aload_n h 0 dL_law_669 rfl rfl ?_
  refine j_iload h 4 dL_law_670 rfl ?_
  refine j_iconst h (v := 1) dL_law_672 (by decide) ?_
  refine j_iadd h dL_law_673 ?_
  refine j_sld h hX hbl hbA h1 dL_law_674 ?_
  refine j_aload_n h 3 dL_law_675 rfl rfl ?_
  refine j_callSW hC.1 hZ (hL_cause l hl D a cI cZ cL σ o f (xs (i + 1).toNatClampNeg)) tb3_179 tb3_180 tb1_0 tb3_181 ⟨rfl, rfl⟩ (n := 3) ⟨by decide, by decide, by decide +kernel⟩ ⟨Nat.le_of_ble_eq_true rfl, Nat.le_of_ble_eq_true rfl⟩ (As := [.ref (a 0), .int (xs (i + 1).toNatClampNeg), .ref o]) rfl (st := []) rfl (Nat.le_of_ble_eq_true rfl) dL_law_676 hf [0, 1, 2, 3, 4, 5, 6, 7, 8, 9, 10, 11, 12, 13, 14, 15, 16, 17, 18, 19, 20, 21, 22, 23, 24, 46] [25, 26, 27, 28, 29, 30, 31, 32, 33, 34, 35, 36, 37, 38, 39, 40, 41, 42, 43, 44, 45] [21, 22, 23, 24, 25, 26, 27, 28, 29, 30, 31, 32, 33, 34, 35, 36, 37, 38, 39, 40, 41, 42, 43, 44, 45, 0, 1, 2, 3, 4, 5, 6, 7, 8, 9, 10, 11, 12, 13, 14, 15, 16, 17, 18, 19, 20, 46] (wr := mx bm cI cZ τ) (w2 := LX a bm cI cZ cL (if (cX7_causex σ (xs (i + 1).toNatClampNeg)) = 0 then σ else σ) τ o (if (cX7_causex σ (xs (i + 1).toNatClampNeg)) = 0 then vp_updL f 0 (fX7_cause σ (xs (i + 1).toNatClampNeg)).toInt64 else f)) (LX_hC ..) (by decide) (LX_hR ..) (by decide) (by decide) (LX_hF ..) (by decide) ?_
  refine j_istore h (i := 5) dL_law_679 (Nat.le_of_ble_eq_true rfl) (lv' := [(5, .int (cX7_causex σ (xs (i + 1).toNatClampNeg))), (0, .ref b), (1, .ref (a 0)), (2, .ref (bm 0)), (3, .ref o), (4, .int i)]) rfl ?_
  refine j_aload_n h 3 dL_law_681 rfl rfl ?_
  refine j_aload_n h 1 dL_law_682 rfl rfl ?_
  refine j_iload h 5 dL_law_683 rfl ?_
  refine j_iconst h (v := 1) dL_law_685 (by decide) ?_
  refine j_iadd h dL_law_686 ?_
  refine j_sld h hX hbl hbA h1 dL_law_687 ?_
  refine j_callViG h (kX8_cause l D bm cI cZ τ (xs (i + 1).toNatClampNeg)) tb4_202 tb4_203 tb4_204 tb1_11 tb4_205 ⟨rfl, rfl⟩ (n := 1) ⟨rfl, by decide, by decide, by decide +kernel⟩ ⟨Nat.le_of_ble_eq_true rfl, Nat.le_of_ble_eq_true rfl⟩ (As := [.int (xs (i + 1).toNatClampNeg)]) rfl (ci := 8) rfl (q0 := 25) rfl (st := []) rfl (Nat.le_of_ble_eq_true rfl) dL_law_688 hf [25, 26, 27, 28, 29, 30, 31, 32, 33, 34, 35, 36, 37, 38, 39, 40, 41, 42, 43, 44, 45] [0, 1, 2, 3, 4, 5, 6, 7, 8, 9, 10, 11, 12, 13, 14, 15, 16, 17, 18, 19, 20, 21, 22, 23, 24, 46] [0, 1, 2, 3, 4, 5, 6, 7, 8, 9, 10, 11, 12, 13, 14, 15, 16, 17, 18, 19, 20, 21, 22, 23, 24, 26, 27, 28, 29, 30, 31, 32, 33, 34, 35, 36, 37, 38, 39, 40, 41, 42, 43, 44, 45, 46, 25] (wr := fx a cI cZ (if (cX7_causex σ (xs (i + 1).toNatClampNeg)) = 0 then σ else σ) ++ [(o, .inl (cL, 1, .inr (.inl (if (cX7_causex σ (xs (i + 1).toNatClampNeg)) = 0 then vp_updL f 0 (fX7_cause σ (xs (i + 1).toNatClampNeg)).toInt64 else f))))]) (w2 := LX a bm cI cZ cL (if (cX7_causex σ (xs (i + 1).toNatClampNeg)) = 0 then σ else σ) (fX8_cause τ (xs (i + 1).toNatClampNeg)).2 o (if (cX7_causex σ (xs (i + 1).toNatClampNeg)) = 0 then vp_updL f 0 (fX7_cause σ (xs (i + 1).toNatClampNeg)).toInt64 else f)) (LX_hR ..) (by decide) (LX_mR ..) (by decide) (by decide) (LX_mF ..) (by decide) ?_
  refine j_istore h (i := 6) dL_law_691 (Nat.le_of_ble_eq_true rfl) (lv' := [(6, .int (fX8_cause τ (xs (i + 1).toNatClampNeg)).1), (5, .int (cX7_causex σ (xs (i + 1).toNatClampNeg))), (0, .ref b), (1, .ref (a 0)), (2, .ref (bm 0)), (3, .ref o), (4, .int i)]) rfl ?_
  refine j_aload_n h 4 dL_law_693 rfl rfl ?_
  refine j_callViG h (kX8_thrown l D bm cI cZ (fX8_cause τ (xs (i + 1).toNatClampNeg)).2) tb4_88 tb4_89 tb4_90 tb1_11 tb4_91 ⟨rfl, rfl⟩ (n := 0) ⟨rfl, by decide, by decide, by decide +kernel⟩ ⟨Nat.le_of_ble_eq_true rfl, Nat.le_of_ble_eq_true rfl⟩ (As := []) rfl (ci := 8) rfl (q0 := 25) rfl (st := []) rfl (Nat.le_of_ble_eq_true rfl) dL_law_694 hf [25, 26, 27, 28, 29, 30, 31, 32, 33, 34, 35, 36, 37, 38, 39, 40, 41, 42, 43, 44, 45] [0, 1, 2, 3, 4, 5, 6, 7, 8, 9, 10, 11, 12, 13, 14, 15, 16, 17, 18, 19, 20, 21, 22, 23, 24, 46] [0, 1, 2, 3, 4, 5, 6, 7, 8, 9, 10, 11, 12, 13, 14, 15, 16, 17, 18, 19, 20, 21, 22, 23, 24, 26, 27, 28, 29, 30, 31, 32, 33, 34, 35, 36, 37, 38, 39, 40, 41, 42, 43, 44, 45, 46, 25] (wr := fx a cI cZ (if (cX7_causex σ (xs (i + 1).toNatClampNeg)) = 0 then σ else σ) ++ [(o, .inl (cL, 1, .inr (.inl (if (cX7_causex σ (xs (i + 1).toNatClampNeg)) = 0 then vp_updL f 0 (fX7_cause σ (xs (i + 1).toNatClampNeg)).toInt64 else f))))]) (w2 := LX a bm cI cZ cL (if (cX7_causex σ (xs (i + 1).toNatClampNeg)) = 0 then σ else σ) (fX8_cause τ (xs (i + 1).toNatClampNeg)).2 o (if (cX7_causex σ (xs (i + 1).toNatClampNeg)) = 0 then vp_updL f 0 (fX7_cause σ (xs (i + 1).toNatClampNeg)).toInt64 else f)) (LX_hR ..) (by decide) (LX_mR ..) (by decide) (by decide) (LX_mF ..) (by decide) ?_
  refine j_iload h 1 dL_law_697 rfl ?_
  refine j_icmp_eq h dL_law_699 (tgt := 704) (by decide) (fun c1 => ?_) (fun c1 => absurd E1 c1)
  refine j_iload h 1 dL_law_704 rfl ?_
  refine j_if_ne h dL_law_706 (tgt := 721) (by decide) (fun c2 => ?_) (fun c2 => ?_)
  ·
    refine j_goto h dL_law_721 (tgt := 749) (by decide) ?_
    refine j_lv [2, 3, 4, 5, 6] (lv' := [(0, .ref b), (1, .ref (a 0)), (2, .ref (bm 0)), (3, .ref o), (4, .int i)]) rfl ?_
    exact kk _
  ·
    refine j_aload_n h 5 dL_law_709 rfl rfl ?_
    refine j_iconst h (v := 0) dL_law_710 (by decide) ?_
    refine j_laload hC.1 46 2 (f := (if (cX7_causex σ (xs (i + 1).toNatClampNeg)) = 0 then vp_updL f 0 (fX7_cause σ (xs (i + 1).toNatClampNeg)).toInt64 else f)) rfl rfl vp01 dL_law_711 ?_
    refine j_iload h 0 dL_law_712 rfl ?_
    refine j_i2l h (v := (fX8_cause τ (xs (i + 1).toNatClampNeg)).1.toInt64) dL_law_714 rfl ?_
    refine j_lcmp h dL_law_715 ?_
    refine j_if_eq h dL_law_716 (tgt := 721) (by decide) (fun c3 => ?_) (fun c3 => absurd (lw_cmp c2 (E2 c2)) c3)
    refine j_goto h dL_law_721 (tgt := 749) (by decide) ?_
    refine j_lv [2, 3, 4, 5, 6] (lv' := [(0, .ref b), (1, .ref (a 0)), (2, .ref (bm 0)), (3, .ref o), (4, .int i)]) rfl ?_
    exact kk _
set_option maxRecDepth 100000 in
set_option maxHeartbeats 4000000 in
theorem lw_count {p : Program} {l : Launch} {e : Env} {s : State} {m : MethodId} {b : Nat} {below : List Frame} {meth : Method} {c : Code} {D : va_G} {L : Nat} {xs : Nat → Int32} {cI cZ cL : ClassId} {cells slots : Nat} {a bm : Nat → Nat} {σ τ : St} {o : Nat} {f : Nat → Int64} {i : Int32} (hC : lwC p s m meth c b L xs D cI cZ cL) (h1 : vp_in (i + 1) L) (hf : cells + 1 ≤ 1084 ∧ slots + 6 ≤ 11781) (E1 : (fX7_count σ (xs (i + 1).toNatClampNeg)) = (fX8_count τ (xs (i + 1).toNatClampNeg)).1) (kk : JL p l e s m b below meth c D (cells + 1) (slots + 6) (LX a bm cI cZ cL σ (fX8_count τ (xs (i + 1).toNatClampNeg)).2 o f) 749 [(0, .ref b), (1, .ref (a 0)), (2, .ref (bm 0)), (3, .ref o), (4, .int i)] []) : JL p l e s m b below meth c D cells slots (LX a bm cI cZ cL σ τ o f) 724 [(0, .ref b), (1, .ref (a 0)), (2, .ref (bm 0)), (3, .ref o), (4, .int i)] [] := by
  have h : jC p s m #[Value.ref b] meth c code 7 R_law TB D vwCl [(cI, .int), (cZ, .boolean)] (fun q => s.heap.size ≤ q) := jC_sub hC.1 [0, 1] rfl
  have hZ := hC.2.1
  have hX := hC.2.2.1
  have hbl := hC.2.2.2.1
  have hbA : ¬ (fun q : Nat => s.heap.size ≤ q) b := Nat.not_le.mpr hbl
  have hf0 : cells ≤ room_1.cells ∧ slots ≤ room_1.slots := ⟨by show cells ≤ 1084; omega, by show slots ≤ 11781; omega⟩
  refine j_aload_n h 1 dL_law_724 rfl rfl ?_
  refine j_aload_n h 0 dL_law_725 rfl rfl ?_
  refine j_iload h 4 dL_law_726 rfl ?_
  refine j_iconst h (v := 1) dL_law_728 (by decide) ?_
  refine j_iadd h dL_law_729 ?_
  refine j_sld h hX hbl hbA h1 dL_law_730 ?_
  refine j_callViG h (kX7_count l D a cI cZ σ (xs (i + 1).toNatClampNeg)) tb2_59 tb2_60 tb2_61 tb1_1 tb2_62 ⟨rfl, rfl⟩ (n := 1) ⟨rfl, by decide, by decide, by decide +kernel⟩ ⟨Nat.le_of_ble_eq_true rfl, Nat.le_of_ble_eq_true rfl⟩ (As := [.int (xs (i + 1).toNatClampNeg)]) rfl (ci := 7) rfl (q0 := 0) rfl (st := []) rfl (Nat.le_of_ble_eq_true rfl) dL_law_731 hf0 [0, 1, 2, 3, 4, 5, 6, 7, 8, 9, 10, 11, 12, 13, 14, 15, 16, 17, 18, 19, 20, 21, 22, 23, 24] [25, 26, 27, 28, 29, 30, 31, 32, 33, 34, 35, 36, 37, 38, 39, 40, 41, 42, 43, 44, 45, 46] [22, 23, 24, 25, 26, 27, 28, 29, 30, 31, 32, 33, 34, 35, 36, 37, 38, 39, 40, 41, 42, 43, 44, 45, 46, 0, 1, 2, 3, 4, 5, 6, 7, 8, 9, 10, 11, 12, 13, 14, 15, 16, 17, 18, 19, 20, 21] (wr := mx bm cI cZ τ ++ [(o, .inl (cL, 1, .inr (.inl f)))]) (w2 := LX a bm cI cZ cL σ τ o f) (LX_cC ..) (by decide) (LX_cR ..) (by decide) (by decide) (LX_cF ..) (by decide) ?_
  refine j_aload_n h 2 dL_law_734 rfl rfl ?_
  refine j_aload_n h 0 dL_law_735 rfl rfl ?_
  refine j_iload h 4 dL_law_736 rfl ?_
  refine j_iconst h (v := 1) dL_law_738 (by decide) ?_
  refine j_iadd h dL_law_739 ?_
  refine j_sld h hX hbl hbA h1 dL_law_740 ?_
  refine j_callViG h (kX8_count l D bm cI cZ τ (xs (i + 1).toNatClampNeg)) tb4_206 tb4_207 tb4_208 tb1_11 tb4_209 ⟨rfl, rfl⟩ (n := 1) ⟨rfl, by decide, by decide, by decide +kernel⟩ ⟨Nat.le_of_ble_eq_true rfl, Nat.le_of_ble_eq_true rfl⟩ (As := [.int (xs (i + 1).toNatClampNeg)]) rfl (ci := 8) rfl (q0 := 25) rfl (st := [.int (fX7_count σ (xs (i + 1).toNatClampNeg))]) rfl (Nat.le_of_ble_eq_true rfl) dL_law_741 hf0 [25, 26, 27, 28, 29, 30, 31, 32, 33, 34, 35, 36, 37, 38, 39, 40, 41, 42, 43, 44, 45] [0, 1, 2, 3, 4, 5, 6, 7, 8, 9, 10, 11, 12, 13, 14, 15, 16, 17, 18, 19, 20, 21, 22, 23, 24, 46] [0, 1, 2, 3, 4, 5, 6, 7, 8, 9, 10, 11, 12, 13, 14, 15, 16, 17, 18, 19, 20, 21, 22, 23, 24, 26, 27, 28, 29, 30, 31, 32, 33, 34, 35, 36, 37, 38, 39, 40, 41, 42, 43, 44, 45, 46, 25] (wr := fx a cI cZ σ ++ [(o, .inl (cL, 1, .inr (.inl f)))]) (w2 := LX a bm cI cZ cL σ (fX8_count τ (xs (i + 1).toNatClampNeg)).2 o f) (LX_hR ..) (by decide) (LX_mR ..) (by decide) (by decide) (LX_mF ..) (by decide) ?_
  refine j_icmp_eq h dL_law_744 (tgt := 749) (by decide) (fun c1 => ?_) (fun c1 => absurd E1 c1)
  refine j_lv [0, 1, 2, 3, 4] (lv' := [(0, .ref b), (1, .ref (a 0)), (2, .ref (bm 0)), (3, .ref o), (4, .int i)]) rfl ?_
  refine j_widen (k := cells + 1) (n := slots + 6) (by omega) (by omega) ?_
  exact kk
