/-! what the program is, and what stays; the plain run on both sides -/
theorem md_eq (x : Int32) {k : Nat} (h0 : 0 < k) (hk : k < 2 ^ 30) : fX8_modulo x (nI k) = fm x (nI k) := by
  apply Int32.toInt_inj.mp
  rw [fm_toInt x h0 hk]
  unfold fX8_modulo
  have hr := fm_rem x h0 (show k < 2 ^ 31 by omega)
  have h1 := Int.tmod_lt_of_pos x.toInt (b := (k : Int)) (by omega)
  have h2 := Int.lt_tmod_of_pos x.toInt (b := (k : Int)) (by omega)
  have e := Int.mul_tdiv_add_tmod x.toInt k
  have e2 : x.toInt % (k : Int) = x.toInt.tmod k % (k : Int) := by
    conv => lhs; rw [← e]
    rw [Int.mul_add_emod_self_left]
  have hs : (x - x / nI k * nI k + nI k).toInt = x.toInt.tmod k + k := by
    rw [Int32.toInt_add, hr, nI_toInt (by omega)]
    exact Int.bmod_eq_of_le_mul_two (by omega) (by omega)
  rw [fm_rem _ h0 (by omega), hs, Int.tmod_eq_emod_of_nonneg (by omega), Int.add_emod_right, e2]
theorem rm_eq (x : Int32) {k : Nat} (h0 : 0 < k) (hk : k < 2 ^ 30) (hx : 0 ≤ x.toInt) : x - x / nI k * nI k = fm x (nI k) := by
  apply Int32.toInt_inj.mp
  rw [fm_toInt x h0 hk, fm_rem x h0 (by omega), Int.tmod_eq_emod_of_nonneg hx]
theorem fm_small {j k : Nat} (h : j < k) (hk : k < 2 ^ 30) : fm (nI j) (nI k) = nI j := by
  apply Int32.toInt_inj.mp
  rw [fm_toInt _ (by omega) hk, nI_toInt (by omega)]
  exact Int.emod_eq_of_lt (by omega) (by omega)
theorem md_ge (x : Int32) {k : Nat} (h0 : 0 < k) (hk : k < 2 ^ 30) : 0 ≤ fX8_modulo x (nI k) := by
  rw [md_eq x h0 hk]
  obtain ⟨j, hj, e, -⟩ := fm_nat x h0 hk
  rw [e]
  exact n_le0 (by omega)
theorem md_fm (x : Int32) {k : Nat} (h0 : 0 < k) (hk : k < 2 ^ 30) : fX8_modulo x (nI k) - fX8_modulo x (nI k) / nI k * nI k = fm x (nI k) := by
  rw [md_eq x h0 hk]
  obtain ⟨j, hj, e, -⟩ := fm_nat x h0 hk
  rw [e, rm_eq (nI j) h0 hk (by rw [nI_toInt (by omega)]; omega)]
  exact fm_small hj hk
def Km (π τ : St) : Prop := (∀ k, (k < 7 ∨ k = 9 ∨ k = 22) → τ.1 k = π.1 k) ∧ τ.1 16 = π.1 16 ∧ τ.1 17 = π.1 17 ∧ ∀ k, k < 5 → τ.2 k = π.2 k
def Kc (π σ : St) : Prop := (∀ k, k < 7 → σ.1 k = π.1 k) ∧ σ.1 16 = π.1 16 ∧ σ.1 17 = π.1 17 ∧ σ.2 0 = π.2 0 ∧ σ.2 4 = π.2 4 ∧ (∀ i, σ.2 1 i = if fX3_hasTarget (π.2 0 i) = 0 then -1 else π.2 1 i) ∧ (∀ i, σ.2 2 i = if fX3_readsFirst (π.2 0 i) = 0 then -1 else π.2 2 i) ∧ (∀ i, σ.2 3 i = if fX3_readsSecond (π.2 0 i) = 0 then -1 else π.2 3 i)
def Gd (π : St) (N R B M W : Nat) : Prop := π.1 0 = nI N ∧ π.1 1 = nI R ∧ π.1 4 = nI B ∧ π.1 5 = nI M ∧ π.1 6 = nI W ∧ (3 ≤ N ∧ N ≤ 8 ∧ 1 ≤ R ∧ R + 2 ≤ N ∧ R ≤ B ∧ B < N ∧ 1 ≤ M ∧ M ≤ 8 ∧ W ≤ 64) ∧ (∃ H : Nat, H < 64 ∧ π.1 17 = nI H) ∧ (∀ i, ∃ k : Nat, k < 8 ∧ π.2 0 i = nI k) ∧ (∀ i, ∃ k : Nat, k < 8 ∧ π.2 1 i = nI k) ∧ (∀ i, ∃ k : Nat, k < 8 ∧ π.2 2 i = nI k) ∧ ∀ i, ∃ k : Nat, k < 8 ∧ π.2 3 i = nI k
theorem Km.fr {π τ ρ : St} (h : Km π τ) (h1 : ∀ k, (k < 7 ∨ k = 9 ∨ k = 16 ∨ k = 17 ∨ k = 22) → ρ.1 k = τ.1 k) (h2 : ∀ k, k < 5 → ρ.2 k = τ.2 k) : Km π ρ :=
  ⟨fun k hk => (h1 k (by omega)).trans (h.1 k hk), (h1 16 (by simp)).trans h.2.1, (h1 17 (by simp)).trans h.2.2.1, fun k hk => (h2 k hk).trans (h.2.2.2 k hk)⟩
theorem Kc.fr {π σ ρ : St} (h : Kc π σ) (h1 : ∀ k, (k < 7 ∨ k = 16 ∨ k = 17) → ρ.1 k = σ.1 k) (h2 : ∀ k, k < 5 → ρ.2 k = σ.2 k) : Kc π ρ := by
  obtain ⟨a1, a2, a3, a4, a5, a6, a7, a8⟩ := h
  exact ⟨fun k hk => (h1 k (Or.inl hk)).trans (a1 k hk), (h1 16 (by simp)).trans a2, (h1 17 (by simp)).trans a3, (h2 0 (by decide)).trans a4, (h2 4 (by decide)).trans a5, fun i => by rw [h2 1 (by decide)]; exact a6 i, fun i => by rw [h2 2 (by decide)]; exact a7 i, fun i => by rw [h2 3 (by decide)]; exact a8 i⟩
theorem kd8 {π : St} {i : Nat} (h : ∃ k : Nat, k < 8 ∧ π.2 0 i = nI k) : π.2 0 i = 0 ∨ π.2 0 i = 1 ∨ π.2 0 i = 2 ∨ π.2 0 i = 3 ∨ π.2 0 i = 4 ∨ π.2 0 i = 5 ∨ π.2 0 i = 6 ∨ π.2 0 i = 7 := by
  obtain ⟨k, hk, e⟩ := h
  rcases (show k = 0 ∨ k = 1 ∨ k = 2 ∨ k = 3 ∨ k = 4 ∨ k = 5 ∨ k = 6 ∨ k = 7 by omega) with rfl | rfl | rfl | rfl | rfl | rfl | rfl | rfl <;> simp [e, nI] <;> decide
theorem c_valL {σ : St} {a : Nat} (h : a < 8) : fX2_valueOfL σ (nI a) = σ.2 14 a := by
  unfold fX2_valueOfL
  rw [if_neg (n_lt0 (by omega)), if_neg (n_ge8 h), n_cl (by omega)]
theorem c_valLN {σ : St} : fX2_valueOfL σ (-1) = 0 := by
  unfold fX2_valueOfL
  rw [if_pos (by decide)]
theorem c_valA {σ : St} {a : Nat} (h : a < 8) : fX2_valueOfA σ (nI a) = σ.2 12 a := by
  unfold fX2_valueOfA
  rw [if_neg (n_lt0 (by omega)), if_neg (n_ge8 h), n_cl (by omega)]
theorem c_valAN {σ : St} : fX2_valueOfA σ (-1) = 0 := by
  unfold fX2_valueOfA
  rw [if_pos (by decide)]
theorem c_wrL {σ : St} {a : Nat} (h : a < 8) (x : Int32) : fX2_writeL σ (nI a) x = (x, ar σ 14 (upd (σ.2 14) a x)) := by
  unfold fX2_writeL
  rw [if_neg (n_lt0 (by omega)), if_neg (n_ge8 h), n_cl (by omega)]
theorem c_wrA {σ : St} {a : Nat} (h : a < 8) (x : Int32) : fX2_writeA σ (nI a) x = (x, ar σ 12 (upd (σ.2 12) a x)) := by
  unfold fX2_writeA
  rw [if_neg (n_lt0 (by omega)), if_neg (n_ge8 h), n_cl (by omega)]
theorem m64 (x : Int32) : fX8_modulo x 64 = fm x 64 := md_eq x (k := 64) (by decide) (by decide)
/-- the four numbers of a word as the class has them -/
theorem c_wd {π σ : St} {N R B M W i : Nat} (hc : Kc π σ) (hg : Gd π N R B M W) (hi : i < 64) : ∃ d a b : Nat, d < 8 ∧ a < 8 ∧ b < 8 ∧ π.2 1 i = nI d ∧ π.2 2 i = nI a ∧ π.2 3 i = nI b ∧
    fX3_kindOf σ (nI i) = π.2 0 i ∧ fX3_number σ (nI i) = π.2 4 i ∧ fX3_written σ (nI i) = (if fX3_hasTarget (π.2 0 i) = 0 then -1 else nI d) ∧ fX3_firstRead σ (nI i) = (if fX3_readsFirst (π.2 0 i) = 0 then -1 else nI a) ∧ fX3_secondRead σ (nI i) = (if fX3_readsSecond (π.2 0 i) = 0 then -1 else nI b) := by
  obtain ⟨-, -, -, b4, b5, b6, b7, b8⟩ := hc
  obtain ⟨-, -, -, -, -, -, -, -, g1, g2, g3⟩ := hg
  obtain ⟨d, hd, ed⟩ := g1 i
  obtain ⟨a, ha, ea⟩ := g2 i
  obtain ⟨b, hb, eb⟩ := g3 i
  refine ⟨d, a, b, hd, ha, hb, ed, ea, eb, ?_, ?_, ?_, ?_, ?_⟩
  · rw [c_kind hi, b4]
  · rw [c_num hi, b5]
  · rw [c_writ hi, b6, ed]
  · rw [c_fst hi, b7, ea]
  · rw [c_snd hi, b8, eb]
set_option maxHeartbeats 2000000 in
theorem c_perfL {π σ : St} {N R B M W i : Nat} (hc : Kc π σ) (hg : Gd π N R B M W) (hi : i < 64) :
    (fX2_performL σ (nI i)).1 = pV π (σ.2 14, σ.2 15) i ∧ (fX2_performL σ (nI i)).2.1 = σ.1 ∧ (∀ k, k ≠ 14 → k ≠ 15 → (fX2_performL σ (nI i)).2.2 k = σ.2 k) ∧ (fX2_performL σ (nI i)).2.2 14 = (pS π (σ.2 14, σ.2 15) i).1 ∧ (fX2_performL σ (nI i)).2.2 15 = (pS π (σ.2 14, σ.2 15) i).2 := by
  obtain ⟨d, a, b, hd, ha, hb, ed, ea, eb, e1, e2, e3, e4, e5⟩ := c_wd hc hg hi
  have ek := kd8 (hg.2.2.2.2.2.2.2.1 i)
  have ca : (nI a).toNatClampNeg = a := n_cl (by omega)
  have cb : (nI b).toNatClampNeg = b := n_cl (by omega)
  have cd : (nI d).toNatClampNeg = d := n_cl (by omega)
  unfold fX2_performL
  simp only [e1, e2, e3, e4, e5]
  rcases ek with e | e | e | e | e | e | e | e
  all_goals
    simp [e, pV, pS, pX, pY, pP, ed, ea, eb, ca, cb, cd, fX3_hasTarget, fX3_readsFirst, fX3_readsSecond, c_valL ha, c_valL hb, c_valLN, c_wrL hd, fX2_valueAtL, fX2_storeL, m64, q3, q4]
  all_goals (intro k h1 h2; simp [h1, h2])
set_option maxHeartbeats 2000000 in
theorem c_perfA {π σ : St} {N R B M W i : Nat} (hc : Kc π σ) (hg : Gd π N R B M W) (hi : i < 64) :
    (fX2_performA σ (nI i)).2.1 = σ.1 ∧ (∀ k, k ≠ 12 → k ≠ 13 → (fX2_performA σ (nI i)).2.2 k = σ.2 k) ∧ (fX2_performA σ (nI i)).2.2 12 = (pS π (σ.2 12, σ.2 13) i).1 ∧ (fX2_performA σ (nI i)).2.2 13 = (pS π (σ.2 12, σ.2 13) i).2 := by
  obtain ⟨d, a, b, hd, ha, hb, ed, ea, eb, e1, e2, e3, e4, e5⟩ := c_wd hc hg hi
  have ek := kd8 (hg.2.2.2.2.2.2.2.1 i)
  have ca : (nI a).toNatClampNeg = a := n_cl (by omega)
  have cb : (nI b).toNatClampNeg = b := n_cl (by omega)
  have cd : (nI d).toNatClampNeg = d := n_cl (by omega)
  unfold fX2_performA
  simp only [e1, e2, e3, e4, e5]
  rcases ek with e | e | e | e | e | e | e | e
  all_goals
    simp [e, pV, pS, pX, pY, pP, ed, ea, eb, ca, cb, cd, fX3_hasTarget, fX3_readsFirst, fX3_readsSecond, c_valA ha, c_valA hb, c_valAN, c_wrA hd, fX2_valueAtA, fX2_storeA, m64, q3, q4]
  all_goals (intro k h1 h2; simp [h1, h2])
theorem c_goesA {π σ : St} {N R B M W i : Nat} (hc : Kc π σ) (hg : Gd π N R B M W) (hi : i < 64) (hW : 1 ≤ W) : fX2_goesA σ (nI i) = if 0 ≤ pE π (σ.2 12, σ.2 13) i then 1 else 0 := by
  obtain ⟨d, a, b, hd, ha, hb, ed, ea, eb, e1, e2, e3, e4, e5⟩ := c_wd hc hg hi
  have ek := kd8 (hg.2.2.2.2.2.2.2.1 i)
  have ca : (nI a).toNatClampNeg = a := n_cl (by omega)
  have hm : 0 ≤ fX8_modulo (π.2 4 i) (π.1 6) := by rw [hg.2.2.2.2.1]; exact md_ge _ (by omega) (by have := hg.2.2.2.2.2.1; omega)
  have hn : ¬ (0 : Int32) ≤ -1 := by decide
  unfold fX2_goesA pE pX
  simp only [e1, e4]
  rcases ek with e | e | e | e | e | e | e | e
  all_goals simp [e, fX3_readsFirst, fX3_readsSecond, ea, ca, c_valA ha, hn]
  by_cases z : σ.2 12 a = 0
  · simp [z, hn]
  · simp [z, hm]
set_option maxHeartbeats 4000000 in
theorem m_plain {π τ : St} {N R B M W i : Nat} (hm : Km π τ) (hg : Gd π N R B M W) (hi : i < 64) (hW : 1 ≤ W) :
    (∀ k, k ≠ 19 → k ≠ 20 → (fX8_plainRun τ (nI i)).1 k = τ.1 k) ∧ (fX8_plainRun τ (nI i)).1 19 = (if π.2 0 i = 5 ∨ 0 ≤ pE π (τ.2 12, τ.2 13) i then 1 else τ.1 19) ∧ (fX8_plainRun τ (nI i)).1 20 = (if π.2 0 i = 6 then 1 else τ.1 20) ∧
    (∀ k, k ≠ 12 → k ≠ 13 → k ≠ 17 → k ≠ 18 → k ≠ 19 → (fX8_plainRun τ (nI i)).2 k = τ.2 k) ∧ (fX8_plainRun τ (nI i)).2 12 = (pS π (τ.2 12, τ.2 13) i).1 ∧ (fX8_plainRun τ (nI i)).2 13 = (pS π (τ.2 12, τ.2 13) i).2 ∧
    (∀ j, (fX8_plainRun τ (nI i)).2 17 j = if j = 0 then pV π (τ.2 12, τ.2 13) i else τ.2 17 j) ∧ (∀ j, (fX8_plainRun τ (nI i)).2 18 j = if j = 0 then pP π (τ.2 12, τ.2 13) i else τ.2 18 j) ∧ (∀ j, (fX8_plainRun τ (nI i)).2 19 j = if j = 0 then pE π (τ.2 12, τ.2 13) i else τ.2 19 j) := by
  have ek := kd8 (hg.2.2.2.2.2.2.2.1 i)
  have k0 : τ.2 0 = π.2 0 := hm.2.2.2 0 (by decide)
  have k1 : τ.2 1 = π.2 1 := hm.2.2.2 1 (by decide)
  have k2 : τ.2 2 = π.2 2 := hm.2.2.2 2 (by decide)
  have k3 : τ.2 3 = π.2 3 := hm.2.2.2 3 (by decide)
  have k4 : τ.2 4 = π.2 4 := hm.2.2.2 4 (by decide)
  have k6 : τ.1 6 = π.1 6 := hm.1 6 (by decide)
  have ci : (nI i).toNatClampNeg = i := n_cl (by omega)
  have c0 : (0 : Int32).toNatClampNeg = 0 := n_cl0
  have hmo : 0 ≤ fX8_modulo (π.2 4 i) (π.1 6) := by rw [hg.2.2.2.2.1]; exact md_ge _ (by omega) (by have := hg.2.2.2.2.2.1; omega)
  have hn : ¬ (0 : Int32) ≤ -1 := by decide
  have hml : ¬ fX8_modulo (π.2 4 i) (π.1 6) < 0 := Int32.not_lt.mpr hmo
  unfold fX8_plainRun fX8_writes pE
  rcases ek with e | e | e | e | e | e | e | e
  all_goals
    simp only [k0, k1, k2, k3, k4, k6, ci, c0, e]
  all_goals
    by_cases z : pX π (τ.2 12, τ.2 13) i = 0
  all_goals
    have z2 := z
    simp only [pX] at z2
  all_goals
    simp [e, z, z2, hn, hmo, hml, pV, pS, pP, pX, pY, fX3_hasTarget, q1, q2, q3, q4, q5, k0, k1, k2, k3, k4, k6, ci, c0]
  all_goals grind
/-! operands there -/
theorem rf_eq {k : Int32} (h : k = 0 ∨ k = 1 ∨ k = 2 ∨ k = 3 ∨ k = 4 ∨ k = 5 ∨ k = 6 ∨ k = 7) : fX3_readsFirst k = (if 5 ≤ k then 0 else 1) := by
  rcases h with rfl | rfl | rfl | rfl | rfl | rfl | rfl | rfl <;> decide
theorem there_eq {π σ τ : St} {N R B M W d : Nat} (hc : Kc π σ) (hm : Km π τ) (hg : Gd π N R B M W) (h5 : σ.2 5 = τ.2 5) (hw : ∀ s, s < 8 → wok (τ.2 5 s)) (hd : d < 8) :
    ∀ (n s : Nat), s < 100 → gfX1_isThere n σ (nI d) (nI s) = gfX8_isThere n τ (nI d) (nI s) := by
  have k0 : τ.2 0 = π.2 0 := hm.2.2.2 0 (by decide)
  have k1 : τ.2 1 = π.2 1 := hm.2.2.2 1 (by decide)
  have s0 : σ.1 0 = nI N := by rw [hc.1 0 (by decide)]; exact hg.1
  have t0 : τ.1 0 = nI N := by rw [hm.1 0 (by decide)]; exact hg.1
  have hb := hg.2.2.2.2.2.1
  intro n
  induction n with
  | zero => intro s _; rfl
  | succ n ih =>
    intro s hs
    simp only [gfX1_isThere, gfX8_isThere]
    rw [s0, t0]
    by_cases c1 : nI N ≤ nI s
    · rw [if_pos c1, if_pos c1]
    · rw [if_neg c1, if_neg c1]
      have hsN : s < N := Nat.lt_of_not_le (fun z => c1 (nI_le z (by omega)))
      have hr : gfX1_isThere n σ (nI d) (nI s + 1) = gfX8_isThere n τ (nI d) (nI s + 1) := by
        by_cases hs2 : s + 1 < 100
        · rw [nI_1]; exact ih (s + 1) hs2
        · omega
      rw [c_word (by omega), n_cl (by omega), h5]
      by_cases c2 : τ.2 5 s = -1
      · rw [if_pos ((hw s (by omega)).lt.mpr c2), c2, c_writN, if_neg (fun z => n_nm1 (s := d) (by omega) z.symm)]
        exact hr
      · rw [if_neg (fun z => c2 ((hw s (by omega)).lt.mp z))]
        obtain ⟨ei, hi⟩ := (hw s (by omega)).idx c2
        generalize (τ.2 5 s).toNatClampNeg = i at ei hi
        obtain ⟨d2, a, b, hd2, ha, hb2, ed, ea, eb, e1, e2, e3, e4, e5⟩ := c_wd hc hg hi
        rw [ei, e3, e1]
        have ew : fX8_writes τ (nI i) = fX3_hasTarget (π.2 0 i) := by unfold fX8_writes fX3_hasTarget; rw [k0, n_cl (by omega)]
        rw [ew, k0, k1, ed]
        by_cases c3 : fX3_hasTarget (π.2 0 i) = 0
        · rw [if_pos c3, if_pos c3, if_neg (fun z => n_nm1 (s := d) (by omega) z.symm)]
          exact hr
        · rw [if_neg c3, if_neg c3]
          by_cases c4 : nI d2 = nI d
          · rw [if_pos c4, if_pos c4, hc.2.1, hm.2.1]
            by_cases c5 : π.1 16 = 0
            · rw [if_pos c5, if_pos c5]
            · rw [if_neg c5, if_neg c5]
              unfold fX4_behindWhichReady
              rw [hc.1 3 (by decide), hc.1 2 (by decide), hm.1 3 (by decide), hm.1 2 (by decide)]
              by_cases c6 : π.2 0 i = 1
              · rw [if_pos c6, if_pos c6]
              · rw [if_neg c6, if_neg c6]
          · rw [if_neg c4, if_neg c4]; exact hr
theorem isT_eq {π σ τ : St} {N R B M W d : Nat} (hc : Kc π σ) (hm : Km π τ) (hg : Gd π N R B M W) (h5 : σ.2 5 = τ.2 5) (hw : ∀ s, s < 8 → wok (τ.2 5 s)) (hd : d < 8) : fX1_isThere σ (nI d) = fX8_isThere τ (nI d) := by
  have s1 : σ.1 1 = nI R := by rw [hc.1 1 (by decide)]; exact hg.2.1
  have t1 : τ.1 1 = nI R := by rw [hm.1 1 (by decide)]; exact hg.2.1
  have hb := hg.2.2.2.2.2.1
  unfold fX1_isThere fX8_isThere
  rw [if_neg (n_nm1 (by omega)), s1, t1, nI_1]
  exact there_eq hc hm hg h5 hw hd 9 (R + 1) (by omega)
theorem isT_N {σ : St} : fX1_isThere σ (-1) = 1 := by unfold fX1_isThere; rw [if_pos rfl]
theorem ready_eq {π σ τ : St} {N R B M W i : Nat} (hc : Kc π σ) (hm : Km π τ) (hg : Gd π N R B M W) (h5 : σ.2 5 = τ.2 5) (hw : ∀ s, s < 8 → wok (τ.2 5 s)) (hi : i < 64) : fX1_isReady σ (nI i) = fX8_isReady τ (nI i) := by
  obtain ⟨d, a, b, hd, ha, hb, ed, ea, eb, e1, e2, e3, e4, e5⟩ := c_wd hc hg hi
  have k0 : τ.2 0 = π.2 0 := hm.2.2.2 0 (by decide)
  have k2 : τ.2 2 = π.2 2 := hm.2.2.2 2 (by decide)
  have k3 : τ.2 3 = π.2 3 := hm.2.2.2 3 (by decide)
  have ek := kd8 (hg.2.2.2.2.2.2.2.1 i)
  have eA : fX8_readsA τ (nI i) = fX3_readsFirst (π.2 0 i) := by unfold fX8_readsA; rw [rf_eq ek, k0, n_cl (by omega)]
  have eB : fX8_readsB τ (nI i) = fX3_readsSecond (π.2 0 i) := by unfold fX8_readsB fX3_readsSecond; rw [k0, n_cl (by omega)]
  unfold fX1_isReady fX8_isReady
  simp only [e4, e5, eA, eB, k2, k3, n_cl (show i < 2 ^ 31 by omega), ea, eb]
  rw [← isT_eq hc hm hg h5 hw ha, ← isT_eq hc hm hg h5 hw hb]
  by_cases c1 : fX3_readsFirst (π.2 0 i) = 0
  · rw [if_pos c1, if_pos c1, isT_N, if_neg (by decide)]
    by_cases c2 : fX3_readsSecond (π.2 0 i) = 0
    · rw [if_pos c2, if_pos c2, isT_N, if_neg (by decide)]
    · rw [if_neg c2, if_neg c2]
  · rw [if_neg c1, if_neg c1]
    by_cases c3 : fX1_isThere σ (nI a) = 0
    · rw [if_pos c3, if_pos c3]
    · rw [if_neg c3, if_neg c3]
      by_cases c2 : fX3_readsSecond (π.2 0 i) = 0
      · rw [if_pos c2, if_pos c2, isT_N, if_neg (by decide)]
      · rw [if_neg c2, if_neg c2]
