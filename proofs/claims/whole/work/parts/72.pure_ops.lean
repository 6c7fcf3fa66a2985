/-! class and reference between the calls -/
def RelW (K : Nat) (σ τ : St) : Prop := ∃ (π : St) (N R B M W cb cyc : Nat), Gd π N R B M W ∧ π.1 9 = nI cyc ∧ (π.1 16 = 0 ∨ π.1 16 = 1) ∧ cb ≤ 2000 * K ∧ cyc ≤ 2000 * K ∧ mV (2000 * K) τ ∧ RK π N R M cb cyc σ τ ∧ Dv π B (τ.2 5) (τ.2 6) (τ.2 19) (τ.1 19) ∧ (∃ x : Nat, (x < W ∨ x = 0) ∧ τ.1 18 = nI x) ∧ (cyc = 0 → (∀ s, s < 8 → τ.2 5 s = -1) ∧ τ.1 18 = 0)
theorem RelW.keep {K : Nat} {σ τ : St} (h : RelW K σ τ) : RelW (K + 1) σ τ := by
  obtain ⟨π, N, R, B, M, W, cb, cyc, hg, h9, h16, hcb, hcy, hv, h⟩ := h
  exact ⟨π, N, R, B, M, W, cb, cyc, hg, h9, h16, by omega, by omega, hv.le (by omega), h⟩
theorem RK.thr {π : St} {N R M cb cyc : Nat} {σ τ : St} (v : Int32) (h : RK π N R M cb cyc σ τ) : RK (sg π 22 v) N R M cb cyc σ (sg τ 22 v) := by
  obtain ⟨k1, k2, k3, k4, k5, k6, k7, k8⟩ := h
  obtain ⟨a1, a2, a3, a4⟩ := k1
  obtain ⟨b1, b2, b3, b4⟩ := k2
  obtain ⟨c1, c2⟩ := k3
  refine ⟨⟨fun k hk => ?_, a2, a3, a4⟩, ⟨fun k hk => ?_, b2, b3, b4⟩, ⟨fun k h1 h2 => ?_, c2⟩, k4, k5, k6, k7, k8⟩
  · simp only [q1]; rw [if_neg (by omega)]; exact a1 k hk
  · simp only [q1]
    by_cases c : k = 22
    · rw [if_pos c, if_pos c]
    · rw [if_neg c, if_neg c]; exact b1 k hk
  · simp only [q1]; rw [if_neg (by omega)]; exact c1 k h1 h2
theorem RelW.thr {K : Nat} {σ τ : St} (v : Int32) (h : RelW K σ τ) : RelW K σ (sg τ 22 v) := by
  obtain ⟨π, N, R, B, M, W, cb, cyc, hg, h9, h16, hcb, hcy, hv, hk, hd, hx, h0⟩ := h
  exact ⟨sg π 22 v, N, R, B, M, W, cb, cyc, hg, h9, h16, hcb, hcy, mV_sg hv (by decide), hk.thr v, hd, hx, h0⟩
theorem RelW.no {K : Nat} {σ τ : St} (h : RelW K σ τ) (v : Int32) : RelW (K + 1) σ (sg (sg τ 22 0) 22 v) := ((h.thr 0).thr v).keep
theorem RelW.yes {K : Nat} {σ τ : St} (h : RelW K σ τ) : RelW (K + 1) σ (sg τ 22 0) := (h.thr 0).keep
theorem rel_keep : SM_keep RelW := fun _ _ _ h => h.keep
theorem rel_pre : SM_pre RelW := by
  intro K σ τ hK h
  obtain ⟨π, N, R, B, M, W, cb, cyc, hg, h9, h16, hcb, hcy, hv, hk, hd, hx, h0⟩ := h
  have hb := hg.2.2.2.2.2.1
  have k1 := hk.1
  have k2 := hk.2.1
  have t6 : τ.1 6 = nI W := by rw [k2.1 6 (by decide)]; exact hg.2.2.2.2.1
  refine ⟨⟨N, R, by omega, by omega, by omega, by omega, ?_, ?_⟩, ?_, ?_, ?_, ?_, hv, ⟨N, R, by omega, by omega, by omega, by omega, ?_, ?_⟩⟩
  · rw [k1.1 0 (by decide)]; exact hg.1
  · rw [k1.1 1 (by decide)]; exact hg.2.1
  · rw [k1.2.1]; exact h16
  · rw [k2.2.1]; exact h16
  · rw [t6, nI_toInt (by omega)]; omega
  · intro z
    have hW : 1 ≤ W := Nat.pos_of_ne_zero (fun y => z (by rw [t6, y, nI_0]))
    exact hg.mB k2 hW
  · rw [k2.1 0 (by decide)]; exact hg.1
  · rw [k2.1 1 (by decide)]; exact hg.2.1
theorem wi_p (x : Int32) {c : Nat} (h : c < 2 ^ 30) : fX8_within x 0 (nI c - 1) = fX7_isBelow x (nI c) := by
  have e : (nI c - 1).toInt = (c : Int) - 1 := by
    rw [Int32.toInt_sub, nI_toInt (by omega), show (1 : Int32).toInt = 1 by decide]
    exact Int.bmod_eq_of_le_mul_two (by omega) (by omega)
  unfold fX8_within fX7_isBelow
  by_cases c1 : x < 0
  · rw [if_pos c1, if_pos c1]
  · rw [if_neg c1, if_neg c1]
    by_cases c2 : nI c - 1 < x
    · have P : nI c ≤ x := by
        rw [Int32.lt_iff_toInt_lt, e] at c2
        rw [Int32.le_iff_toInt_le, nI_toInt (by omega)]; omega
      rw [if_pos c2, if_pos P]
    · have P : ¬ nI c ≤ x := by
        rw [Int32.lt_iff_toInt_lt, e] at c2
        rw [Int32.le_iff_toInt_le, nI_toInt (by omega)]; omega
      rw [if_neg c2, if_neg P]
theorem wi_1 (x : Int32) : fX8_within x 0 1 = fX7_isBelow x 2 := wi_p x (c := 2) (by decide)
theorem wi_2 (x : Int32) : fX8_within x 0 2 = fX7_isBelow x 3 := wi_p x (c := 3) (by decide)
theorem wi_4 (x : Int32) : fX8_within x 0 4 = fX7_isBelow x 5 := wi_p x (c := 5) (by decide)
theorem wi_7 (x : Int32) : fX8_within x 0 7 = fX7_isBelow x 8 := wi_p x (c := 8) (by decide)
theorem wi_63 (x : Int32) : fX8_within x 0 63 = fX7_isBelow x 64 := wi_p x (c := 64) (by decide)
theorem wi_399 (x : Int32) : fX8_within x 0 (400 - 1) = fX7_isBelow x 400 := wi_p x (c := 400) (by decide)
theorem ib {x : Int32} {n : Nat} (hn : n < 2 ^ 31) (h : ¬ fX7_isBelow x (nI n) = 0) : ∃ s : Nat, s < n ∧ x = nI s := by
  unfold fX7_isBelow at h
  by_cases c1 : x < 0
  · rw [if_pos c1] at h; exact absurd rfl h
  · rw [if_neg c1] at h
    by_cases c2 : nI n ≤ x
    · rw [if_pos c2] at h; exact absurd rfl h
    · have h0 : 0 ≤ x.toInt := by
        rw [Int32.lt_iff_toInt_lt, show (0 : Int32).toInt = 0 by decide] at c1; omega
      have h1 : x.toInt < n := by
        rw [Int32.le_iff_toInt_le, nI_toInt hn] at c2; omega
      obtain ⟨j, hj, rfl⟩ := vp_in_of (vp_in_iff.mpr ⟨h0, h1⟩) hn
      exact ⟨j, hj, rfl⟩
theorem ib8 {x : Int32} (h : ¬ fX7_isBelow x 8 = 0) : ∃ s : Nat, s < 8 ∧ x = nI s := ib (n := 8) (by decide) h
theorem ib64 {x : Int32} (h : ¬ fX7_isBelow x 64 = 0) : ∃ s : Nat, s < 64 ∧ x = nI s := ib (n := 64) (by decide) h
theorem ib5 {x : Int32} (h : ¬ fX7_isBelow x 5 = 0) : ∃ s : Nat, s < 5 ∧ x = nI s := ib (n := 5) (by decide) h
theorem t22 (τ : St) (v : Int32) : (sg τ 22 v).1 22 = v := by simp only [q1, if_true]
theorem n10 : ¬ (1 : Int32) = 0 := by decide
theorem n20 : ¬ (2 : Int32) = 0 := by decide
theorem n30 : ¬ (3 : Int32) = 0 := by decide
theorem rel_register : SM_register RelW := by
  intro K σ τ x1 hK h
  have h' := h
  obtain ⟨π, N, R, B, M, W, cb, cyc, hg, h9, h16, hcb, hcy, hv, hk, hd, hx, h0⟩ := h
  unfold fX8_register fX8_isRegister cX7_registerx fX7_register fX8_thrown fX8_fail
  simp only [wi_7]
  by_cases c : fX7_isBelow x1 8 = 0
  · simp only [if_pos c, t22, ite_self]
    exact ⟨trivial, fun z => absurd z n10, h'.no 1⟩
  · obtain ⟨s, hs, rfl⟩ := ib8 c
    simp only [if_neg c, t22, ite_self]
    refine ⟨trivial, fun _ => ?_, h'.yes⟩
    rw [c_valL hs, n_cl (by omega), hk.2.2.2.2.1.2.2.1]
theorem rel_memory : SM_memory RelW := by
  intro K σ τ x1 hK h
  have h' := h
  obtain ⟨π, N, R, B, M, W, cb, cyc, hg, h9, h16, hcb, hcy, hv, hk, hd, hx, h0⟩ := h
  unfold fX8_memory cX7_memoryx fX7_memory fX8_thrown fX8_fail
  simp only [wi_63]
  by_cases c : fX7_isBelow x1 64 = 0
  · simp only [if_pos c, t22, ite_self]
    exact ⟨trivial, fun z => absurd z n10, h'.no 1⟩
  · obtain ⟨s, hs, rfl⟩ := ib64 c
    simp only [if_neg c, t22, ite_self]
    refine ⟨trivial, fun _ => ?_, h'.yes⟩
    unfold fX2_valueAtL
    have e : fm (nI s) 64 = nI s := fm_small (k := 64) hs (by decide)
    rw [e, n_cl (by omega), hk.2.2.2.2.1.2.2.2]
theorem rel_cause : SM_cause RelW := by
  intro K σ τ x1 hK h
  have h' := h
  obtain ⟨π, N, R, B, M, W, cb, cyc, hg, h9, h16, hcb, hcy, hv, hk, hd, hx, h0⟩ := h
  unfold fX8_cause cX7_causex fX7_cause fX8_thrown fX8_fail
  simp only [wi_4]
  by_cases c : fX7_isBelow x1 5 = 0
  · simp only [if_pos c, t22, ite_self]
    exact ⟨trivial, fun z => absurd z n10, h'.no 1⟩
  · obtain ⟨s, hs, rfl⟩ := ib5 c
    simp only [if_neg c, t22, ite_self]
    refine ⟨trivial, fun _ => ?_, h'.yes⟩
    unfold fX6_cyclesWith
    have P : ¬ (5 : Int32) ≤ nI s := nI_ge (b := 5) hs (by decide)
    rw [if_neg (n_lt0 (by omega)), if_neg P, n_cl (by omega), hk.2.2.1.2.2.2.2]
theorem rel_count : SM_count RelW := by
  intro K σ τ x1 hK h
  have h' := h
  obtain ⟨π, N, R, B, M, W, cb, cyc, hg, h9, h16, hcb, hcy, hv, hk, hd, hx, h0⟩ := h
  obtain ⟨c1, -⟩ := hk.2.2.1
  have e : ∀ k, k < 7 → σ.1 k = τ.1 k := fun k hk9 => by rw [hk.1.1 k hk9, hk.2.1.1 k (by omega)]
  have e9 := c1 9 (by decide) (by decide)
  have e10 := c1 10 (by decide) (by decide)
  have e11 := c1 11 (by decide) (by decide)
  have e12 := c1 12 (by decide) (by decide)
  have e13 := c1 13 (by decide) (by decide)
  have e14 := c1 14 (by decide) (by decide)
  have e15 := c1 15 (by decide) (by decide)
  have key : fX8_count τ x1 = (fX7_count σ x1, sg τ 22 0) := by
    unfold fX7_count fX8_count fX3_size
    simp only [e9, e10, e11, e12, e13, e14, e15, e 0 (by decide), e 1 (by decide), e 2 (by decide), e 3 (by decide), e 4 (by decide), e 5 (by decide), e 6 (by decide)]
    by_cases c0 : x1 = 0
    · simp only [if_pos c0]
    simp only [if_neg c0]
    by_cases c1 : x1 = 1
    · simp only [if_pos c1]
    simp only [if_neg c1]
    by_cases c2 : x1 = 2
    · simp only [if_pos c2]
    simp only [if_neg c2]
    by_cases c3 : x1 = 3
    · simp only [if_pos c3]
    simp only [if_neg c3]
    by_cases c4 : x1 = 4
    · simp only [if_pos c4]
    simp only [if_neg c4]
    by_cases c5 : x1 = 5
    · simp only [if_pos c5]
      by_cases d : τ.1 15 = 0
      · simp only [if_pos d]
      · simp only [if_neg d]
    simp only [if_neg c5]
    by_cases c6 : x1 = 6
    · simp only [if_pos c6]
    simp only [if_neg c6]
    by_cases c7 : x1 = 7
    · simp only [if_pos c7]
    simp only [if_neg c7]
    by_cases c8 : x1 = 8
    · simp only [if_pos c8]
    simp only [if_neg c8]
    by_cases c9 : x1 = 9
    · simp only [if_pos c9]
    simp only [if_neg c9]
    by_cases c10 : x1 = 10
    · simp only [if_pos c10]
    simp only [if_neg c10]
    by_cases c11 : x1 = 11
    · simp only [if_pos c11]
    simp only [if_neg c11]
    by_cases c12 : x1 = 12
    · simp only [if_pos c12]
    simp only [if_neg c12]
    by_cases c13 : x1 = 13
    · simp only [if_pos c13]
    simp only [if_neg c13]
  rw [key]
  exact ⟨rfl, h'.yes⟩
theorem rel_stage : SM_stage RelW := by
  intro K σ τ x1 x2 hK h
  have h' := h
  obtain ⟨π, N, R, B, M, W, cb, cyc, hg, h9, h16, hcb, hcy, hv, hk, hd, hx, h0⟩ := h
  have hb := hg.2.2.2.2.2.1
  have t0 : τ.1 0 = nI N := by rw [hk.2.1.1 0 (by decide)]; exact hg.1
  have s0 : σ.1 0 = nI N := by rw [hk.1.1 0 (by decide)]; exact hg.1
  have k6 := hk.2.2.2.2.2.1
  have k7 := hk.2.2.2.2.2.2.1
  unfold fX8_stage cX7_stagex fX7_stage fX8_thrown fX8_fail
  simp only [t0, s0, wi_p x1 (show N < 2 ^ 30 by omega), wi_1]
  by_cases c : fX7_isBelow x1 (nI N) = 0
  · simp only [if_pos c, t22, ite_self]
    exact ⟨trivial, fun z => absurd z n10, h'.no 1⟩
  · simp only [if_neg c]
    by_cases d : fX7_isBelow x2 2 = 0
    · simp only [if_pos d, t22, ite_self]
      exact ⟨trivial, fun z => absurd z n10, h'.no 1⟩
    · obtain ⟨s, hs, rfl⟩ := ib (by omega) c
      simp only [if_neg d, n_cl (show s < 2 ^ 31 by omega), c_word (σ := σ) (show s < 8 by omega), c_on (σ := σ) (show s < 8 by omega), k7.1, k7.2.1 s (by omega)]
      by_cases z : x2 = 0
      · simp only [if_pos z, t22, ite_self]
        exact ⟨trivial, fun _ => trivial, h'.yes⟩
      · simp only [if_neg z]
        by_cases y : τ.2 5 s = -1
        · have P : τ.2 5 s < 0 := (k6.1 s (by omega)).lt.mpr y
          simp only [if_pos P, if_pos y, if_true, t22, ite_self]
          exact ⟨trivial, fun _ => trivial, h'.yes⟩
        · have P : ¬ τ.2 5 s < 0 := fun q => y ((k6.1 s (by omega)).lt.mp q)
          simp only [if_neg P, if_neg y]
          by_cases u : τ.2 6 s = 0
          · simp only [if_pos u, if_true, t22, ite_self]
            exact ⟨trivial, fun _ => trivial, h'.yes⟩
          · simp only [if_neg u, if_neg n10, t22, ite_self]
            exact ⟨trivial, fun _ => trivial, h'.yes⟩
theorem cm_hi {c s : Nat} (hc : c < 2 ^ 29) (h : 400 ≤ c) (hs : s < 400) : fm (nI (c % 400) + nI s) 400 = nI ((c + s) % 400) ∧ nI c - 400 + nI s - (nI c - 400 + nI s) / 400 * 400 = nI ((c + s) % 400) := by
  constructor
  · rw [nI_add]
    apply Int32.toInt_inj.mp
    show (fm _ (nI 400)).toInt = _
    rw [fm_toInt _ (by decide) (by decide), nI_toInt (by omega), nI_toInt (by omega)]
    omega
  · have e : nI c - 400 + nI s = nI (c - 400 + s) := by
      apply Int32.toInt_inj.mp
      have e1 : (nI c - 400).toInt = (c : Int) - 400 := by
        rw [Int32.toInt_sub, nI_toInt (by omega), show (400 : Int32).toInt = 400 by decide]
        exact Int.bmod_eq_of_le_mul_two (by omega) (by omega)
      rw [Int32.toInt_add, e1, nI_toInt (by omega), nI_toInt (by omega)]
      rw [Int.bmod_eq_of_le_mul_two (by omega) (by omega)]
      omega
    rw [e]
    show _ - _ / nI 400 * nI 400 = _
    rw [rm_eq _ (by decide) (by decide) (by rw [nI_toInt (by omega)]; omega)]
    apply Int32.toInt_inj.mp
    rw [fm_toInt _ (by decide) (by decide), nI_toInt (by omega), nI_toInt (by omega)]
    omega
theorem cm_lo {c s : Nat} (hs : s < 400) : fm (nI 0 + nI s) 400 = nI s ∧ nI c - nI c + nI s - (nI c - nI c + nI s) / 400 * 400 = nI s := by
  have e : fm (nI s) 400 = nI s := fm_small (k := 400) hs (by decide)
  constructor
  · rw [nI_0, Int32.zero_add]; exact e
  · rw [Int32.sub_self, Int32.zero_add]
    show _ - _ / nI 400 * nI 400 = _
    rw [rm_eq _ (by decide) (by decide) (by rw [nI_toInt (by omega)]; omega)]
    exact e
theorem rel_committed : SM_committed RelW := by
  intro K σ τ x1 x2 hK h
  have h' := h
  obtain ⟨π, N, R, B, M, W, cb, cyc, hg, h9, h16, hcb, hcy, hv, hk, hd, hx, h0⟩ := h
  obtain ⟨c, j1, j2, j3, j4, j5, j6, j7⟩ := hk.2.2.2.1
  unfold fX8_committed cX7_committedx fX7_committed fX0_size fX0_entry fX8_thrown fX8_fail
  simp only [j2, j3, j4, j5, j6, j7, wi_p x1 (show c < 2 ^ 30 by omega), wi_399, wi_2]
  by_cases c4 : c < 400
  · have P : ¬ (400 : Int32) ≤ nI c := nI_ge (b := 400) c4 (by decide)
    simp only [if_neg P, if_pos c4, show min c 400 = c by omega]
    by_cases d : fX7_isBelow x1 (nI c) = 0
    · simp only [if_pos d, t22, ite_self]
      exact ⟨trivial, fun z => absurd z n10, h'.no 1⟩
    · simp only [if_neg d]
      by_cases d2 : fX7_isBelow x2 3 = 0
      · simp only [if_pos d2, t22, ite_self]
        exact ⟨trivial, fun z => absurd z n10, h'.no 1⟩
      · obtain ⟨s, hs, rfl⟩ := ib (by omega) d
        obtain ⟨l1, l2⟩ := cm_lo (c := c) (show s < 400 by omega)
        simp only [if_neg d2, l1, l2]
        by_cases y : x2 = 0
        · simp only [if_pos y, t22, ite_self]
          exact ⟨trivial, fun _ => trivial, h'.yes⟩
        · simp only [if_neg y]
          by_cases y1 : x2 = 1
          · simp only [if_pos y1, t22, ite_self]
            exact ⟨trivial, fun _ => trivial, h'.yes⟩
          · simp only [if_neg y1, t22, ite_self]
            exact ⟨trivial, fun _ => trivial, h'.yes⟩
  · have P : (400 : Int32) ≤ nI c := nI_le (a := 400) (by omega) (by omega)
    have e4 : nI (min c 400) = 400 := by rw [show min c 400 = 400 by omega]; rfl
    simp only [if_pos P, if_neg c4, e4]
    by_cases d : fX7_isBelow x1 400 = 0
    · simp only [if_pos d, t22, ite_self]
      exact ⟨trivial, fun z => absurd z n10, h'.no 1⟩
    · simp only [if_neg d]
      by_cases d2 : fX7_isBelow x2 3 = 0
      · simp only [if_pos d2, t22, ite_self]
        exact ⟨trivial, fun z => absurd z n10, h'.no 1⟩
      · obtain ⟨s, hs, rfl⟩ := ib (n := 400) (by decide) d
        obtain ⟨l1, l2⟩ := cm_hi (c := c) (by omega) (by omega) hs
        simp only [if_neg d2, l1, l2]
        by_cases y : x2 = 0
        · simp only [if_pos y, t22, ite_self]
          exact ⟨trivial, fun _ => trivial, h'.yes⟩
        · simp only [if_neg y]
          by_cases y1 : x2 = 1
          · simp only [if_pos y1, t22, ite_self]
            exact ⟨trivial, fun _ => trivial, h'.yes⟩
          · simp only [if_neg y1, t22, ite_self]
            exact ⟨trivial, fun _ => trivial, h'.yes⟩
theorem rel_run : SM_run RelW := by
  intro K σ τ x1 hK h
  have h' := h
  obtain ⟨π, N, R, B, M, W, cb, cyc, hg, h9, h16, hcb, hcy, hv, hk, hd, ⟨x, hx, e18⟩, h0⟩ := h
  have hb := hg.2.2.2.2.2.1
  have t6 : τ.1 6 = nI W := by rw [hk.2.1.1 6 (by decide)]; exact hg.2.2.2.2.1
  have s6 : σ.1 6 = nI W := by rw [hk.1.1 6 (by decide)]; exact hg.2.2.2.2.1
  unfold fX8_run cX7_runx fX7_run fX8_within fX8_thrown fX8_fail fX3_size
  simp only [t6, s6]
  by_cases c1 : x1 < 1
  · simp only [if_pos c1, if_true, if_neg n10, t22]
    exact ⟨trivial, fun z => absurd z n10, h'.no 1⟩
  · by_cases c2 : x1 ≤ 2000
    · have c2' : ¬ 2000 < x1 := Int32.not_lt.mpr c2
      simp only [if_neg c1, if_pos c2, if_neg c2', if_neg n10]
      by_cases cW : nI W = 0
      · simp only [if_pos cW, if_neg n20, t22]
        exact ⟨trivial, fun z => absurd z n20, h'.no 2⟩
      · have hW : 1 ≤ W := Nat.pos_of_ne_zero (fun y => cW (by rw [y, nI_0]))
        have a1 : 1 ≤ x1.toInt := by
          rw [Int32.lt_iff_toInt_lt, show (1 : Int32).toInt = 1 by decide] at c1; omega
        have a2 : x1.toInt ≤ 2000 := by
          rw [Int32.le_iff_toInt_le, show (2000 : Int32).toInt = 2000 by decide] at c2; exact c2
        obtain ⟨X, hX, rfl⟩ := vp_in_of (show vp_in x1 2001 from vp_in_iff.mpr ⟨by omega, by omega⟩) (by decide)
        simp only [if_neg cW, if_true]
        have hrb : RB (sg π 22 0) N R B M W cb cyc σ (sg τ 22 0) := ⟨hk.thr 0, ⟨x, by omega, e18⟩, hd⟩
        obtain ⟨r1, π', cb', cyc', b1, b2, b3, b4, b5, b6, b7, b8, b9, b10⟩ := RB.run (X := X) hW (by omega) 2001 0 σ (sg τ 22 0) (sg π 22 0) cb cyc (2000 * K) (by omega) (by omega) (by omega) (by omega) (by omega) hg h9 (mV_sg hv (by decide)) hrb
        rw [nI_0] at r1 b8 b9 b10
        refine ⟨?_, fun _ => r1, ?_⟩
        · rw [b10.1.2.1.1 22 (by decide), b4]
          exact t22 π 0
        · obtain ⟨c1, ⟨y, d1, d2⟩, d3⟩ := b10
          refine ⟨π', N, R, B, M, W, cb', cyc', b1, b2, by rw [b3]; exact h16, by omega, by omega, b8.le (by omega), c1, d3, ⟨y, Or.inl d1, d2⟩, fun z => ?_⟩
          rw [b9 (by omega)]
          exact h0 (by omega)
    · have c2' : 2000 < x1 := Int32.not_le.mp c2
      simp only [if_neg c1, if_neg c2, if_pos c2', if_true, if_neg n10, t22]
      exact ⟨trivial, fun z => absurd z n10, h'.no 1⟩
