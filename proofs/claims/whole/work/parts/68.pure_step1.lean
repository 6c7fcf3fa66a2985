/-! step 1 of a cycle: the last stage -/
theorem Jr.up {cb : Nat} {σ τ : St} (h : Jr cb σ τ) : Jr (cb + 1) σ τ := by
  obtain ⟨c, j1, j⟩ := h
  exact ⟨c, by omega, j⟩
theorem RK.up {π : St} {N R M cb cyc : Nat} {σ τ : St} (h : RK π N R M cb cyc σ τ) : RK π N R M (cb + 1) cyc σ τ := by
  obtain ⟨k1, k2, k3, k4, k5⟩ := h
  exact ⟨k1, k2, k3, k4.up, k5⟩
theorem RC.up {π : St} {N R B M W cb cyc : Nat} {σ τ : St} (h : RC π N R B M W cb cyc σ τ) : RC π N R B M W (cb + 1) cyc σ τ := ⟨h.1.up, h.2⟩
theorem pS5 {π : St} {i : Nat} (h : π.2 0 i = 5) (g : RM) : pS π g i = g := by
  unfold pS
  rw [h, if_pos (by decide), if_neg (by decide)]
theorem c_emp {σ : St} {K : Nat} (hK : K < 8) : fX5_empty σ (nI K) = ar (ar (ar σ 5 (upd (σ.2 5) K (-1))) 6 (upd (σ.2 6) K 0)) 7 (upd (σ.2 7) K 0) := by
  unfold fX5_empty
  simp only [c_put hK, nar0]
/-- a word that changes nothing is gone -/
theorem RK.gone {π : St} {N R M cb cyc K i : Nat} {σ τ : St} (h : RK π N R M cb cyc σ τ) (hK : K < 8) (hR : R < K) (hw : (τ.2 5 K).toNatClampNeg = i) (h5 : π.2 0 i = 5) : RK π N R M cb cyc (sg (fX5_empty σ (nI K)) 13 ((fX5_empty σ (nI K)).1 13 + 1)) (sg (ar τ 5 (upd (τ.2 5) K (-1))) 13 (τ.1 13 + 1)) := by
  rw [c_emp hK]
  obtain ⟨k1, k2, k3, ⟨c, j1, j2, j3, j4, j5⟩, k5, k6, k7, k8⟩ := h
  have h13 : σ.1 13 = τ.1 13 := k3.1 13 (by decide) (by decide)
  refine ⟨k1.fr (fun k hk => ?_) (fun k hk => ?_), k2.fr (fun k hk => ?_) (fun k hk => ?_), ?_, ⟨c, j1, j2, j3, j4, j5⟩, k5, ?_, ?_, ?_⟩
  · simp only [q1, q3]; rw [if_neg (by omega)]
  · simp only [q2, q4]; rw [if_neg (by omega), if_neg (by omega), if_neg (by omega)]
  · simp only [q1, q3]; rw [if_neg (by omega)]
  · simp only [q2, q4]; rw [if_neg (by omega)]
  · refine ⟨fun k hk1 hk2 => ?_, k3.2.1, k3.2.2.1, k3.2.2.2.1, k3.2.2.2.2⟩
    simp only [q1, q3]
    by_cases c : k = 13
    · rw [if_pos c, if_pos c, h13]
    · rw [if_neg c, if_neg c]; exact k3.1 k hk1 hk2
  · exact k6.gone hR
  · exact k7.gone
  · exact k8.gone hK (fun _ _ g => by rw [hw]; exact pS5 h5 g)
set_option maxHeartbeats 1000000 in
theorem RK.com {π : St} {N R B M W cb cyc K i : Nat} {σ τ : St} (hg : Gd π N R B M W) (hcb : cb < 2 ^ 30) (h : RK π N R M cb cyc σ τ) (hK : K < 8) (hR : R < K) (hi : i < 64) (hw : τ.2 5 K = nI i) (ho : τ.2 6 K = 1) (hup : ∀ j, K < j → j < 8 → τ.2 5 j = -1) :
    RK π N R M (cb + 1) cyc (fX1_commit (fX5_empty σ (nI K)) (nI i)) (if π.2 0 i = 6 then sg (ar (fX8_commit τ (nI K)) 5 (upd ((fX8_commit τ (nI K)).2 5) K (-1))) 15 1 else ar (fX8_commit τ (nI K)) 5 (upd ((fX8_commit τ (nI K)).2 5) K (-1))) := by
  obtain ⟨k1, k2, k3, ⟨c, j1, j2, j3, j4, j5, j6, j7⟩, k5, k6, k7, k8⟩ := h
  have hn : ¬ τ.2 5 K = -1 := by rw [hw]; exact n_nm1 (by omega)
  have hx : (τ.2 5 K).toNatClampNeg = i := by rw [hw]; exact n_cl (by omega)
  obtain ⟨g1, g2, g3, g4⟩ := k8.leave hK hn ho hup
  rw [hx] at g1 g2 g3 g4
  obtain ⟨c1, c2, c3, c4, c5, c6, c7, c8, c9, c10, c11, c12, c13, c14⟩ := c_commit (K := K) k1 hg hi hK
  obtain ⟨m1, m2, m3, m4, m5, m6, m7, m8⟩ := m_commit k2 hi hK hw g1 g2
  obtain ⟨x12, x13, x14, x15⟩ := k5
  obtain ⟨ja, jb⟩ := jr_at (c := c) (by omega)
  obtain ⟨jc, jd⟩ := jr_next (c := c) (by omega)
  generalize fX1_commit (fX5_empty σ (nI K)) (nI i) = σ' at c1 c2 c3 c4 c5 c6 c7 c8 c9 c10 c11 c12 c13 c14
  generalize fX8_commit τ (nI K) = ρ at m1 m2 m3 m4 m5 m6 m7 m8
  generalize hτ' : (if π.2 0 i = 6 then sg (ar ρ 5 (upd (ρ.2 5) K (-1))) 15 1 else ar ρ 5 (upd (ρ.2 5) K (-1))) = τ'
  have t1 : ∀ k, k ≠ 15 → τ'.1 k = ρ.1 k := fun k hk => by
    rw [← hτ']; split
    · simp only [q1, q3]; rw [if_neg hk]
    · rfl
  have t15 : τ'.1 15 = if π.2 0 i = 6 then 1 else ρ.1 15 := by
    rw [← hτ']; split
    · simp only [q1, if_true]
    · rfl
  have t2 : ∀ k, k ≠ 5 → τ'.2 k = ρ.2 k := fun k hk => by
    rw [← hτ']; split
    · simp only [q2, q4]; rw [if_neg hk]
    · simp only [q4]; rw [if_neg hk]
  have t5 : τ'.2 5 = upd (τ.2 5) K (-1) := by
    rw [← hτ', m3 5 (by decide) (by decide) (by decide) (by decide) (by decide)]; split
    · simp only [q2, q4, if_true]
    · simp only [q4, if_true]
  have u : ∀ k, k ≠ 5 → k ≠ 8 → k ≠ 9 → k ≠ 10 → k ≠ 14 → k ≠ 15 → τ'.2 k = τ.2 k := fun k a0 a1 a2 a3 a4 a5 => by rw [t2 k a0, m3 k a1 a2 a3 a4 a5]
  refine ⟨k1.fr (fun k hk => c1 k (by omega) (by omega) (by omega) (by omega)) (fun k hk => c6 k (by omega) (by omega) (by omega) (by omega) (by omega) (by omega) (by omega) (by omega)), k2.fr (fun k hk => by rw [t1 k (by omega), m1 k (by omega)]) (fun k hk => u k (by omega) (by omega) (by omega) (by omega) (by omega) (by omega)), ⟨fun k hk1 hk2 => ?_, ?_, ?_, ?_, ?_⟩, ⟨c + 1, by omega, ?_, ?_, ?_, ?_, ?_, ?_⟩, ⟨?_, ?_, ?_, ?_⟩, ?_, ?_, ?_⟩
  · by_cases e1 : k = 10
    · subst e1; rw [c2, t1 10 (by decide), m2, k3.1 10 (by decide) (by decide)]
    · by_cases e2 : k = 15
      · subst e2; rw [c3, t15, m1 15 (by decide), k3.1 15 (by decide) (by decide)]
      · rw [c1 k (by omega) (by omega) e1 e2, t1 k e2, m1 k e1]; exact k3.1 k hk1 hk2
  · rw [c1 18 (by decide) (by decide) (by decide) (by decide), t1 18 (by decide), m1 18 (by decide)]; exact k3.2.1
  · rw [c1 19 (by decide) (by decide) (by decide) (by decide), t1 19 (by decide), m1 19 (by decide)]; exact k3.2.2.1
  · rw [c1 20 (by decide) (by decide) (by decide) (by decide), t1 20 (by decide), m1 20 (by decide)]; exact k3.2.2.2.1
  · rw [c6 11 (by decide) (by decide) (by decide) (by decide) (by decide) (by decide) (by decide) (by decide), u 11 (by decide) (by decide) (by decide) (by decide) (by decide) (by decide)]; exact k3.2.2.2.2
  · rw [t1 10 (by decide), m2, j2, nI_1]
  · rw [c5, j3, jd]
  · rw [c4, j3, j4, jc]
  · rw [c10, t2 8 (by decide), m4, j3, j4, ja, j2, jb, j5]
  · rw [c11, t2 9 (by decide), m5, j3, j4, ja, j2, jb, j6, k3.1 9 (by decide) (by decide)]
  · rw [c12, t2 10 (by decide), m6, j3, j4, ja, j2, jb, j7, x14, x15]
  · rw [c6 12 (by decide) (by decide) (by decide) (by decide) (by decide) (by decide) (by decide) (by decide), u 12 (by decide) (by decide) (by decide) (by decide) (by decide) (by decide)]; exact x12
  · rw [c6 13 (by decide) (by decide) (by decide) (by decide) (by decide) (by decide) (by decide) (by decide), u 13 (by decide) (by decide) (by decide) (by decide) (by decide) (by decide)]; exact x13
  · rw [c13, t2 14 (by decide), m7, x14, x15]
  · rw [c14, t2 15 (by decide), m8, x14, x15]
  · rw [c1 22 (by decide) (by decide) (by decide) (by decide), t5, u 6 (by decide) (by decide) (by decide) (by decide) (by decide) (by decide), u 7 (by decide) (by decide) (by decide) (by decide) (by decide) (by decide), u 16 (by decide) (by decide) (by decide) (by decide) (by decide) (by decide)]
    exact k6.gone hR
  · rw [c7, c8, c9, t5, u 6 (by decide) (by decide) (by decide) (by decide) (by decide) (by decide), u 19 (by decide) (by decide) (by decide) (by decide) (by decide) (by decide)]
    exact k7.gone
  · rw [t5, u 6 (by decide) (by decide) (by decide) (by decide) (by decide) (by decide), u 17 (by decide) (by decide) (by decide) (by decide) (by decide) (by decide), u 18 (by decide) (by decide) (by decide) (by decide) (by decide) (by decide), u 19 (by decide) (by decide) (by decide) (by decide) (by decide) (by decide), u 12 (by decide) (by decide) (by decide) (by decide) (by decide) (by decide), u 13 (by decide) (by decide) (by decide) (by decide) (by decide) (by decide), t2 14 (by decide), t2 15 (by decide), m7, m8]
    exact g4
theorem c_leave {π σ : St} {K i : Nat} (hc : Kc π σ) (h0 : σ.1 0 = nI (K + 1)) (hK : K < 8) (hi : i < 64) (hw : σ.2 5 K = nI i) : fX1_leave σ = if π.2 0 i = 5 then (1, fX1_squashAndGoTo (sg (fX5_empty σ (nI K)) 13 ((fX5_empty σ (nI K)).1 13 + 1)) (nI K) ((fX5_empty σ (nI K)).1 17)) else (0, if fX5_isGoing σ (nI K) = 0 then fX1_commit (fX5_empty σ (nI K)) (nI i) else if (fX1_commit (fX5_empty σ (nI K)) (nI i)).1 4 = nI K then fX1_takeBranch (fX1_commit (fX5_empty σ (nI K)) (nI i)) (nI K) (nI i) else fX1_commit (fX5_empty σ (nI K)) (nI i)) := by
  have e1 : fX4_last σ = nI K := by unfold fX4_last; rw [h0]; exact nI_pred K
  have ek : fX3_kindOf (fX5_empty σ (nI K)) (nI i) = π.2 0 i := by
    rw [c_kind hi, c_emp hK]
    simp only [q4]
    exact congrFun hc.2.2.2.1 i
  have P : ¬ nI i = (-1 : Int32) := n_nm1 (by omega)
  unfold fX1_leave
  simp only [e1, c_word hK, hw, ek]
  simp only [if_neg P]
  by_cases c1 : π.2 0 i = 5
  · simp only [if_pos c1]
  · simp only [if_neg c1]
    by_cases c2 : fX5_isGoing σ (nI K) = 0
    · simp only [if_pos c2]
    · simp only [if_neg c2]
      by_cases c3 : (fX1_commit (fX5_empty σ (nI K)) (nI i)).1 4 = nI K
      · simp only [if_pos c3]
      · simp only [if_neg c3]
theorem m_leave {π τ : St} {K i : Nat} (hm : Km π τ) (h0 : τ.1 0 = nI (K + 1)) (hK : K < 8) (hi : i < 64) (hw : τ.2 5 K = nI i) (hq : (fX8_commit τ (nI K)).2 0 = π.2 0) : fX8_leave τ = if π.2 0 i = 5 then (1, fX8_squash (sg (ar τ 5 (upd (τ.2 5) K (-1))) 13 (τ.1 13 + 1)) (nI (K + 1)) (τ.1 17)) else (0, if π.2 0 i = 6 then sg (ar (fX8_commit τ (nI K)) 5 (upd ((fX8_commit τ (nI K)).2 5) K (-1))) 15 1 else if (fX8_commit τ (nI K)).1 4 = nI K then (if (fX8_commit τ (nI K)).2 6 K = 0 then ar (fX8_commit τ (nI K)) 5 (upd ((fX8_commit τ (nI K)).2 5) K (-1)) else if π.2 0 i = 4 then fX8_know (ar (fX8_commit τ (nI K)) 5 (upd ((fX8_commit τ (nI K)).2 5) K (-1))) (nI K) ((fX8_commit τ (nI K)).2 19 K) else ar (fX8_commit τ (nI K)) 5 (upd ((fX8_commit τ (nI K)).2 5) K (-1))) else ar (fX8_commit τ (nI K)) 5 (upd ((fX8_commit τ (nI K)).2 5) K (-1))) := by
  have e1 : nI (K + 1) - 1 = nI K := nI_pred K
  have k0 : τ.2 0 = π.2 0 := hm.2.2.2 0 (by decide)
  have P : (0 : Int32) ≤ nI i := n_le0 (by omega)
  unfold fX8_leave
  simp only [h0, e1, n_cl (show K < 2 ^ 31 by omega), hw, n_cl (show i < 2 ^ 31 by omega), k0, hq]
  simp only [if_pos P]
  by_cases c1 : π.2 0 i = 5
  · simp only [if_pos c1]
  · simp only [if_neg c1]
    by_cases c2 : π.2 0 i = 6
    · simp only [if_pos c2]
    · simp only [if_neg c2]
      by_cases c3 : (fX8_commit τ (nI K)).1 4 = nI K
      · simp only [if_pos c3]
        by_cases c4 : (fX8_commit τ (nI K)).2 6 K = 0
        · simp only [if_pos c4]
        · simp only [if_neg c4]
          by_cases c5 : π.2 0 i = 4
          · simp only [if_pos c5]
          · simp only [if_neg c5]
      · simp only [if_neg c3]
set_option maxHeartbeats 1000000 in
theorem RC.leave {π : St} {N R B M W cb cyc : Nat} {σ τ : St} (hg : Gd π N R B M W) (hW : 1 ≤ W) (hcb : cb < 2 ^ 30) (h : RC π N R B M W cb cyc σ τ) : (fX1_leave σ).1 = (fX8_leave τ).1 ∧ RC π N R B M W (cb + 1) cyc (fX1_leave σ).2 (fX8_leave τ).2 := by
  have hb := hg.2.2.2.2.2.1
  obtain ⟨hk, hn, hd, hr⟩ := h
  have k1 := hk.1
  have k2 := hk.2.1
  have k6 := hk.2.2.2.2.2.1
  have k7 := hk.2.2.2.2.2.2.1
  have k8 := hk.2.2.2.2.2.2.2
  have t0 : τ.1 0 = nI N := by rw [k2.1 0 (by decide)]; exact hg.1
  have s0 : σ.1 0 = nI N := by rw [k1.1 0 (by decide)]; exact hg.1
  have t6 : τ.1 6 = nI W := by rw [k2.1 6 (by decide)]; exact hg.2.2.2.2.1
  have s6 : σ.1 6 = nI W := by rw [k1.1 6 (by decide)]; exact hg.2.2.2.2.1
  obtain ⟨H, hH, e17⟩ := hg.2.2.2.2.2.2.1
  have t17 : τ.1 17 = nI H := by rw [k2.2.2.1]; exact e17
  have s17 : σ.1 17 = nI H := by rw [k1.2.2.1]; exact e17
  obtain ⟨K, rfl⟩ : ∃ K, N = K + 1 := ⟨N - 1, by omega⟩
  have hK : K < 8 := by omega
  have hR : R < K := by omega
  by_cases c0 : τ.2 5 K = -1
  · have e1 : fX4_last σ = nI K := by unfold fX4_last; rw [s0]; exact nI_pred K
    have a1 : fX1_leave σ = (4, σ) := by
      unfold fX1_leave
      simp only [e1, c_word hK, k7.1, c0, if_true]
    have a2 : fX8_leave τ = (4, τ) := by
      unfold fX8_leave
      have P : ¬ (0 : Int32) ≤ -1 := by decide
      simp only [t0, nI_pred K, n_cl (show K < 2 ^ 31 by omega), c0]
      simp only [if_neg P]
    rw [a1, a2]
    exact ⟨rfl, RC.up ⟨hk, hn, hd, hr⟩⟩
  · obtain ⟨ei, hi⟩ := (k6.1 K hK).idx c0
    generalize hii : (τ.2 5 K).toNatClampNeg = i at ei hi
    have hup : ∀ j, K < j → j < 8 → τ.2 5 j = -1 := fun j h1 h2 => k6.2.1 j (by omega) h2
    have ho : τ.2 6 K = 1 := by
      rcases k6.2.2.1 K hK c0 with z | z
      · obtain ⟨t, p1, p2, p3⟩ := (hd.1 K hK c0).mp z
        exact absurd (hup t p1 p2) p3.1
      · exact z
    obtain ⟨g1, g2, g3, g4⟩ := k8.leave hK c0 ho hup
    rw [hii] at g1 g2 g3 g4
    obtain ⟨m1, m2, m3, m4, m5, m6, m7, m8⟩ := m_commit k2 hi hK ei g1 g2
    have hq0 : (fX8_commit τ (nI K)).2 0 = π.2 0 := by
      rw [m3 0 (by decide) (by decide) (by decide) (by decide) (by decide)]; exact k2.2.2.2 0 (by decide)
    have sw : σ.2 5 K = nI i := by rw [k7.1]; exact ei
    rw [c_leave k1 s0 hK hi sw, m_leave k2 t0 hK hi ei hq0]
    by_cases c5 : π.2 0 i = 5
    · simp only [if_pos c5]
      refine ⟨trivial, ?_⟩
      have hgn := hk.gone hK hR hii c5
      have e17' : (fX5_empty σ (nI K)).1 17 = nI H := by rw [c_emp hK]; exact s17
      rw [e17', t17]
      have hdv : dvv π B (τ.2 5) (τ.2 6) (τ.2 19) K := ⟨c0, ho, Or.inl (by rw [hii]; exact c5)⟩
      have hbl := (hd.below hK hdv).1
      have hq := c_sgt (σ := sg (fX5_empty σ (nI K)) 13 ((fX5_empty σ (nI K)).1 13 + 1)) (s := K) (by omega) (nI H)
      have hw' : ∀ j, j < 8 → wok ((sg (ar τ 5 (upd (τ.2 5) K (-1))) 13 (τ.1 13 + 1)).2 5 j) := hgn.2.2.2.2.2.1.1
      have hm := (m_sqf (τ := sg (ar τ 5 (upd (τ.2 5) K (-1))) 13 (τ.1 13 + 1)) (s := K + 1) hw' (by omega) (nI H)).less (by simp [q2, q4, q5])
      have x6 : (sg (ar τ 5 (upd (τ.2 5) K (-1))) 13 (τ.1 13 + 1)).1 6 = nI W := t6
      have y6 : (sg (fX5_empty σ (nI K)) 13 ((fX5_empty σ (nI K)).1 13 + 1)).1 6 = nI W := by rw [c_emp hK]; exact s6
      have hfm : nI H - nI H / nI W * nI W = fm (nI H) (nI W) := rm_eq _ (by omega) (by omega) (by rw [nI_toInt (by omega)]; omega)
      have hxy : fX3_wordAt (sg (fX5_empty σ (nI K)) 13 ((fX5_empty σ (nI K)).1 13 + 1)) (nI H) = nI H - nI H / (sg (ar τ 5 (upd (τ.2 5) K (-1))) 13 (τ.1 13 + 1)).1 6 * (sg (ar τ 5 (upd (τ.2 5) K (-1))) 13 (τ.1 13 + 1)).1 6 := by
        rw [x6, hfm]
        unfold fX3_wordAt
        rw [y6, if_neg (nI_nle (by omega) (by omega))]
      have ha : ∀ j, j < K → j < 8 → ¬ (sg (ar τ 5 (upd (τ.2 5) K (-1))) 13 (τ.1 13 + 1)).2 5 j = -1 → ¬ (sg (ar τ 5 (upd (τ.2 5) K (-1))) 13 (τ.1 13 + 1)).2 6 j = 1 := by
        intro j h1 h2 h3
        refine hbl j h1 h2 (fun z => h3 ?_)
        simp only [q2, q4, q5, if_true]
        rw [if_neg (by omega)]; exact z
      refine ⟨(hgn.sq hq hm hxy ha).up, ?_, ?_, ?_⟩
      · obtain ⟨j, hj, ej, -⟩ := fm_nat (nI H) (k := W) (by omega) (by omega)
        exact ⟨j, hj, by rw [hm.2.2.1, x6, hfm, ej]⟩
      · rw [hm.2.2.2.1]
        refine Dv.none (fun j hj => ?_)
        rw [hm.2.2.2.2.2.2 j]
        by_cases z : j < K
        · rw [if_pos z]
        · rw [if_neg z]
          simp only [q2, q4, q5, if_true]
          by_cases z2 : j = K
          · rw [if_pos z2]
          · rw [if_neg z2]; exact hup j (by omega) hj
      · rw [hq.2.2.2.2.1, hm.2.2.2.2.1]; decide
    · simp only [if_neg c5]
      refine ⟨trivial, ?_⟩
      have hcm := hk.com hg hcb hK hR hi ei ho hup
      obtain ⟨d1, d2, d3, d4, d5, d6, d7, d8, d9, -⟩ := c_commit (K := K) k1 hg hi hK
      have s4 : (fX1_commit (fX5_empty σ (nI K)) (nI i)).1 4 = nI B := by rw [d1 4 (by decide) (by decide) (by decide) (by decide), k1.1 4 (by decide)]; exact hg.2.2.1
      have t4 : (fX8_commit τ (nI K)).1 4 = nI B := by rw [m1 4 (by decide), k2.1 4 (by decide)]; exact hg.2.2.1
      have o6 : (fX8_commit τ (nI K)).2 6 K = 1 := by rw [m3 6 (by decide) (by decide) (by decide) (by decide) (by decide)]; exact ho
      have e19 : (fX8_commit τ (nI K)).2 19 K = τ.2 19 K := by rw [m3 19 (by decide) (by decide) (by decide) (by decide) (by decide)]
      have m5' : (fX8_commit τ (nI K)).2 5 = τ.2 5 := m3 5 (by decide) (by decide) (by decide) (by decide) (by decide)
      have eg : fX5_isGoing σ (nI K) = if (π.2 0 i = 4 ∧ 0 ≤ τ.2 19 K) then 1 else 0 := by
        rw [c_go hK, k7.2.2 K hK, hii]
        by_cases z : π.2 0 i = 4 ∧ 0 ≤ τ.2 19 K
        · have Z : ¬ τ.2 5 K = -1 ∧ τ.2 6 K = 1 ∧ π.2 0 i = 4 ∧ 0 ≤ τ.2 19 K := ⟨c0, ho, z⟩
          simp only [if_pos z, if_pos Z]
          rfl
        · have Z : ¬ (¬ τ.2 5 K = -1 ∧ τ.2 6 K = 1 ∧ π.2 0 i = 4 ∧ 0 ≤ τ.2 19 K) := fun y => z y.2.2
          simp only [if_neg z, if_neg Z]
          rfl
      rw [eg, s4, t4, o6, e19]
      have base : ¬ (π.2 0 i = 4 ∧ 0 ≤ τ.2 19 K ∧ B = K) → RC π (K + 1) R B M W (cb + 1) cyc (fX1_commit (fX5_empty σ (nI K)) (nI i)) (if π.2 0 i = 6 then sg (ar (fX8_commit τ (nI K)) 5 (upd ((fX8_commit τ (nI K)).2 5) K (-1))) 15 1 else ar (fX8_commit τ (nI K)) 5 (upd ((fX8_commit τ (nI K)).2 5) K (-1))) := by
        intro hnb
        refine ⟨hcm, ?_⟩
        have hdg : Dv π B (upd (τ.2 5) K (-1)) (τ.2 6) (τ.2 19) (τ.1 19) := hd.gone (fun z => by
          rcases z.2.2 with y | ⟨y1, y2, y3⟩
          · rw [hii] at y; exact c5 y
          · rw [hii] at y1; exact hnb ⟨y1, y2, by omega⟩)
        have hr' : (fX1_commit (fX5_empty σ (nI K)) (nI i)).1 21 = 0 ↔ ¬ (fX8_commit τ (nI K)).1 21 = 0 := by
          rw [d1 21 (by decide) (by decide) (by decide) (by decide), m1 21 (by decide)]; exact hr
        have f18 : (fX8_commit τ (nI K)).1 18 = τ.1 18 := m1 18 (by decide)
        have f19 : (fX8_commit τ (nI K)).1 19 = τ.1 19 := m1 19 (by decide)
        have v6 : (fX8_commit τ (nI K)).2 6 = τ.2 6 := m3 6 (by decide) (by decide) (by decide) (by decide) (by decide)
        have v19 : (fX8_commit τ (nI K)).2 19 = τ.2 19 := m3 19 (by decide) (by decide) (by decide) (by decide) (by decide)
        by_cases z : π.2 0 i = 6
        · simp only [if_pos z, q1, q2, q3, q4, m5', f18, f19, v6, v19]
          exact ⟨hn, hdg, hr'⟩
        · simp only [if_neg z, q3, q4, m5', f18, f19, v6, v19]
          exact ⟨hn, hdg, hr'⟩
      by_cases cb4 : π.2 0 i = 4 ∧ 0 ≤ τ.2 19 K ∧ B = K
      · obtain ⟨z4, zg, zB⟩ := cb4
        have n6 : ¬ π.2 0 i = 6 := by rw [z4]; decide
        have Z : π.2 0 i = 4 ∧ 0 ≤ τ.2 19 K := ⟨z4, zg⟩
        have P1 : ¬ (1 : Int32) = 0 := by decide
        have PB : nI B = nI K := by rw [zB]
        simp only [if_pos Z, if_neg P1, if_pos PB, if_neg n6, if_pos z4]
        rw [if_neg n6] at hcm
        have hdv : dvv π B (τ.2 5) (τ.2 6) (τ.2 19) K := ⟨c0, ho, Or.inr ⟨by rw [hii]; exact z4, zg, by omega⟩⟩
        have hbl := (hd.below hK hdv).1
        have hy : τ.2 19 K = fX8_modulo (π.2 4 i) (π.1 6) := by
          rw [g3]
          unfold pE
          by_cases cx : pX π (τ.2 14, τ.2 15) i = 0
          · exfalso
            rw [g3] at zg
            unfold pE at zg
            rw [if_neg (fun z => z.2 cx)] at zg
            exact absurd zg (by decide)
          · rw [if_pos ⟨z4, cx⟩]
        have v6 : (fX8_commit τ (nI K)).2 6 = τ.2 6 := m3 6 (by decide) (by decide) (by decide) (by decide) (by decide)
        have w5 : ∀ j, (ar (fX8_commit τ (nI K)) 5 (upd ((fX8_commit τ (nI K)).2 5) K (-1))).2 5 j = if j = K then -1 else τ.2 5 j := fun j => by
          simp only [q4, q5, if_true, m5']
        have ha : ∀ j, j < K → j < 8 → ¬ (ar (fX8_commit τ (nI K)) 5 (upd ((fX8_commit τ (nI K)).2 5) K (-1))).2 5 j = -1 → ¬ (ar (fX8_commit τ (nI K)) 5 (upd ((fX8_commit τ (nI K)).2 5) K (-1))).2 6 j = 1 := by
          intro j h1 h2 h3
          rw [w5 j, if_neg (by omega)] at h3
          have := hbl j h1 h2 h3
          simp only [q4]
          rw [if_neg (by decide), v6]
          exact this
        have fin := RK.tb hg hW hcm (s := K) (i := i) (by omega) hi ha (fun w' hw' => Dv.none (fun j hj => by
          rw [hw' j]
          by_cases z : j < K
          · rw [if_pos z]
          · rw [if_neg z, w5 j]
            by_cases z2 : j = K
            · rw [if_pos z2]
            · rw [if_neg z2]; exact hup j (by omega) hj)) hy
        exact fin
      · have hbase := base cb4
        have eL : (if (if (π.2 0 i = 4 ∧ 0 ≤ τ.2 19 K) then (1 : Int32) else 0) = 0 then fX1_commit (fX5_empty σ (nI K)) (nI i) else if nI B = nI K then fX1_takeBranch (fX1_commit (fX5_empty σ (nI K)) (nI i)) (nI K) (nI i) else fX1_commit (fX5_empty σ (nI K)) (nI i)) = fX1_commit (fX5_empty σ (nI K)) (nI i) := by
          by_cases z : π.2 0 i = 4 ∧ 0 ≤ τ.2 19 K
          · have nB : ¬ nI B = nI K := fun y => cb4 ⟨z.1, z.2, n_inj (by omega) (by omega) y⟩
            rw [if_pos z, if_neg (by decide), if_neg nB]
          · rw [if_neg z, if_pos rfl]
        rw [eL]
        by_cases z6 : π.2 0 i = 6
        · simp only [if_pos z6] at hbase ⊢
          exact hbase
        · simp only [if_neg z6] at hbase ⊢
          have P1 : ¬ (1 : Int32) = 0 := by decide
          simp only [if_neg P1]
          by_cases zB : nI B = nI K
          · simp only [if_pos zB]
            by_cases z4 : π.2 0 i = 4
            · simp only [if_pos z4]
              have ng : ¬ 0 ≤ τ.2 19 K := fun y => cb4 ⟨z4, y, n_inj (by omega) (by omega) zB⟩
              unfold fX8_know
              simp only [if_neg ng]
              exact hbase
            · simp only [if_neg z4]
              exact hbase
          · simp only [if_neg zB]
            exact hbase
