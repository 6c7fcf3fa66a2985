/-! the loop of step 2 -/
theorem mGo_R {τ : St} {s R : Nat} (hs : s + 1 < 8) (hR : R < s) (hw : ∀ j, j < 8 → wok (τ.2 5 j)) (h : ¬ (mGo τ s).2 5 R = -1) : ¬ τ.2 5 R = -1 := by
  obtain ⟨b1, b2, b3, -⟩ := m_mv (τ := τ) hs
  have e : (fX8_moveOn τ (nI s)).2 5 R = τ.2 5 R := by
    rw [b3]; simp only [q5]; rw [if_neg (by omega), if_neg (by omega)]
  have hw' : ∀ j, j < 8 → wok ((fX8_moveOn τ (nI s)).2 5 j) := by
    intro j hj
    rw [b3]; simp only [q5]
    split
    · exact wok_m1
    · split
      · exact hw s (by omega)
      · exact hw j hj
  have kn : ∀ y : Int32, ¬ (fX8_know (fX8_moveOn τ (nI s)) (nI s) y).2 5 R = -1 → ¬ τ.2 5 R = -1 := by
    intro y hk
    by_cases c : 0 ≤ y
    · obtain ⟨-, -, -, -, -, -, m7⟩ := m_know hw' (show s ≤ 8 by omega) c
      rw [m7, if_pos hR] at hk
      exact absurd rfl hk
    · unfold fX8_know at hk
      rw [if_neg c, e] at hk
      exact hk
  unfold mGo at h
  split at h
  · split at h
    · rw [e] at h; exact h
    · split at h
      · exact kn _ h
      · rw [e] at h; exact h
  · rw [e] at h; exact h
theorem c_goN {n : Nat} {σ : St} {c : Int32} (hn : 0 < n) : gfX1_goOn n σ c (-1) = (c, σ) := by
  obtain ⟨k, rfl⟩ : ∃ k, n = k + 1 := ⟨n - 1, by omega⟩
  simp only [gfX1_goOn]
  rw [if_pos (by decide)]
theorem m_goN {n : Nat} {τ : St} {c t : Int32} (hn : 0 < n) : gfX8_goOn n τ c t (-1) = (c, τ) := by
  obtain ⟨k, rfl⟩ : ∃ k, n = k + 1 := ⟨n - 1, by omega⟩
  simp only [gfX8_goOn]
  rw [if_pos (by decide)]
theorem RC.loop {π : St} {N R B M W cb cyc : Nat} (hg : Gd π N R B M W) (hW : 1 ≤ W) (hcyc : cyc < 2 ^ 30) : ∀ (s n : Nat) (σ τ : St) (c t : Int32), s + 1 < n → s + 1 < N → RC π N R B M W cb (if R ≤ s then cyc else cyc + 1) σ τ → (R ≤ s → ¬ τ.2 5 R = -1 → ¬ t = 0) → (R ≤ s → c = 4) →
    (gfX1_goOn n σ c (nI s)).1 = (gfX8_goOn n τ c t (nI s)).1 ∧ RC π N R B M W cb (cyc + 1) (gfX1_goOn n σ c (nI s)).2 (gfX8_goOn n τ c t (nI s)).2 := by
  have hb := hg.2.2.2.2.2.1
  intro s
  induction s with
  | zero =>
    intro n σ τ c t hn hN h ht hc
    obtain ⟨k, rfl⟩ : ∃ k, n = k + 1 := ⟨n - 1, by omega⟩
    rw [if_neg (by omega)] at h
    have k6 := h.1.2.2.2.2.2.1
    have k7 := h.1.2.2.2.2.2.2.1
    have t1 : τ.1 1 = nI R := by rw [h.1.2.1.1 1 (by decide)]; exact hg.2.1
    have s1 : σ.1 1 = nI R := by rw [h.1.1.1 1 (by decide)]; exact hg.2.1
    have nR : ¬ nI 0 = nI R := fun z => by have := n_inj (by omega) (by omega) z; omega
    have P : ¬ (nI 0 = τ.1 1 ∧ ¬ t = 0 ∧ ¬ τ.2 5 0 < 0) := fun q => nR (by rw [← t1]; exact q.1)
    rw [c_it (by decide), m_it (by decide), if_neg P, s1, if_neg nR, c_word (by decide), nI_1, c_word (by decide), k7.1, n_z1]
    by_cases c1 : τ.2 5 0 = -1
    · rw [if_pos c1, if_pos (may_n (by decide) k6.1 (fun q _ _ => q c1)), c_goN (by omega), m_goN (by omega)]
      exact ⟨rfl, h⟩
    · rw [if_neg c1]
      by_cases c2 : τ.2 5 1 = -1
      · rw [if_pos c2, if_neg (may_y (by decide) k6.1 c1 c2 (fun q => absurd (by rw [← t1]; exact q) nR)), c_goN (by omega), m_goN (by omega)]
        exact ⟨rfl, h.go hg hW (by omega) c1 c2⟩
      · rw [if_neg c2, if_pos (may_n (by decide) k6.1 (fun _ q _ => c2 q)), c_goN (by omega), m_goN (by omega)]
        exact ⟨rfl, h⟩
  | succ s ih =>
    intro n σ τ c t hn hN h ht hc
    obtain ⟨k, rfl⟩ : ∃ k, n = k + 1 := ⟨n - 1, by omega⟩
    have k6 := h.1.2.2.2.2.2.1
    have k7 := h.1.2.2.2.2.2.2.1
    have t1 : τ.1 1 = nI R := by rw [h.1.2.1.1 1 (by decide)]; exact hg.2.1
    have s1 : σ.1 1 = nI R := by rw [h.1.1.1 1 (by decide)]; exact hg.2.1
    by_cases cR : s + 1 = R
    · rw [if_pos (by omega)] at h
      have hc4 : c = 4 := hc (by omega)
      have nxt : ∀ (σ' τ' : St) (c' : Int32), RC π N R B M W cb (cyc + 1) σ' τ' → (gfX1_goOn k σ' c' (nI s)).1 = (gfX8_goOn k τ' c' t (nI s)).1 ∧ RC π N R B M W cb (cyc + 1) (gfX1_goOn k σ' c' (nI s)).2 (gfX8_goOn k τ' c' t (nI s)).2 := by
        intro σ' τ' c' h'
        refine ih k σ' τ' c' t (by omega) (by omega) (by rw [if_neg (by omega)]; exact h') (fun q => by omega) (fun q => by omega)
      rw [c_it (by omega), m_it (by omega), s1, t1, c_word (by omega), k7.1, n_m1]
      by_cases c1 : τ.2 5 (s + 1) = -1
      · have P : ¬ (nI (s + 1) = nI R ∧ ¬ t = 0 ∧ ¬ τ.2 5 (s + 1) < 0) := fun q => q.2.2 ((k6.1 _ (by omega)).lt.mpr c1)
        rw [if_pos c1, if_neg P, if_pos (may_n (by omega) k6.1 (fun q _ _ => q c1))]
        exact nxt _ _ _ (h.more (by omega))
      · have P : nI (s + 1) = nI R ∧ ¬ t = 0 ∧ ¬ τ.2 5 (s + 1) < 0 := ⟨by rw [cR], ht (by omega) (by rw [← cR]; exact c1), fun q => c1 ((k6.1 _ (by omega)).lt.mp q)⟩
        rw [if_neg c1, if_pos P, if_pos P.1]
        obtain ⟨w1, w2, w3, w4, w5⟩ := h.work hg hcyc (by rw [← cR]; exact c1)
        have eR : τ.2 5 R = τ.2 5 (s + 1) := by rw [cR]
        rw [eR] at w1 w2 w5
        have eR2 : ∀ f : Nat → Int32, f R = f (s + 1) := fun f => by rw [cR]
        rw [eR2 ((fX8_work τ).2.2 7), eR2 ((fX8_work τ).2.2 16)] at w5
        have k6' := w2.1.2.2.2.2.2.1
        have k7' := w2.1.2.2.2.2.2.2.1
        rw [nI_1, c_word (by omega), k7'.1, w3]
        by_cases c2 : (fX8_work τ).1 = 4
        · rw [w1, if_pos c2]
          by_cases c3 : τ.2 5 (s + 1 + 1) = -1
          · have Y : ¬ fX8_mayGo (fX8_work τ).2 (nI (s + 1)) = 0 := may_y (by omega) k6'.1 (by rw [w3]; exact c1) (by rw [w3]; exact c3) (fun _ => by rw [w3]; exact w5.mp c2)
            rw [if_pos c3, if_neg Y, hc4, c2]
            have z := w2.go hg hW (s := s + 1) (by omega) (by rw [w3]; exact c1) (by rw [w3]; exact c3)
            rw [w3] at z
            exact nxt _ _ 4 z
          · have Y : fX8_mayGo (fX8_work τ).2 (nI (s + 1)) = 0 := may_n (by omega) k6'.1 (fun _ q _ => c3 (by rw [w3] at q; exact q))
            rw [if_neg c3, if_pos Y, hc4, c2]
            exact nxt _ _ 4 w2
        · have Y : fX8_mayGo (fX8_work τ).2 (nI (s + 1)) = 0 := may_n (by omega) k6'.1 (fun _ _ q => c2 (w5.mpr (by
            have q2 := q (by rw [w4, t1, cR])
            rw [w3] at q2
            exact q2)))
          rw [w1, if_neg c2, if_pos Y]
          exact nxt _ _ _ w2
    · have nR : ¬ nI (s + 1) = nI R := fun z => cR (n_inj (by omega) (by omega) z)
      have hlev : (if R ≤ s + 1 then cyc else cyc + 1) = (if R ≤ s then cyc else cyc + 1) := by
        by_cases q : R ≤ s
        · rw [if_pos q, if_pos (by omega)]
        · rw [if_neg q, if_neg (by omega)]
      rw [hlev] at h
      have nxt : ∀ (σ' τ' : St), RC π N R B M W cb (if R ≤ s then cyc else cyc + 1) σ' τ' → (R ≤ s → ¬ τ'.2 5 R = -1 → ¬ τ.2 5 R = -1) → (gfX1_goOn k σ' c (nI s)).1 = (gfX8_goOn k τ' c t (nI s)).1 ∧ RC π N R B M W cb (cyc + 1) (gfX1_goOn k σ' c (nI s)).2 (gfX8_goOn k τ' c t (nI s)).2 := by
        intro σ' τ' h' h2
        exact ih k σ' τ' c t (by omega) (by omega) h' (fun q q2 => ht (by omega) (h2 q q2)) (fun q => hc (by omega))
      have P : ¬ (nI (s + 1) = τ.1 1 ∧ ¬ t = 0 ∧ ¬ τ.2 5 (s + 1) < 0) := fun q => nR (by rw [← t1]; exact q.1)
      rw [c_it (by omega), m_it (by omega), if_neg P, s1, if_neg nR, c_word (by omega), nI_1, c_word (by omega), k7.1, n_m1]
      by_cases c1 : τ.2 5 (s + 1) = -1
      · rw [if_pos c1, if_pos (may_n (by omega) k6.1 (fun q _ _ => q c1))]
        exact nxt _ _ h (fun _ q => q)
      · rw [if_neg c1]
        by_cases c2 : τ.2 5 (s + 1 + 1) = -1
        · rw [if_pos c2, if_neg (may_y (by omega) k6.1 c1 c2 (fun q => absurd (by rw [← t1]; exact q) nR))]
          exact nxt _ _ (h.go hg hW (by omega) c1 c2) (fun q q2 => mGo_R (by omega) (by omega) k6.1 q2)
        · rw [if_neg c2, if_pos (may_n (by omega) k6.1 (fun _ q _ => c2 q))]
          exact nxt _ _ h (fun _ q => q)
theorem RC.goOn {π : St} {N R B M W cb cyc : Nat} {σ τ : St} (hg : Gd π N R B M W) (hW : 1 ≤ W) (hcyc : cyc < 2 ^ 30) (h : RC π N R B M W cb cyc σ τ) : (fX1_goOn σ).1 = (fX8_goOn τ).1 ∧ RC π N R B M W cb (cyc + 1) (fX1_goOn σ).2 (fX8_goOn τ).2 := by
  have hb := hg.2.2.2.2.2.1
  have k6 := h.1.2.2.2.2.2.1
  have t1 : τ.1 1 = nI R := by rw [h.1.2.1.1 1 (by decide)]; exact hg.2.1
  have t0 : τ.1 0 = nI N := by rw [h.1.2.1.1 0 (by decide)]; exact hg.1
  have s0 : σ.1 0 = nI N := by rw [h.1.1.1 0 (by decide)]; exact hg.1
  obtain ⟨K, rfl⟩ : ∃ K, N = K + 2 := ⟨N - 2, by omega⟩
  have e1 : nI (K + 2) - 1 - 1 = nI K := by rw [nI_pred (K + 1), nI_pred K]
  have e2 : nI (K + 2) - 2 = nI K := by
    apply Int32.toInt_inj.mp
    rw [Int32.toInt_sub, nI_toInt (by omega), nI_toInt (by omega), show (2 : Int32).toInt = 2 by decide]
    rw [Int.bmod_eq_of_le_mul_two (by omega) (by omega)]
    omega
  unfold fX1_goOn fX8_goOn fX4_last
  simp only [s0, t0, t1, e1, e2, n_cl (show R < 2 ^ 31 by omega)]
  by_cases c : τ.2 5 R < 0
  · rw [if_pos c]
    exact RC.loop hg hW hcyc K 9 σ τ 4 0 (by omega) (by omega) (by rw [if_pos (by omega)]; exact h) (fun _ q => absurd ((k6.1 R (by omega)).lt.mp c) q) (fun _ => rfl)
  · rw [if_neg c]
    exact RC.loop hg hW hcyc K 9 σ τ 4 1 (by omega) (by omega) (by rw [if_pos (by omega)]; exact h) (fun _ _ => by decide) (fun _ => rfl)
