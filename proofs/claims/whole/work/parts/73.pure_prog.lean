/-! word, set, clear, and the start -/
theorem Gh.emp {π : St} {w o vl pl el : Nat → Int32} {L A : RM} (h : Gh π w o vl pl el L A) (hw : ∀ s, s < 8 → w s = -1) : A = L := by
  obtain ⟨g, g8, g0, hh⟩ := h
  have up : ∀ d, d ≤ 8 → g (8 - d) = L := by
    intro d
    induction d with
    | zero => intro _; exact g8
    | succ d ih =>
      intro hd
      have b := (hh (8 - (d + 1)) (by omega)).2 (fun z => z.1 (hw _ (by omega)))
      rw [b, show 8 - (d + 1) + 1 = 8 - d by omega]
      exact ih (by omega)
  have := up 8 (Nat.le_refl _)
  rw [show 8 - 8 = 0 from rfl, g0] at this
  exact this
theorem rel_prog {K : Nat} {π π' : St} {N R B M W' cb : Nat} {σ τ σ' τ' : St} (hg' : Gd π' N R B M W') (h9 : π'.1 9 = nI 0) (h16 : π'.1 16 = 0 ∨ π'.1 16 = 1) (hcb : cb ≤ 2000 * K) (hv : mV (2000 * K) τ) (hk : RK π N R M cb 0 σ τ) (hd : Dv π B (τ.2 5) (τ.2 6) (τ.2 19) (τ.1 19)) (h0 : (∀ s, s < 8 → τ.2 5 s = -1) ∧ τ.1 18 = 0)
    (s1 : ∀ k, k ≠ 6 → k ≠ 16 → k ≠ 17 → σ'.1 k = σ.1 k) (t1 : ∀ k, k ≠ 6 → k ≠ 16 → k ≠ 17 → k ≠ 22 → τ'.1 k = τ.1 k) (s2 : ∀ k, 5 ≤ k → σ'.2 k = σ.2 k) (t2 : ∀ k, 5 ≤ k → τ'.2 k = τ.2 k) (hc : Kc π' σ') (hm : Km π' τ') : RelW (K + 1) σ' τ' := by
  have hb := hg'.2.2.2.2.2.1
  obtain ⟨k1, k2, k3, ⟨c, j1, j2, j3, j4, j5⟩, k5, k6, k7, k8⟩ := hk
  obtain ⟨hw, hn⟩ := h0
  have hLA := k8.emp hw
  have f19 : τ.1 19 = 0 := by
    rcases hd.2.1 with z | z
    · exact z
    · obtain ⟨t, p1, p2⟩ := hd.2.2.mp z
      exact absurd (hw t p1) p2.1
  have hw' : ∀ s, s < 8 → τ'.2 5 s = -1 := fun s hs => by rw [t2 5 (by decide)]; exact hw s hs
  have hcnt : Cnt σ' τ' := by
    refine ⟨fun k h1 h2 => ?_, ?_, ?_, ?_, ?_⟩
    · rw [s1 k (by omega) (by omega) (by omega), t1 k (by omega) (by omega) (by omega) (by omega)]; exact k3.1 k h1 h2
    · rw [s1 18 (by decide) (by decide) (by decide), t1 18 (by decide) (by decide) (by decide) (by decide)]; exact k3.2.1
    · rw [s1 19 (by decide) (by decide) (by decide), t1 19 (by decide) (by decide) (by decide) (by decide)]; exact k3.2.2.1
    · rw [s1 20 (by decide) (by decide) (by decide), t1 20 (by decide) (by decide) (by decide) (by decide)]; exact k3.2.2.2.1
    · rw [s2 11 (by decide), t2 11 (by decide)]; exact k3.2.2.2.2
  have hj : Jr cb σ' τ' := by
    refine ⟨c, j1, ?_, ?_, ?_, ?_⟩
    · rw [t1 10 (by decide) (by decide) (by decide) (by decide)]; exact j2
    · rw [s1 8 (by decide) (by decide) (by decide)]; exact j3
    · rw [s1 7 (by decide) (by decide) (by decide)]; exact j4
    · rw [s2 8 (by decide), s2 9 (by decide), s2 10 (by decide), t2 8 (by decide), t2 9 (by decide), t2 10 (by decide)]; exact j5
  have hmm : Mm σ' τ' := by
    unfold Mm
    rw [s2 12 (by decide), s2 13 (by decide), s2 14 (by decide), s2 15 (by decide), t2 12 (by decide), t2 13 (by decide), t2 14 (by decide), t2 15 (by decide)]; exact k5
  have hrk : RK π' N R M cb 0 σ' τ' := by
    refine RK.mk0 hc hm hcnt hj hmm hw' ?_ (fun s hs => ?_) (fun s hs => ?_) ?_ ?_ (by omega)
    · rw [s2 5 (by decide), t2 5 (by decide)]; exact k7.1
    · rw [s2 6 (by decide), k7.2.1 s hs, if_pos (hw s hs)]
    · rw [s2 7 (by decide), k7.2.2 s hs, if_neg (fun z => z.1 (hw s hs))]
    · rw [t2 12 (by decide), t2 14 (by decide)]; exact congrArg Prod.fst hLA
    · rw [t2 13 (by decide), t2 15 (by decide)]; exact congrArg Prod.snd hLA
  refine ⟨π', N, R, B, M, W', cb, 0, hg', h9, h16, by omega, by omega, ?_, hrk, ?_, ⟨0, Or.inr rfl, ?_⟩, fun _ => ⟨hw', ?_⟩⟩
  · have hv2 := hv.le (show 2000 * K ≤ 2000 * (K + 1) by omega)
    unfold mV at hv2 ⊢
    rw [t2 5 (by decide), t2 18 (by decide), t1 18 (by decide) (by decide) (by decide) (by decide), t1 10 (by decide) (by decide) (by decide) (by decide)]
    exact hv2
  · rw [t1 19 (by decide) (by decide) (by decide) (by decide), f19]
    exact Dv.none hw'
  · rw [t1 18 (by decide) (by decide) (by decide) (by decide), hn, nI_0]
  · rw [t1 18 (by decide) (by decide) (by decide) (by decide)]; exact hn
theorem c_app {σ : St} {W : Nat} (h6 : σ.1 6 = nI W) (hW : W < 64) (x1 x2 x3 x4 x5 : Int32) : fX3_append σ x1 x2 x3 x4 x5 = (nI W + 1 - 1, sg (ar (ar (ar (ar (ar σ 0 (upd (σ.2 0) W x1)) 1 (upd (σ.2 1) W (if fX3_hasTarget x1 = 0 then -1 else x2))) 2 (upd (σ.2 2) W (if fX3_readsFirst x1 = 0 then -1 else x3))) 3 (upd (σ.2 3) W (if fX3_readsSecond x1 = 0 then -1 else x4))) 4 (upd (σ.2 4) W x5)) 6 (nI W + 1)) := by
  have P1 : ¬ nI W < 0 := n_lt0 (by omega)
  have P2 : nI W < 64 := Int32.not_le.mp (n_ge64 hW)
  unfold fX3_append
  simp only [h6, if_neg P1, if_pos P2, n_cl (show W < 2 ^ 31 by omega)]
  by_cases a : fX3_hasTarget x1 = 0
  · simp only [if_pos a]
    by_cases b : fX3_readsFirst x1 = 0
    · simp only [if_pos b]
      by_cases c : fX3_readsSecond x1 = 0
      · simp only [if_pos c]
      · simp only [if_neg c]
    · simp only [if_neg b]
      by_cases c : fX3_readsSecond x1 = 0
      · simp only [if_pos c]
      · simp only [if_neg c]
  · simp only [if_neg a]
    by_cases b : fX3_readsFirst x1 = 0
    · simp only [if_pos b]
      by_cases c : fX3_readsSecond x1 = 0
      · simp only [if_pos c]
      · simp only [if_neg c]
    · simp only [if_neg b]
      by_cases c : fX3_readsSecond x1 = 0
      · simp only [if_pos c]
      · simp only [if_neg c]
def pW (π : St) (W : Nat) (x1 x2 x3 x4 x5 : Int32) : St := sg (ar (ar (ar (ar (ar (sg π 22 0) 0 (upd (π.2 0) W x1)) 1 (upd (π.2 1) W x2)) 2 (upd (π.2 2) W x3)) 3 (upd (π.2 3) W x4)) 4 (upd (π.2 4) W x5)) 6 (nI W + 1)
theorem upd8 {f : Nat → Int32} {W s : Nat} (h : ∀ i, ∃ k : Nat, k < 8 ∧ f i = nI k) (hs : s < 8) (i : Nat) : ∃ k : Nat, k < 8 ∧ upd f W (nI s) i = nI k := by
  by_cases c : i = W
  · exact ⟨s, hs, by rw [q5, if_pos c]⟩
  · obtain ⟨k, hk, e⟩ := h i
    exact ⟨k, hk, by rw [q5, if_neg c]; exact e⟩
theorem Gd.word {π : St} {N R B M W a b c d : Nat} (h : Gd π N R B M W) (hW : W < 64) (ha : a < 8) (hb : b < 8) (hc : c < 8) (hd : d < 8) (x5 : Int32) : Gd (pW π W (nI a) (nI b) (nI c) (nI d) x5) N R B M (W + 1) := by
  obtain ⟨g0, g1, g4, g5, g6, hs, g17, p0, p1, p2, p3⟩ := h
  have e6 : (pW π W (nI a) (nI b) (nI c) (nI d) x5).1 6 = nI (W + 1) := by rw [← nI_1]; rfl
  exact ⟨g0, g1, g4, g5, e6, by omega, g17, upd8 p0 ha, upd8 p1 hb, upd8 p2 hc, upd8 p3 hd⟩
theorem Km.word {π τ : St} (h : Km π τ) (W : Nat) (x1 x2 x3 x4 x5 : Int32) : Km (pW π W x1 x2 x3 x4 x5) (pW τ W x1 x2 x3 x4 x5) := by
  obtain ⟨b1, b2, b3, b4⟩ := h
  refine ⟨fun k hk => ?_, b2, b3, fun k hk => ?_⟩
  · unfold pW
    simp only [q1, q3]
    by_cases c : k = 6
    · rw [if_pos c, if_pos c]
    · rw [if_neg c, if_neg c]
      by_cases c2 : k = 22
      · rw [if_pos c2, if_pos c2]
      · rw [if_neg c2, if_neg c2]; exact b1 k hk
  · unfold pW
    simp only [q2, q4, b4 0 (by decide), b4 1 (by decide), b4 2 (by decide), b4 3 (by decide), b4 4 (by decide), b4 k hk]
theorem Kc.word {π σ : St} (h : Kc π σ) (W : Nat) (x1 x2 x3 x4 x5 : Int32) : Kc (pW π W x1 x2 x3 x4 x5) (sg (ar (ar (ar (ar (ar σ 0 (upd (σ.2 0) W x1)) 1 (upd (σ.2 1) W (if fX3_hasTarget x1 = 0 then -1 else x2))) 2 (upd (σ.2 2) W (if fX3_readsFirst x1 = 0 then -1 else x3))) 3 (upd (σ.2 3) W (if fX3_readsSecond x1 = 0 then -1 else x4))) 4 (upd (σ.2 4) W x5)) 6 (nI W + 1)) := by
  obtain ⟨a1, a2, a3, a4, a5, a6, a7, a8⟩ := h
  refine ⟨fun k hk => ?_, a2, a3, ?_, ?_, fun i => ?_, fun i => ?_, fun i => ?_⟩
  · unfold pW
    simp only [q1, q3]
    by_cases c : k = 6
    · rw [if_pos c, if_pos c]
    · rw [if_neg c, if_neg c, if_neg (by omega)]; exact a1 k hk
  · show upd (σ.2 0) W x1 = upd (π.2 0) W x1
    rw [a4]
  · show upd (σ.2 4) W x5 = upd (π.2 4) W x5
    rw [a5]
  · show upd (σ.2 1) W (if fX3_hasTarget x1 = 0 then -1 else x2) i = if fX3_hasTarget (upd (π.2 0) W x1 i) = 0 then -1 else upd (π.2 1) W x2 i
    simp only [q5]
    by_cases c : i = W
    · simp only [if_pos c]
    · simp only [if_neg c]; exact a6 i
  · show upd (σ.2 2) W (if fX3_readsFirst x1 = 0 then -1 else x3) i = if fX3_readsFirst (upd (π.2 0) W x1 i) = 0 then -1 else upd (π.2 2) W x3 i
    simp only [q5]
    by_cases c : i = W
    · simp only [if_pos c]
    · simp only [if_neg c]; exact a7 i
  · show upd (σ.2 3) W (if fX3_readsSecond x1 = 0 then -1 else x4) i = if fX3_readsSecond (upd (π.2 0) W x1 i) = 0 then -1 else upd (π.2 3) W x4 i
    simp only [q5]
    by_cases c : i = W
    · simp only [if_pos c]
    · simp only [if_neg c]; exact a8 i
theorem rel_word : SM_word RelW := by
  intro K σ τ x1 x2 x3 x4 x5 hK h
  have h' := h
  obtain ⟨π, N, R, B, M, W, cb, cyc, hg, h9, h16, hcb, hcy, hv, hk, hd, hx, h0⟩ := h
  have hb := hg.2.2.2.2.2.1
  have t6 : τ.1 6 = nI W := by rw [hk.2.1.1 6 (by decide)]; exact hg.2.2.2.2.1
  have s6 : σ.1 6 = nI W := by rw [hk.1.1 6 (by decide)]; exact hg.2.2.2.2.1
  have t9 : τ.1 9 = nI cyc := by rw [hk.2.1.1 9 (by decide)]; exact h9
  have s9 : σ.1 9 = nI cyc := by rw [hk.2.2.1.1 9 (by decide) (by decide)]; exact t9
  unfold fX8_word fX8_isRegister cX7_wordx fX7_word fX8_thrown fX8_fail fX3_size
  simp only [t6, s6, t9, s9, wi_7]
  by_cases c1 : fX7_isBelow x1 8 = 0
  · simp only [if_pos c1, t22, if_neg n10]
    exact ⟨trivial, fun z => absurd z n10, h'.no 1⟩
  by_cases c2 : fX7_isBelow x2 8 = 0
  · simp only [if_neg c1, if_pos c2, t22, if_neg n10]
    exact ⟨trivial, fun z => absurd z n10, h'.no 1⟩
  by_cases c3 : fX7_isBelow x3 8 = 0
  · simp only [if_neg c1, if_neg c2, if_pos c3, t22, if_neg n10]
    exact ⟨trivial, fun z => absurd z n10, h'.no 1⟩
  by_cases c4 : fX7_isBelow x4 8 = 0
  · simp only [if_neg c1, if_neg c2, if_neg c3, if_pos c4, t22, if_neg n10]
    exact ⟨trivial, fun z => absurd z n10, h'.no 1⟩
  simp only [if_neg c1, if_neg c2, if_neg c3, if_neg c4]
  by_cases c5 : cyc = 0
  case neg =>
    have P1 : ¬ nI cyc = 0 := fun z => c5 (n_inj (b := 0) (by omega) (by decide) (by rw [nI_0]; exact z))
    have P2 : ¬ nI cyc ≤ 0 := nI_nle (by omega) (by omega)
    simp only [if_neg P1, if_neg P2, t22, if_neg n20]
    exact ⟨trivial, fun z => absurd z n20, h'.no 2⟩
  subst c5
  have P1 : nI 0 = 0 := nI_0
  have P2 : nI 0 ≤ 0 := by decide
  simp only [if_pos P1, if_pos P2]
  by_cases c6 : W = 64
  · have Q1 : nI W = 64 := by rw [c6]; rfl
    have Q2 : ¬ nI W < 64 := by rw [Q1]; decide
    simp only [if_pos Q1, if_neg Q2, t22, if_neg n30]
    exact ⟨trivial, fun z => absurd z n30, h'.no 3⟩
  have hW : W < 64 := by omega
  have Q1 : ¬ nI W = 64 := fun z => c6 (n_inj (b := 64) (by omega) (by decide) z)
  have Q2 : nI W < 64 := Int32.not_le.mp (n_ge64 hW)
  simp only [if_neg Q1, if_pos Q2, if_true, c_app s6 hW, n_cl (show W < 2 ^ 31 by omega)]
  refine ⟨rfl, fun _ => trivial, ?_⟩
  obtain ⟨a, ha, rfl⟩ := ib8 c1
  obtain ⟨b, hb2, rfl⟩ := ib8 c2
  obtain ⟨c, hc, rfl⟩ := ib8 c3
  obtain ⟨d, hd2, rfl⟩ := ib8 c4
  refine rel_prog (hg.word hW ha hb2 hc hd2 x5) h9 h16 hcb hv hk hd (h0 rfl) (fun k a1 a2 a3 => ?_) (fun k a1 a2 a3 a4 => ?_) (fun k a1 => ?_) (fun k a1 => ?_) (hk.1.word W (nI a) (nI b) (nI c) (nI d) x5) (hk.2.1.word W (nI a) (nI b) (nI c) (nI d) x5)
  · simp only [q1, q3]; rw [if_neg a1]
  · simp only [q1, q3]; rw [if_neg a1, if_neg a4]
  · simp only [q2, q4]; rw [if_neg (by omega), if_neg (by omega), if_neg (by omega), if_neg (by omega), if_neg (by omega)]
  · simp only [q2, q4]; rw [if_neg (by omega), if_neg (by omega), if_neg (by omega), if_neg (by omega), if_neg (by omega)]
theorem rel_set : SM_set RelW := by
  intro K σ τ x1 x2 hK h hx1
  have h' := h
  obtain ⟨π, N, R, B, M, W, cb, cyc, hg, h9, h16, hcb, hcy, hv, hk, hd, hx, h0⟩ := h
  have hb := hg.2.2.2.2.2.1
  have t9 : τ.1 9 = nI cyc := by rw [hk.2.1.1 9 (by decide)]; exact h9
  have s9 : σ.1 9 = nI cyc := by rw [hk.2.2.1.1 9 (by decide) (by decide)]; exact t9
  have e16 : σ.1 16 = τ.1 16 := by rw [hk.1.2.1, hk.2.1.2.1]
  unfold fX8_set cX7_setx fX7_set fX8_thrown
  simp only [t9, s9, wi_63, e16]
  by_cases c1 : fX7_isBelow x2 64 = 0
  · simp only [if_pos c1, t22, if_neg n10]
    exact ⟨trivial, fun z => absurd z n10, (h'.thr 1).keep⟩
  simp only [if_neg c1]
  by_cases c5 : cyc = 0
  case neg =>
    have P1 : ¬ nI cyc = 0 := fun z => c5 (n_inj (b := 0) (by omega) (by decide) (by rw [nI_0]; exact z))
    have P2 : ¬ nI cyc ≤ 0 := nI_nle (by omega) (by omega)
    simp only [if_neg P1, if_neg P2, t22, if_neg n20]
    exact ⟨trivial, fun z => absurd z n20, (h'.thr 2).keep⟩
  subst c5
  have P1 : nI 0 = 0 := nI_0
  have P2 : nI 0 ≤ 0 := by decide
  simp only [if_pos P1, if_pos P2, if_true]
  refine ⟨rfl, fun _ => trivial, ?_⟩
  obtain ⟨H, hH, rfl⟩ := ib64 c1
  obtain ⟨a1, a2, a3, a4⟩ := hk.1
  obtain ⟨b1, b2, b3, b4⟩ := hk.2.1
  obtain ⟨g0, g1, g4, g5, g6, hs, g17, gp⟩ := hg
  have hg' : Gd (sg (sg (sg π 22 0) 16 x1) 17 (nI H)) N R B M W := ⟨g0, g1, g4, g5, g6, hs, ⟨H, hH, rfl⟩, gp⟩
  have hc' : Kc (sg (sg (sg π 22 0) 16 x1) 17 (nI H)) (sg (sg σ 16 x1) 17 (nI H)) := by
    refine ⟨fun k hk => ?_, rfl, rfl, a4⟩
    simp only [q1]
    rw [if_neg (by omega), if_neg (by omega), if_neg (by omega), if_neg (by omega), if_neg (by omega)]
    exact a1 k hk
  have hm' : Km (sg (sg (sg π 22 0) 16 x1) 17 (nI H)) (sg (sg (sg τ 22 0) 16 x1) 17 (nI H)) := by
    refine ⟨fun k hk => ?_, rfl, rfl, b4⟩
    have n17 : ¬ k = 17 := by omega
    have n16 : ¬ k = 16 := by omega
    simp only [q1, if_neg n17, if_neg n16]
    by_cases c : k = 22
    · simp only [if_pos c]
    · simp only [if_neg c]; exact b1 k hk
  refine rel_prog hg' h9 hx1 hcb hv hk hd (h0 rfl) (fun k c1 c2 c3 => ?_) (fun k c1 c2 c3 c4 => ?_) (fun k _ => rfl) (fun k _ => rfl) hc' hm'
  · simp only [q1]; rw [if_neg c3, if_neg c2]
  · simp only [q1]; rw [if_neg c3, if_neg c2, if_neg c4]
theorem rel_new {π : St} {N R B M : Nat} {σ τ : St} (hg : Gd π N R B M 0) (h9 : π.1 9 = 0) (h16 : π.1 16 = 0 ∨ π.1 16 = 1) (hc : Kc π σ) (hm : Km π τ) (zs : ∀ k, ((7 ≤ k ∧ k ≤ 15) ∨ (18 ≤ k ∧ k ≤ 20)) → σ.1 k = 0) (zt : ∀ k, ((9 ≤ k ∧ k ≤ 15) ∨ (18 ≤ k ∧ k ≤ 20)) → τ.1 k = 0) (e : ∀ k, 8 ≤ k → k ≤ 15 → σ.2 k = τ.2 k) (hw : ∀ s, s < 8 → τ.2 5 s = -1) (h5 : σ.2 5 = τ.2 5) (h6 : ∀ s, s < 8 → σ.2 6 s = 0) (h7 : ∀ s, s < 8 → σ.2 7 s = 0) (h12 : τ.2 12 = τ.2 14) (h13 : τ.2 13 = τ.2 15) (hp : mP (τ.2 18)) (K : Nat) : RelW K σ τ := by
  have hb := hg.2.2.2.2.2.1
  have hcnt : Cnt σ τ := ⟨fun k h1 h2 => by rw [zs k (by omega), zt k (by omega)], by rw [zs 18 (by omega), zt 18 (by omega)], by rw [zs 19 (by omega), zt 19 (by omega)], by rw [zs 20 (by omega), zt 20 (by omega)], e 11 (by decide) (by decide)⟩
  have hj : Jr 0 σ τ := ⟨0, Nat.le_refl _, by rw [zt 10 (by omega), nI_0], by rw [zs 8 (by omega)]; rfl, by rw [zs 7 (by omega)]; rfl, e 8 (by decide) (by decide), e 9 (by decide) (by decide), e 10 (by decide) (by decide)⟩
  have hmm : Mm σ τ := ⟨e 12 (by decide) (by decide), e 13 (by decide) (by decide), e 14 (by decide) (by decide), e 15 (by decide) (by decide)⟩
  refine ⟨π, N, R, B, M, 0, 0, 0, hg, by rw [h9, nI_0], h16, Nat.zero_le _, Nat.zero_le _, ?_, RK.mk0 hc hm hcnt hj hmm hw h5 h6 h7 h12 h13 (by omega), ?_, ⟨0, Or.inr rfl, by rw [zt 18 (by omega), nI_0]⟩, fun _ => ⟨hw, zt 18 (by omega)⟩⟩
  · have z : (0 : Int32).toInt = 0 := by decide
    refine ⟨fun i hi => ?_, hp, ?_, ?_, ?_⟩
    · rw [hw i hi, show (-1 : Int32).toInt = -1 by decide]; omega
    · rw [zt 18 (by omega), z]; omega
    · rw [zt 10 (by omega), z]; omega
    · rw [zt 10 (by omega), z]; omega
  · rw [zt 19 (by omega)]
    exact Dv.none hw
theorem rel_clear : SM_clear RelW := by
  intro K σ τ hK h
  obtain ⟨π, N, R, B, M, W, cb, cyc, hg, h9, h16, hcb, hcy, hv, hk, hd, hx, h0⟩ := h
  have hb := hg.2.2.2.2.2.1
  obtain ⟨k1, k2, k3, ⟨c, j1, j2, j3, j4, j5, j6, j7⟩, k5, k6, k7, k8⟩ := hk
  obtain ⟨o1, o2⟩ := k8.out hg
  have e1 : fX7_clear σ = (σ.1 9, fX1_beginAnew (sg σ 6 0)) := by unfold fX7_clear fX3_forget; rfl
  have e2 : fX8_clear τ = (τ.1 9, fX8_begin (sg τ 22 0)) := by unfold fX8_clear; rfl
  rw [e1, e2]
  refine ⟨k3.1 9 (by decide) (by decide), ?_⟩
  obtain ⟨c1, c2, c3, c4, c5, c6, c7, c8, c9, c10, c11⟩ := c_begin (sg σ 6 0)
  obtain ⟨m1, m2, m3, m4, m5, m6, m7, m8, m9⟩ := m_begin (sg τ 22 0)
  generalize fX1_beginAnew (sg σ 6 0) = σ' at c1 c2 c3 c4 c5 c6 c7 c8 c9 c10 c11
  generalize fX8_begin (sg τ 22 0) = τ' at m1 m2 m3 m4 m5 m6 m7 m8 m9
  simp only [q2] at c3 c4 c7 c8 c9 c10 c11 m3 m4 m5 m6 m7 m8 m9
  obtain ⟨a1, a2, a3, a4, a5, a6, a7, a8⟩ := k1
  obtain ⟨b1, b2, b3, b4⟩ := k2
  obtain ⟨g0, g1, g4, g5, g6, hs, g17, gp⟩ := hg
  have hg' : Gd (sg (sg (sg π 6 0) 9 0) 22 0) N R B M 0 := ⟨g0, g1, g4, g5, nI_0.symm, by omega, g17, gp⟩
  refine rel_new hg' rfl h16 ?_ ?_ (fun k hk => c2 k (by unfold zc; omega)) (fun k hk => m2 k (by unfold zr; omega)) (fun k h1 h2 => ?_) (fun s hs => ?_) ?_ c5 c6 ?_ ?_ ?_ (K + 1)
  · have d : ∀ k, k < 5 → σ'.2 k = σ.2 k := fun k hk => c3 k (by omega) (by omega) (by omega) (by omega) (by omega) (by omega) (by omega) (by omega)
    refine ⟨fun k hk => ?_, ?_, ?_, ?_, ?_, fun i => ?_, fun i => ?_, fun i => ?_⟩
    · rw [c1 k (by unfold zc; omega)]
      have n22 : ¬ k = 22 := by omega
      have n9 : ¬ k = 9 := by omega
      simp only [q1, if_neg n22, if_neg n9]
      by_cases z : k = 6
      · simp only [if_pos z]
      · simp only [if_neg z]; exact a1 k hk
    · rw [c1 16 (by unfold zc; omega)]; exact a2
    · rw [c1 17 (by unfold zc; omega)]; exact a3
    · rw [d 0 (by decide)]; exact a4
    · rw [d 4 (by decide)]; exact a5
    · rw [d 1 (by decide)]; exact a6 i
    · rw [d 2 (by decide)]; exact a7 i
    · rw [d 3 (by decide)]; exact a8 i
  · refine ⟨fun k hk => ?_, ?_, ?_, fun k hk => ?_⟩
    · by_cases z : zr k
      · rw [m2 k z]
        unfold zr at z
        simp only [q1]
        grind
      · rw [m1 k z]
        unfold zr at z
        simp only [q1]
        rw [if_neg (show ¬ k = 9 by omega), if_neg (show ¬ k = 6 by omega)]
        by_cases y : k = 22
        · rw [if_pos y, if_pos y]
        · rw [if_neg y, if_neg y]; exact b1 k hk
    · rw [m1 16 (by unfold zr; omega)]; exact b2
    · rw [m1 17 (by unfold zr; omega)]; exact b3
    · rw [m3 k (by omega) (by omega) (by omega) (by omega) (by omega) (by omega)]; exact b4 k hk
  · rcases (show k = 8 ∨ k = 9 ∨ k = 10 ∨ k = 11 ∨ k = 12 ∨ k = 13 ∨ k = 14 ∨ k = 15 by omega) with z | z | z | z | z | z | z | z
    · subst z; rw [c3 8 (by decide) (by decide) (by decide) (by decide) (by decide) (by decide) (by decide) (by decide), m3 8 (by decide) (by decide) (by decide) (by decide) (by decide) (by decide)]; exact j5
    · subst z; rw [c3 9 (by decide) (by decide) (by decide) (by decide) (by decide) (by decide) (by decide) (by decide), m3 9 (by decide) (by decide) (by decide) (by decide) (by decide) (by decide)]; exact j6
    · subst z; rw [c3 10 (by decide) (by decide) (by decide) (by decide) (by decide) (by decide) (by decide) (by decide), m3 10 (by decide) (by decide) (by decide) (by decide) (by decide) (by decide)]; exact j7
    · subst z; rw [c7, m5, k3.2.2.2.2]
    · subst z; rw [c8, m6, k5.1]
    · subst z; rw [c9, m7, k5.2.1]
    · subst z; rw [c10, m8, k5.2.2.1]
    · subst z; rw [c11, m9, k5.2.2.2]
  · rw [m4, fill_lt hs]
  · rw [c4, m4, k7.1]
  · rw [m6, m8]; exact fill_eq o1
  · rw [m7, m9]; exact fill_eq o2
  · rw [m3 18 (by decide) (by decide) (by decide) (by decide) (by decide) (by decide)]; exact hv.2.1
