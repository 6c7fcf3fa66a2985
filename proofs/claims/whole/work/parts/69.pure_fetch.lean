/-! step 3 of a cycle: a word comes in -/
theorem nx_eq {x W : Nat} (hx : x < W) (hW : W ≤ 64) : (if nI W ≤ nI x + 1 then 0 else nI x + 1) = nI ((x + 1) % W) ∧ nI x + 1 - (nI x + 1) / nI W * nI W = nI ((x + 1) % W) := by
  rw [nI_1]
  constructor
  · by_cases c : W ≤ x + 1
    · rw [if_pos (nI_le c (by omega)), show x + 1 = W by omega, Nat.mod_self, nI_0]
    · rw [if_neg (nI_ge (by omega) (by omega)), Nat.mod_eq_of_lt (by omega)]
  · rw [rm_eq _ (by omega) (by omega) (by rw [nI_toInt (by omega)]; omega)]
    apply Int32.toInt_inj.mp
    rw [fm_toInt _ (by omega) (by omega), nI_toInt (by omega), nI_toInt (by have := Nat.mod_lt (x + 1) (show W > 0 by omega); omega)]
    omega
theorem SlC.fetch {π : St} {w o el el' f5 f6 f7 : Nat → Int32} {x : Nat} {v g : Int32} (h : SlC π w o el f5 f6 f7) (hx : x < 64) (he : ∀ j, ¬ j = 0 → el' j = el j) (hg : g = if v = 1 ∧ π.2 0 x = 4 ∧ 0 ≤ el' 0 then 1 else 0) : SlC π (upd w 0 (nI x)) (upd o 0 v) el' (upd f5 0 (nI x)) (upd f6 0 v) (upd f7 0 g) := by
  obtain ⟨rfl, a2, a3⟩ := h
  have hn : ¬ nI x = (-1 : Int32) := n_nm1 (by omega)
  refine ⟨rfl, fun j hj => ?_, fun j hj => ?_⟩
  · by_cases c : j = 0
    · subst c; simp only [q5, if_true]; rw [if_neg hn]
    · simp only [q5, c, if_false]; exact a2 j hj
  · by_cases c : j = 0
    · subst c
      simp only [q5, if_true, n_cl (show x < 2 ^ 31 by omega)]
      rw [hg]
      by_cases z : v = 1 ∧ π.2 0 x = 4 ∧ 0 ≤ el' 0
      · rw [if_pos z, if_pos ⟨hn, z⟩]
      · rw [if_neg z, if_neg (fun y => z y.2)]
    · simp only [q5, c, if_false]
      rw [he j c]
      exact a3 j hj
theorem RK.ft {π : St} {N R M cb cyc : Nat} {σ τ σ' τ' : St} (h : RK π N R M cb cyc σ τ) (s1 : ∀ k, k ≠ 11 → k ≠ 18 → k ≠ 19 → k ≠ 20 → σ'.1 k = σ.1 k) (t1 : ∀ k, k ≠ 11 → k ≠ 18 → k ≠ 19 → k ≠ 20 → τ'.1 k = τ.1 k) (e11 : σ'.1 11 = τ'.1 11) (e18 : σ'.1 18 = τ'.1 18) (e19 : σ'.1 19 = τ'.1 19) (e20 : σ'.1 20 = τ'.1 20)
    (s2 : ∀ k, k ≠ 5 → k ≠ 6 → k ≠ 7 → k ≠ 12 → k ≠ 13 → σ'.2 k = σ.2 k) (t2 : ∀ k, k ≠ 5 → k ≠ 6 → k ≠ 7 → k ≠ 12 → k ≠ 13 → k ≠ 16 → k ≠ 17 → k ≠ 18 → k ≠ 19 → τ'.2 k = τ.2 k) (s12 : σ'.2 12 = τ'.2 12) (s13 : σ'.2 13 = τ'.2 13)
    (hM : SlM N R M π cyc (τ'.2 5) (τ'.2 6) (τ'.2 7) (τ'.2 16) (σ.1 22)) (hC : SlC π (τ'.2 5) (τ'.2 6) (τ'.2 19) (σ'.2 5) (σ'.2 6) (σ'.2 7)) (hG : Gh π (τ'.2 5) (τ'.2 6) (τ'.2 17) (τ'.2 18) (τ'.2 19) (τ.2 14, τ.2 15) (τ'.2 12, τ'.2 13)) : RK π N R M cb cyc σ' τ' := by
  obtain ⟨k1, k2, k3, ⟨c, j1, j2, j3, j4, j5⟩, k5, k6, k7, k8⟩ := h
  refine ⟨k1.fr (fun k hk => s1 k (by omega) (by omega) (by omega) (by omega)) (fun k hk => s2 k (by omega) (by omega) (by omega) (by omega) (by omega)), k2.fr (fun k hk => t1 k (by omega) (by omega) (by omega) (by omega)) (fun k hk => t2 k (by omega) (by omega) (by omega) (by omega) (by omega) (by omega) (by omega) (by omega) (by omega)), ⟨fun k hk1 hk2 => ?_, e18, e19, e20, ?_⟩, ⟨c, j1, ?_, ?_, ?_, ?_⟩, ⟨s12, s13, ?_, ?_⟩, ?_, hC, ?_⟩
  · by_cases e : k = 11
    · subst e; exact e11
    · rw [s1 k e (by omega) (by omega) (by omega), t1 k e (by omega) (by omega) (by omega)]; exact k3.1 k hk1 hk2
  · rw [s2 11 (by decide) (by decide) (by decide) (by decide) (by decide), t2 11 (by decide) (by decide) (by decide) (by decide) (by decide) (by decide) (by decide) (by decide) (by decide)]; exact k3.2.2.2.2
  · rw [t1 10 (by decide) (by decide) (by decide) (by decide)]; exact j2
  · rw [s1 8 (by decide) (by decide) (by decide) (by decide)]; exact j3
  · rw [s1 7 (by decide) (by decide) (by decide) (by decide)]; exact j4
  · rw [s2 8 (by decide) (by decide) (by decide) (by decide) (by decide), s2 9 (by decide) (by decide) (by decide) (by decide) (by decide), s2 10 (by decide) (by decide) (by decide) (by decide) (by decide), t2 8 (by decide) (by decide) (by decide) (by decide) (by decide) (by decide) (by decide) (by decide) (by decide), t2 9 (by decide) (by decide) (by decide) (by decide) (by decide) (by decide) (by decide) (by decide) (by decide), t2 10 (by decide) (by decide) (by decide) (by decide) (by decide) (by decide) (by decide) (by decide) (by decide)]; exact j5
  · rw [s2 14 (by decide) (by decide) (by decide) (by decide) (by decide), t2 14 (by decide) (by decide) (by decide) (by decide) (by decide) (by decide) (by decide) (by decide) (by decide)]; exact k5.2.2.1
  · rw [s2 15 (by decide) (by decide) (by decide) (by decide) (by decide), t2 15 (by decide) (by decide) (by decide) (by decide) (by decide) (by decide) (by decide) (by decide) (by decide)]; exact k5.2.2.2
  · rw [s1 22 (by decide) (by decide) (by decide) (by decide)]; exact hM
  · rw [t2 14 (by decide) (by decide) (by decide) (by decide) (by decide) (by decide) (by decide) (by decide) (by decide), t2 15 (by decide) (by decide) (by decide) (by decide) (by decide) (by decide) (by decide) (by decide) (by decide)]; exact hG
/-- what the class has put before it performs -/
def cPut (σ : St) (x : Nat) (on g nx : Int32) : St := sg (sg (fX5_put σ 0 (nI x) on g) 11 ((fX5_put σ 0 (nI x) on g).1 11 + 1)) 18 nx
theorem cPut_f {σ : St} {x : Nat} {on g nx : Int32} (h1 : on = 0 ∨ on = 1) (h2 : g = 0 ∨ g = 1) : (∀ k, k ≠ 11 → k ≠ 18 → (cPut σ x on g nx).1 k = σ.1 k) ∧ (cPut σ x on g nx).1 11 = σ.1 11 + 1 ∧ (cPut σ x on g nx).1 18 = nx ∧ (∀ k, k ≠ 5 → k ≠ 6 → k ≠ 7 → (cPut σ x on g nx).2 k = σ.2 k) ∧ (cPut σ x on g nx).2 5 = upd (σ.2 5) 0 (nI x) ∧ (cPut σ x on g nx).2 6 = upd (σ.2 6) 0 on ∧ (cPut σ x on g nx).2 7 = upd (σ.2 7) 0 g := by
  have e := c_put (σ := σ) (s := 0) (by decide) (nI x) on g
  rw [nI_0, nar01 h1, nar01 h2] at e
  unfold cPut
  rw [e]
  refine ⟨fun k a b => by simp [q1, q3, a, b], by simp [q1, q3], by simp [q1], fun k a b c => by simp [q2, q4, a, b, c], by simp [q2, q4], by simp [q2, q4], by simp [q2, q4]⟩
def mPut (τ : St) (x : Nat) (on nx : Int32) : St := ar (ar (ar (ar (sg (sg τ 18 nx) 11 (τ.1 11 + 1)) 5 (upd (τ.2 5) 0 (nI x))) 6 (upd (τ.2 6) 0 on)) 7 (upd (τ.2 7) 0 0)) 16 (upd (τ.2 16) 0 0)
theorem mPut_f {τ : St} {x : Nat} {on nx : Int32} : (∀ k, k ≠ 11 → k ≠ 18 → (mPut τ x on nx).1 k = τ.1 k) ∧ (mPut τ x on nx).1 11 = τ.1 11 + 1 ∧ (mPut τ x on nx).1 18 = nx ∧ (∀ k, k ≠ 5 → k ≠ 6 → k ≠ 7 → k ≠ 16 → (mPut τ x on nx).2 k = τ.2 k) ∧ (mPut τ x on nx).2 5 = upd (τ.2 5) 0 (nI x) ∧ (mPut τ x on nx).2 6 = upd (τ.2 6) 0 on ∧ (mPut τ x on nx).2 7 = upd (τ.2 7) 0 0 ∧ (mPut τ x on nx).2 16 = upd (τ.2 16) 0 0 := by
  unfold mPut
  refine ⟨fun k a b => by simp [q1, q3, a, b], by simp [q1, q3], by simp [q1, q3], fun k a b c d => by simp [q2, q4, a, b, c, d], by simp [q2, q4], by simp [q2, q4], by simp [q2, q4], by simp [q2, q4]⟩
theorem c_fetch {π σ : St} {N R B M W x : Nat} (hc : Kc π σ) (hg : Gd π N R B M W) (hW : 1 ≤ W) (hx : x < 64) (h18 : σ.1 18 = nI x) (h21 : σ.1 21 = 0) (h20 : σ.1 20 = 0) (h5 : σ.2 5 0 = -1) (h19 : σ.1 19 = 0) {nx : Int32} (hn : (if nI W ≤ nI x + 1 then 0 else nI x + 1) = nx) :
    fX1_fetch σ = sg (sg (fX2_performA (cPut σ x 1 (if 0 ≤ pE π (σ.2 12, σ.2 13) x then 1 else 0) nx) (nI x)).2 19 (if π.2 0 x = 5 ∨ 0 ≤ pE π (σ.2 12, σ.2 13) x then 1 else 0)) 20 (if π.2 0 x = 6 then 1 else 0) := by
  have eg := c_goesA hc hg hx hW
  have e4 : 0 ≤ pE π (σ.2 12, σ.2 13) x → π.2 0 x = 4 := by
    intro z
    unfold pE at z
    by_cases y : π.2 0 x = 4 ∧ ¬ pX π (σ.2 12, σ.2 13) x = 0
    · exact y.1
    · rw [if_neg y] at z; exact absurd z (by decide)
  have e5 : fX5_wordIn σ 0 = -1 := by have := c_word (σ := σ) (s := 0) (by decide); rw [nI_0] at this; rw [this]; exact h5
  have s6 : ∀ (a b : Int32) (v : Int32), fX3_behind (sg (fX5_put σ 0 (nI x) a b) 11 v) (nI x) = nx := by
    intro a b v
    have e := c_put (σ := σ) (s := 0) (by decide) (nI x) a b
    rw [nI_0] at e
    have e6 : (sg (fX5_put σ 0 (nI x) a b) 11 v).1 6 = nI W := by
      rw [e]
      exact (hc.1 6 (by decide)).trans hg.2.2.2.2.1
    unfold fX3_behind
    rw [e6]
    exact hn
  have ek : ∀ g : Int32, (g = 0 ∨ g = 1) → fX3_kindOf (fX2_performA (cPut σ x 1 g nx) (nI x)).2 (nI x) = π.2 0 x := by
    intro g hgg
    obtain ⟨p1, p2, p3, p4, p5, p6, p7⟩ := cPut_f (σ := σ) (x := x) (nx := nx) (Or.inr rfl) hgg
    have hcp : Kc π (cPut σ x 1 g nx) := hc.fr (fun k hk => p1 k (by omega) (by omega)) (fun k hk => p4 k (by omega) (by omega) (by omega))
    obtain ⟨r1, r2, r3, r4⟩ := c_perfA hcp hg hx
    rw [c_kind hx, r2 0 (by decide) (by decide), hcp.2.2.2.1]
  unfold fX1_fetch
  simp only [h21, h20, h19, if_true, e5, h18, eg, s6]
  by_cases c : 0 ≤ pE π (σ.2 12, σ.2 13) x
  · have k4 := e4 c
    have n5 : ¬ π.2 0 x = 6 := by rw [k4]; decide
    have P : ¬ (1 : Int32) = 0 := by decide
    have k := ek 1 (Or.inr rfl)
    have Q : π.2 0 x = 5 ∨ 0 ≤ pE π (σ.2 12, σ.2 13) x := Or.inr c
    unfold cPut at k ⊢
    simp only [if_pos c, if_neg P, k, if_neg n5, if_pos Q]
  · have k := ek 0 (Or.inl rfl)
    unfold cPut at k ⊢
    simp only [if_neg c, if_true, k]
    by_cases k5 : π.2 0 x = 5
    · have n6 : ¬ π.2 0 x = 6 := by rw [k5]; decide
      have Q : π.2 0 x = 5 ∨ 0 ≤ pE π (σ.2 12, σ.2 13) x := Or.inl k5
      simp only [if_pos k5, if_neg n6, if_pos Q]
    · have Q : ¬ (π.2 0 x = 5 ∨ 0 ≤ pE π (σ.2 12, σ.2 13) x) := fun z => z.elim k5 c
      simp only [if_neg k5, if_neg Q]
      by_cases k6 : π.2 0 x = 6
      · simp only [if_pos k6]
      · simp only [if_neg k6]
set_option maxHeartbeats 1000000 in
theorem RC.fetch {π : St} {N R B M W cb cyc : Nat} {σ τ : St} (hg : Gd π N R B M W) (hW : 1 ≤ W) (h : RC π N R B M W cb cyc σ τ) : RC π N R B M W cb cyc (fX1_fetch σ) (fX8_fetch τ) := by
  have hb := hg.2.2.2.2.2.1
  obtain ⟨hk, ⟨x, hx, t18⟩, hd, hr⟩ := h
  have h0 : RC π N R B M W cb cyc σ τ := ⟨hk, ⟨x, hx, t18⟩, hd, hr⟩
  have k1 := hk.1
  have k2 := hk.2.1
  have k3 := hk.2.2.1
  have k5 := hk.2.2.2.2.1
  have k6 := hk.2.2.2.2.2.1
  have k7 := hk.2.2.2.2.2.2.1
  have k8 := hk.2.2.2.2.2.2.2
  have t6 : τ.1 6 = nI W := by rw [k2.1 6 (by decide)]; exact hg.2.2.2.2.1
  have s6 : σ.1 6 = nI W := by rw [k1.1 6 (by decide)]; exact hg.2.2.2.2.1
  have s18 : σ.1 18 = nI x := by rw [k3.2.1]; exact t18
  have e19 : σ.1 19 = τ.1 19 := k3.2.2.1
  have e20 : σ.1 20 = τ.1 20 := k3.2.2.2.1
  have e5 : fX5_wordIn σ 0 = τ.2 5 0 := by have := c_word (σ := σ) (s := 0) (by decide); rw [nI_0] at this; rw [this, k7.1]
  obtain ⟨n1, n2⟩ := nx_eq hx (by omega)
  have hnx : (x + 1) % W < W := Nat.mod_lt _ (by omega)
  generalize hxx : (x + 1) % W = x' at n1 n2 hnx
  by_cases c21 : τ.1 21 = 0
  · have a1 : fX1_fetch σ = σ := by unfold fX1_fetch; rw [if_neg (fun z => (hr.mp z) c21)]
    have a2 : fX8_fetch τ = τ := by unfold fX8_fetch; rw [if_pos c21]
    rw [a1, a2]; exact h0
  have c21' : σ.1 21 = 0 := hr.mpr c21
  by_cases c5 : τ.2 5 0 = -1
  case neg =>
    have P : (0 : Int32) ≤ τ.2 5 (0 : Int32).toNatClampNeg := by rw [n_cl0]; exact (k6.1 0 (by decide)).ge.mpr c5
    have a1 : fX1_fetch σ = σ := by
      unfold fX1_fetch
      rw [if_pos c21']
      simp only [e5, if_neg c5]
      split <;> rfl
    have a2 : fX8_fetch τ = τ := by unfold fX8_fetch; rw [if_neg c21, if_pos P]
    rw [a1, a2]; exact h0
  have P : ¬ (0 : Int32) ≤ τ.2 5 (0 : Int32).toNatClampNeg := by rw [n_cl0, c5]; decide
  have P0 : ¬ (0 : Int32) ≤ τ.2 5 0 := by rw [c5]; decide
  by_cases c20 : τ.1 20 = 0
  case neg =>
    have a1 : fX1_fetch σ = σ := by unfold fX1_fetch; rw [if_pos c21', if_neg (by rw [e20]; exact c20)]
    have a2 : fX8_fetch τ = τ := by unfold fX8_fetch; rw [if_neg c21, if_neg P, if_neg c20]
    rw [a1, a2]; exact h0
  have hx64 : x < 64 := by omega
  by_cases c19 : τ.1 19 = 0
  · have a1 := c_fetch k1 hg hW hx64 s18 c21' (by rw [e20]; exact c20) (by rw [k7.1]; exact c5) (by rw [e19]; exact c19) n1
    have a2 : fX8_fetch τ = fX8_plainRun (mPut τ x 1 (nI x')) (nI x) := by
      unfold fX8_fetch mPut
      simp only [if_neg c21, if_pos c20, if_pos c19, t18, t6, n2, n_cl0, nar0, nar1, if_neg P0]
    rw [a1, a2, k5.1, k5.2.1]
    generalize hgo : (if 0 ≤ pE π (τ.2 12, τ.2 13) x then (1 : Int32) else 0) = go
    have hgo1 : go = 0 ∨ go = 1 := by rw [← hgo]; split; exact Or.inr rfl; exact Or.inl rfl
    obtain ⟨p1, p2, p3, p4, p5, p6, p7⟩ := cPut_f (σ := σ) (x := x) (nx := nI x') (Or.inr rfl) hgo1
    obtain ⟨r1, r2, r3, r4, r5, r6, r7, r8⟩ := mPut_f (τ := τ) (x := x) (on := 1) (nx := nI x')
    have hcp : Kc π (cPut σ x 1 go (nI x')) := k1.fr (fun k hk => p1 k (by omega) (by omega)) (fun k hk => p4 k (by omega) (by omega) (by omega))
    have hmp : Km π (mPut τ x 1 (nI x')) := k2.fr (fun k hk => r1 k (by omega) (by omega)) (fun k hk => r4 k (by omega) (by omega) (by omega) (by omega))
    obtain ⟨u1, u2, u3, u4⟩ := c_perfA hcp hg hx64
    obtain ⟨v1, v2, v3, v4, v5, v6, v7, v8, v9⟩ := m_plain hmp hg hx64 hW
    rw [p4 12 (by decide) (by decide) (by decide), p4 13 (by decide) (by decide) (by decide), k5.1, k5.2.1] at u3 u4
    rw [r4 12 (by decide) (by decide) (by decide) (by decide), r4 13 (by decide) (by decide) (by decide) (by decide)] at v2 v5 v6 v7 v8 v9
    rw [r4 17 (by decide) (by decide) (by decide) (by decide)] at v7
    rw [r4 18 (by decide) (by decide) (by decide) (by decide)] at v8
    rw [r4 19 (by decide) (by decide) (by decide) (by decide)] at v9
    rw [r1 19 (by decide) (by decide), c19] at v2
    rw [r1 20 (by decide) (by decide), c20] at v3
    generalize fX2_performA (cPut σ x 1 go (nI x')) (nI x) = qq at u1 u2 u3 u4
    generalize fX8_plainRun (mPut τ x 1 (nI x')) (nI x) = τ' at v1 v2 v3 v4 v5 v6 v7 v8 v9
    have w5 : τ'.2 5 = upd (τ.2 5) 0 (nI x) := by rw [v4 5 (by decide) (by decide) (by decide) (by decide) (by decide), r5]
    have w6 : τ'.2 6 = upd (τ.2 6) 0 1 := by rw [v4 6 (by decide) (by decide) (by decide) (by decide) (by decide), r6]
    have w7 : τ'.2 7 = upd (τ.2 7) 0 0 := by rw [v4 7 (by decide) (by decide) (by decide) (by decide) (by decide), r7]
    have w16 : τ'.2 16 = upd (τ.2 16) 0 0 := by rw [v4 16 (by decide) (by decide) (by decide) (by decide) (by decide), r8]
    have el0 : τ'.2 19 0 = pE π (τ.2 12, τ.2 13) x := by rw [v9 0, if_pos rfl]
    have elj : ∀ j, ¬ j = 0 → τ'.2 19 j = τ.2 19 j := fun j hj => by rw [v9 j, if_neg hj]
    have e4 : 0 ≤ pE π (τ.2 12, τ.2 13) x → π.2 0 x = 4 := by
      intro z
      unfold pE at z
      by_cases y : π.2 0 x = 4 ∧ ¬ pX π (τ.2 12, τ.2 13) x = 0
      · exact y.1
      · rw [if_neg y] at z; exact absurd z (by decide)
    refine ⟨hk.ft (fun k a b c d => ?_) (fun k a b c d => ?_) ?_ ?_ ?_ ?_ (fun k a b c d e => ?_) (fun k a b c d e f g i j => ?_) ?_ ?_ ?_ ?_ ?_, ⟨x', hnx, ?_⟩, ?_, ?_⟩
    · simp only [q1]; rw [if_neg d, if_neg c, u1, p1 k a b]
    · rw [v1 k c d, r1 k a b]
    · simp only [q1]; rw [if_neg (by decide), if_neg (by decide), u1, p2, v1 11 (by decide) (by decide), r2, k3.1 11 (by decide) (by decide)]
    · simp only [q1]; rw [if_neg (by decide), if_neg (by decide), u1, p3, v1 18 (by decide) (by decide), r3]
    · simp only [q1]; rw [if_neg (by decide), if_pos trivial, v2]
    · simp only [q1, if_true]; rw [v3]
    · simp only [q2]; rw [u2 k d e, p4 k a b c]
    · rw [v4 k d e g i j, r4 k a b c f]
    · simp only [q2]; rw [u3, v5]
    · simp only [q2]; rw [u4, v6]
    · rw [w5, w6, w7, w16]
      exact k6.fetch (by omega) (by omega) hx64 (Or.inr rfl)
    · simp only [q2]
      rw [w5, w6, u2 5 (by decide) (by decide), u2 6 (by decide) (by decide), u2 7 (by decide) (by decide), p5, p6, p7]
      refine k7.fetch hx64 elj ?_
      rw [el0, ← hgo]
      by_cases z : 0 ≤ pE π (τ.2 12, τ.2 13) x
      · rw [if_pos z, if_pos ⟨rfl, e4 z, z⟩]
      · rw [if_neg z, if_neg (fun y => z y.2.2)]
    · rw [w5, w6, v5, v6]
      exact k8.fetch1 c5 hx64 v7 v8 v9
    · rw [v1 18 (by decide) (by decide), r3]
    · have hf : (τ'.1 19 = 0 ∨ τ'.1 19 = 1) ∧ (τ'.1 19 = 1 ↔ (π.2 0 x = 5 ∨ (π.2 0 x = 4 ∧ 0 ≤ τ'.2 19 0))) := by
        rw [v2, el0]
        by_cases z : π.2 0 x = 5 ∨ 0 ≤ pE π (τ.2 12, τ.2 13) x
        · rw [if_pos z]
          exact ⟨Or.inr rfl, fun _ => z.imp id (fun y => ⟨e4 y, y⟩), fun _ => rfl⟩
        · rw [if_neg z]
          exact ⟨Or.inl rfl, fun y => absurd y (by decide), fun y => absurd (y.imp id (fun q => q.2)) z⟩
      have := hd.fetch (i := x) (el' := τ'.2 19) (fl' := τ'.1 19) c5 hx64 elj (fun _ => hf) (fun z => absurd (c19.symm.trans z) (by decide))
      rw [w5, w6]
      rw [if_pos c19] at this
      exact this
    · simp only [q1]; rw [if_neg (by decide), if_neg (by decide), u1, p1 21 (by decide) (by decide), v1 21 (by decide) (by decide), r1 21 (by decide) (by decide)]; exact hr
  · have c19' : τ.1 19 = 1 := by rcases hd.2.1 with z | z; exact absurd z c19; exact z
    have a1 : fX1_fetch σ = cPut σ x 0 0 (nI x') := by
      have e := c_put (σ := σ) (s := 0) (by decide) (nI x) 0 0
      rw [nI_0] at e
      have eb : fX3_behind (sg (fX5_put σ 0 (nI x) 0 0) 11 ((fX5_put σ 0 (nI x) 0 0).1 11 + 1)) (nI x) = nI x' := by
        have e6 : (sg (fX5_put σ 0 (nI x) 0 0) 11 ((fX5_put σ 0 (nI x) 0 0).1 11 + 1)).1 6 = nI W := by
          rw [e]
          exact s6
        unfold fX3_behind
        rw [e6]
        exact n1
      have Q : ¬ σ.1 19 = 0 := by rw [e19]; exact c19
      have Q2 : σ.1 20 = 0 := by rw [e20]; exact c20
      unfold fX1_fetch cPut
      simp only [if_pos c21', if_pos Q2, e5, if_pos c5, if_neg Q, s18, eb]
    have a2 : fX8_fetch τ = mPut τ x 0 (nI x') := by
      unfold fX8_fetch mPut
      simp only [if_neg c21, if_pos c20, if_neg c19, t18, t6, n2, n_cl0, nar0, if_neg P0]
    rw [a1, a2]
    obtain ⟨p1, p2, p3, p4, p5, p6, p7⟩ := cPut_f (σ := σ) (x := x) (nx := nI x') (on := 0) (g := 0) (Or.inl rfl) (Or.inl rfl)
    obtain ⟨r1, r2, r3, r4, r5, r6, r7, r8⟩ := mPut_f (τ := τ) (x := x) (on := 0) (nx := nI x')
    generalize cPut σ x 0 0 (nI x') = σ' at p1 p2 p3 p4 p5 p6 p7
    generalize mPut τ x 0 (nI x') = τ' at r1 r2 r3 r4 r5 r6 r7 r8
    refine ⟨hk.ft (fun k a b c d => p1 k a b) (fun k a b c d => r1 k a b) ?_ ?_ ?_ ?_ (fun k a b c d e => p4 k a b c) (fun k a b c d e f g i j => r4 k a b c f) ?_ ?_ ?_ ?_ ?_, ⟨x', hnx, r3⟩, ?_, ?_⟩
    · rw [p2, r2, k3.1 11 (by decide) (by decide)]
    · rw [p3, r3]
    · rw [p1 19 (by decide) (by decide), r1 19 (by decide) (by decide)]; exact e19
    · rw [p1 20 (by decide) (by decide), r1 20 (by decide) (by decide)]; exact e20
    · rw [p4 12 (by decide) (by decide) (by decide), r4 12 (by decide) (by decide) (by decide) (by decide)]; exact k5.1
    · rw [p4 13 (by decide) (by decide) (by decide), r4 13 (by decide) (by decide) (by decide) (by decide)]; exact k5.2.1
    · rw [r5, r6, r7, r8]
      exact k6.fetch (by omega) (by omega) hx64 (Or.inl rfl)
    · rw [r5, r6, p5, p6, p7, r4 19 (by decide) (by decide) (by decide) (by decide)]
      refine k7.fetch hx64 (fun _ _ => rfl) ?_
      rw [if_neg (fun y => absurd y.1 (by decide))]
    · rw [r5, r6, r4 17 (by decide) (by decide) (by decide) (by decide), r4 18 (by decide) (by decide) (by decide) (by decide), r4 19 (by decide) (by decide) (by decide) (by decide), r4 12 (by decide) (by decide) (by decide) (by decide), r4 13 (by decide) (by decide) (by decide) (by decide)]
      exact k8.fetch0 c5
    · have := hd.fetch (i := x) (el' := τ.2 19) (fl' := τ.1 19) c5 hx64 (fun _ _ => rfl) (fun z => absurd z c19) (fun z => z)
      rw [r5, r6, r4 19 (by decide) (by decide) (by decide) (by decide), r1 19 (by decide) (by decide)]
      rw [if_neg c19] at this
      exact this
    · rw [p1 21 (by decide) (by decide), r1 21 (by decide) (by decide)]; exact hr
