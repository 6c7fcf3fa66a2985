/-! the reading stage, and the loop of step 2 -/
def wkM (τ : St) (R : Nat) : St := ar (ar τ 7 (upd (τ.2 7) R 1)) 16 (upd (τ.2 16) R (τ.2 16 R + 1))
theorem m_cyc {π τ : St} {N R B M W i : Nat} (hg : Gd π N R B M W) (h5 : τ.1 5 = π.1 5) (h0 : τ.2 0 = π.2 0) (hi : i < 64) : fX8_cyclesOf τ (nI i) = nI (due M (π.2 0 i)) := by
  unfold fX8_cyclesOf due
  rw [h5, h0, hg.2.2.2.1, n_cl (by omega)]
  split <;> rfl
theorem c_cyc {π σ : St} {N R B M W : Nat} (hg : Gd π N R B M W) (h5 : σ.1 5 = π.1 5) (k : Int32) : fX4_cyclesToWork σ k = nI (due M k) := by
  unfold fX4_cyclesToWork due
  rw [h5, hg.2.2.2.1]
  split <;> rfl
theorem m_work {π τ : St} {N R B M W i : Nat} (hg : Gd π N R B M W) (hm : Km π τ) (hi : i < 64) (hw : τ.2 5 R = nI i) : fX8_work τ = if τ.2 7 R = 0 ∧ fX8_isReady τ (nI i) = 0 then (2, τ) else ((if nI (due M (π.2 0 i)) ≤ τ.2 16 R + 1 then 4 else 3), wkM τ R) := by
  have hb := hg.2.2.2.2.2.1
  have t1 : τ.1 1 = nI R := by rw [hm.1 1 (by decide)]; exact hg.2.1
  have cR : (nI R).toNatClampNeg = R := n_cl (by omega)
  have ec : fX8_cyclesOf (wkM τ R) (nI i) = nI (due M (π.2 0 i)) := m_cyc hg (by show τ.1 5 = _; exact hm.1 5 (by decide)) (by show τ.2 0 = _; exact hm.2.2.2 0 (by decide)) hi
  unfold wkM at ec ⊢
  unfold fX8_work
  simp only [t1, cR, hw, nar1, ec]
  by_cases c1 : τ.2 7 R = 0
  · by_cases c2 : fX8_isReady τ (nI i) = 0
    · simp only [if_pos c1, if_pos c2, if_pos (And.intro c1 c2)]
    · simp only [if_pos c1, if_neg c2, if_neg (fun z : τ.2 7 R = 0 ∧ fX8_isReady τ (nI i) = 0 => c2 z.2)]
      split <;> rfl
  · simp only [if_neg c1, if_neg (fun z : τ.2 7 R = 0 ∧ fX8_isReady τ (nI i) = 0 => c1 z.1)]
    split <;> rfl
theorem c_work {π σ : St} {N R B M W i : Nat} (hg : Gd π N R B M W) (hc : Kc π σ) (hi : i < 64) : fX1_work σ (nI i) = if σ.1 22 = 0 ∧ fX1_isReady σ (nI i) = 0 then (2, σ) else (if nI (due M (π.2 0 i)) ≤ σ.1 22 then (4, σ) else ((if nI (due M (π.2 0 i)) ≤ σ.1 22 + 1 then 4 else 3), sg σ 22 (σ.1 22 + 1))) := by
  have ek : fX3_kindOf σ (nI i) = π.2 0 i := by rw [c_kind hi, hc.2.2.2.1]
  unfold fX1_work
  simp only [ek, c_cyc hg (hc.1 5 (by decide))]
  by_cases c1 : σ.1 22 = 0
  · by_cases c2 : fX1_isReady σ (nI i) = 0
    · simp only [if_pos c1, if_pos c2, if_pos (And.intro c1 c2)]
    · simp only [if_pos c1, if_neg c2, if_neg (fun z : σ.1 22 = 0 ∧ fX1_isReady σ (nI i) = 0 => c2 z.2)]
      split
      · rfl
      · split <;> rfl
  · simp only [if_neg c1, if_neg (fun z : σ.1 22 = 0 ∧ fX1_isReady σ (nI i) = 0 => c1 z.1)]
    split
    · rfl
    · split <;> rfl
theorem SlM.work {N R M : Nat} {π : St} {cyc z : Nat} {w o b v : Nat → Int32} {wk : Int32} (h : SlM N R M π cyc w o b v wk) (hz : z ≤ cyc) : SlM N R M π (cyc + 1) w o (upd b R 1) (upd v R (nI (z + 1))) (nI (min (z + 1) (due M (π.2 0 (w R).toNatClampNeg)))) := by
  obtain ⟨a1, a2, a3, a4, a5⟩ := h
  refine ⟨a1, a2, a3, fun j hj hw => ?_, fun _ => ⟨z + 1, by omega, by simp [q5], by simp [q5], rfl⟩⟩
  simp only [q5]
  rw [if_neg (by omega), if_neg (by omega)]
  exact a4 j hj hw
theorem RK.wk {π : St} {N R M cb cyc c2 : Nat} {σ τ σ' τ' : St} (h : RK π N R M cb cyc σ τ) (hs : ∀ k, k ≠ 22 → σ'.1 k = σ.1 k) (ha : σ'.2 = σ.2) (ht : τ'.1 = τ.1) (hb : ∀ k, k ≠ 7 → k ≠ 16 → τ'.2 k = τ.2 k) (hsl : SlM N R M π c2 (τ.2 5) (τ.2 6) (τ'.2 7) (τ'.2 16) (σ'.1 22)) : RK π N R M cb c2 σ' τ' := by
  obtain ⟨k1, k2, k3, ⟨c, j1, j2, j3, j4, j5⟩, k5, k6, k7, k8⟩ := h
  refine ⟨k1.fr (fun k hk => hs k (by omega)) (fun k _ => by rw [ha]), k2.fr (fun k hk => by rw [ht]) (fun k hk => hb k (by omega) (by omega)), ⟨fun k h1 h2 => by rw [hs k (by omega), ht]; exact k3.1 k h1 h2, by rw [hs 18 (by decide), ht]; exact k3.2.1, by rw [hs 19 (by decide), ht]; exact k3.2.2.1, by rw [hs 20 (by decide), ht]; exact k3.2.2.2.1, by rw [ha, hb 11 (by decide) (by decide)]; exact k3.2.2.2.2⟩, ⟨c, j1, by rw [ht]; exact j2, by rw [hs 8 (by decide)]; exact j3, by rw [hs 7 (by decide)]; exact j4, by rw [ha, hb 8 (by decide) (by decide), hb 9 (by decide) (by decide), hb 10 (by decide) (by decide)]; exact j5⟩, ?_, ?_, ?_, ?_⟩
  · unfold Mm
    rw [ha, hb 12 (by decide) (by decide), hb 13 (by decide) (by decide), hb 14 (by decide) (by decide), hb 15 (by decide) (by decide)]; exact k5
  · rw [hb 5 (by decide) (by decide), hb 6 (by decide) (by decide)]; exact hsl
  · rw [ha, hb 5 (by decide) (by decide), hb 6 (by decide) (by decide), hb 19 (by decide) (by decide)]; exact k7
  · rw [hb 5 (by decide) (by decide), hb 6 (by decide) (by decide), hb 17 (by decide) (by decide), hb 18 (by decide) (by decide), hb 19 (by decide) (by decide), hb 14 (by decide) (by decide), hb 15 (by decide) (by decide), hb 12 (by decide) (by decide), hb 13 (by decide) (by decide)]; exact k8
theorem RC.wk {π : St} {N R B M W cb cyc c2 : Nat} {σ τ σ' τ' : St} (h : RC π N R B M W cb cyc σ τ) (hs : ∀ k, k ≠ 22 → σ'.1 k = σ.1 k) (ha : σ'.2 = σ.2) (ht : τ'.1 = τ.1) (hb : ∀ k, k ≠ 7 → k ≠ 16 → τ'.2 k = τ.2 k) (hsl : SlM N R M π c2 (τ.2 5) (τ.2 6) (τ'.2 7) (τ'.2 16) (σ'.1 22)) : RC π N R B M W cb c2 σ' τ' := by
  obtain ⟨h1, h2, h3, h4⟩ := h
  refine ⟨h1.wk hs ha ht hb hsl, by rw [ht]; exact h2, by rw [hb 5 (by decide) (by decide), hb 6 (by decide) (by decide), hb 19 (by decide) (by decide), ht]; exact h3, by rw [hs 21 (by decide), ht]; exact h4⟩
theorem RC.more {π : St} {N R B M W cb cyc c2 : Nat} {σ τ : St} (h : RC π N R B M W cb cyc σ τ) (hc : cyc ≤ c2) : RC π N R B M W cb c2 σ τ :=
  h.wk (fun _ _ => rfl) rfl rfl (fun _ _ _ => rfl) (h.1.2.2.2.2.2.1.more hc)
theorem due1 {M : Nat} (hM : 1 ≤ M ∧ M ≤ 8) (k : Int32) : 1 ≤ due M k ∧ due M k ≤ 8 := by unfold due; split <;> omega
theorem RC.work {π : St} {N R B M W cb cyc : Nat} {σ τ : St} (hg : Gd π N R B M W) (h : RC π N R B M W cb cyc σ τ) (hcyc : cyc < 2 ^ 30) (h1 : ¬ τ.2 5 R = -1) :
    (fX1_work σ (τ.2 5 R)).1 = (fX8_work τ).1 ∧ RC π N R B M W cb (cyc + 1) (fX1_work σ (τ.2 5 R)).2 (fX8_work τ).2 ∧ (fX8_work τ).2.2 5 = τ.2 5 ∧ (fX8_work τ).2.1 = τ.1 ∧ ((fX8_work τ).1 = 4 ↔ (¬ (fX8_work τ).2.2 7 R = 0 ∧ ¬ (fX8_work τ).2.2 16 R < fX8_cyclesOf (fX8_work τ).2 (τ.2 5 R))) := by
  have hb := hg.2.2.2.2.2.1
  have hk := h.1
  have k6 := hk.2.2.2.2.2.1
  obtain ⟨ei, hi⟩ := (k6.1 R (by omega)).idx h1
  obtain ⟨z, z1, z2, z3, z4⟩ := k6.2.2.2.2 h1
  have hsw := k6.work (z := z) z1
  generalize hii : (τ.2 5 R).toNatClampNeg = i at ei hi z4 hsw
  have hd := due1 (M := M) (by omega) (π.2 0 i)
  have hrd : fX1_isReady σ (nI i) = fX8_isReady τ (nI i) := ready_eq hk.1 hk.2.1 hg hk.2.2.2.2.2.2.1.1 k6.1 hi
  rw [ei, m_work hg hk.2.1 hi ei, c_work hg hk.1 hi, hrd]
  have e1 : τ.2 16 R + 1 = nI (z + 1) := by rw [z2, nI_1]
  have hwk : σ.1 22 = 0 ↔ z = 0 := by
    rw [z4, ← nI_0, nI_eq (by omega) (by decide)]; omega
  have hb7 : τ.2 7 R = 0 ↔ z = 0 := by
    rw [z3]; by_cases c : z = 0
    · simp [c]
    · simp [c]
  have hcw : fX8_cyclesOf (wkM τ R) (nI i) = nI (due M (π.2 0 i)) := m_cyc hg (by show τ.1 5 = _; exact hk.2.1.1 5 (by decide)) (by show τ.2 0 = _; exact hk.2.1.2.2.2 0 (by decide)) hi
  have w5 : (wkM τ R).2 5 = τ.2 5 := by unfold wkM; simp [q4]
  have w7 : (wkM τ R).2 7 = upd (τ.2 7) R 1 := by unfold wkM; simp [q4]
  have w16 : (wkM τ R).2 16 = upd (τ.2 16) R (nI (z + 1)) := by unfold wkM; simp [q4, e1]
  have wo : ∀ k, k ≠ 7 → k ≠ 16 → (wkM τ R).2 k = τ.2 k := fun k b1 b2 => by unfold wkM; simp [q4, b1, b2]
  have fin : ((if nI (due M (π.2 0 i)) ≤ nI (z + 1) then (4 : Int32) else 3) = 4 ↔ (¬ (wkM τ R).2 7 R = 0 ∧ ¬ (wkM τ R).2 16 R < fX8_cyclesOf (wkM τ R) (nI i))) := by
    rw [hcw, w7, w16]
    simp only [q5, if_true]
    rw [nI_ltI (by omega) (by omega)]
    by_cases c : due M (π.2 0 i) ≤ z + 1
    · rw [if_pos (nI_le c (by omega))]
      exact ⟨fun _ => ⟨by decide, by omega⟩, fun _ => rfl⟩
    · rw [if_neg (nI_ge (by omega) (by omega))]
      exact ⟨fun q => absurd q (by decide), fun q => absurd q.2 (by omega)⟩
  by_cases c0 : z = 0 ∧ fX8_isReady τ (nI i) = 0
  · rw [if_pos (And.intro (hwk.mpr c0.1) c0.2), if_pos (And.intro (hb7.mpr c0.1) c0.2)]
    refine ⟨rfl, h.more (by omega), rfl, rfl, ?_⟩
    constructor
    · intro q; exact absurd (show (2 : Int32) = 4 from q) (by decide)
    · intro q; exact absurd (hb7.mpr c0.1) q.1
  · have n1 : ¬ (σ.1 22 = 0 ∧ fX8_isReady τ (nI i) = 0) := fun q => c0 ⟨hwk.mp q.1, q.2⟩
    have n2 : ¬ (τ.2 7 R = 0 ∧ fX8_isReady τ (nI i) = 0) := fun q => c0 ⟨hb7.mp q.1, q.2⟩
    rw [if_neg n1, if_neg n2, e1]
    by_cases c1 : due M (π.2 0 i) ≤ z
    · rw [if_pos (by rw [z4]; exact nI_le (by omega) (by omega)), if_pos (nI_le (by omega) (by omega))]
      refine ⟨rfl, h.wk (fun _ _ => rfl) rfl rfl wo ?_, w5, rfl, ?_⟩
      · rw [w7, w16, z4, show min z (due M (π.2 0 i)) = min (z + 1) (due M (π.2 0 i)) by omega]
        exact hsw
      · rw [if_pos (nI_le (by omega) (by omega))] at fin
        exact fin
    · rw [if_neg (by rw [z4]; exact nI_ge (by omega) (by omega))]
      have e2 : σ.1 22 + 1 = nI (z + 1) := by rw [z4, show min z (due M (π.2 0 i)) = z by omega, nI_1]
      rw [e2]
      refine ⟨rfl, h.wk (fun k hk9 => by simp only [q1]; rw [if_neg hk9]) rfl rfl wo ?_, w5, rfl, fin⟩
      rw [w7, w16]
      have e3 : (sg σ 22 (nI (z + 1))).1 22 = nI (min (z + 1) (due M (π.2 0 i))) := by simp only [q1, if_true]; rw [show min (z + 1) (due M (π.2 0 i)) = z + 1 by omega]
      rw [e3]
      exact hsw
theorem m_mayGo {τ : St} {s : Nat} (hs : s + 1 < 8) (hw : ∀ j, j < 8 → wok (τ.2 5 j)) : fX8_mayGo τ (nI s) = if (¬ τ.2 5 s = -1 ∧ τ.2 5 (s + 1) = -1 ∧ (nI s = τ.1 1 → ¬ τ.2 7 s = 0 ∧ ¬ τ.2 16 s < fX8_cyclesOf τ (τ.2 5 s))) then 1 else 0 := by
  unfold fX8_mayGo
  simp only [nI_1, n_cl (show s < 2 ^ 31 by omega), n_cl (show s + 1 < 2 ^ 31 by omega), (hw s (by omega)).lt, (hw (s + 1) hs).lt]
  by_cases c1 : τ.2 5 s = -1
  · simp [c1]
  · by_cases c2 : τ.2 5 (s + 1) = -1
    · by_cases c3 : nI s = τ.1 1
      · rw [if_neg c1, if_pos c2, if_pos c3]
        by_cases c4 : τ.2 7 s = 0
        · rw [if_pos c4, if_neg (fun q => (q.2.2 c3).1 c4)]
        · rw [if_neg c4]
          by_cases c5 : τ.2 16 s < fX8_cyclesOf τ (τ.2 5 s)
          · rw [if_pos c5, if_neg (fun q => (q.2.2 c3).2 c5)]
          · rw [if_neg c5, if_pos ⟨c1, c2, fun _ => ⟨c4, c5⟩⟩]
      · rw [if_neg c1, if_pos c2, if_neg c3, if_pos ⟨c1, c2, fun q => absurd q c3⟩]
    · rw [if_neg c1, if_neg c2, if_neg (fun q => c2 q.2.1)]
theorem c_it {n s : Nat} {σ : St} {c : Int32} (hs : s < 8) : gfX1_goOn (n + 1) σ c (nI s) = (if fX5_wordIn σ (nI s) = -1 then gfX1_goOn n σ c (nI s + (-1)) else (if nI s = σ.1 1 then (if (fX1_work σ (fX5_wordIn σ (nI s))).1 = 4 then (if fX5_wordIn (fX1_work σ (fX5_wordIn σ (nI s))).2 (nI s + 1) = -1 then gfX1_goOn n (cGo (fX1_work σ (fX5_wordIn σ (nI s))).2 s (fX5_wordIn σ (nI s))) c (nI s + (-1)) else gfX1_goOn n (fX1_work σ (fX5_wordIn σ (nI s))).2 c (nI s + (-1))) else gfX1_goOn n (fX1_work σ (fX5_wordIn σ (nI s))).2 (fX1_work σ (fX5_wordIn σ (nI s))).1 (nI s + (-1))) else (if fX5_wordIn σ (nI s + 1) = -1 then gfX1_goOn n (cGo σ s (fX5_wordIn σ (nI s))) c (nI s + (-1)) else gfX1_goOn n σ c (nI s + (-1))))) := by
  have aux : ∀ (ρ : St) (w : Int32), (if (nI s + 1) = ((fX5_moveOnFrom ρ (nI s)).1 1) then (if nI s = ((fX5_moveOnFrom ρ (nI s)).1 4) then (if fX5_isGoing (sg (fX5_moveOnFrom ρ (nI s)) 22 0) (nI s + 1) = 0 then gfX1_goOn n (sg (fX5_moveOnFrom ρ (nI s)) 22 0) c (nI s + (-1)) else gfX1_goOn n (fX1_takeBranch (sg (fX5_moveOnFrom ρ (nI s)) 22 0) (nI s) w) c (nI s + (-1))) else gfX1_goOn n (sg (fX5_moveOnFrom ρ (nI s)) 22 0) c (nI s + (-1))) else (if nI s = ((fX5_moveOnFrom ρ (nI s)).1 4) then (if fX5_isGoing (sg (fX5_moveOnFrom ρ (nI s)) 22 ((fX5_moveOnFrom ρ (nI s)).1 22)) (nI s + 1) = 0 then gfX1_goOn n (sg (fX5_moveOnFrom ρ (nI s)) 22 ((fX5_moveOnFrom ρ (nI s)).1 22)) c (nI s + (-1)) else gfX1_goOn n (fX1_takeBranch (sg (fX5_moveOnFrom ρ (nI s)) 22 ((fX5_moveOnFrom ρ (nI s)).1 22)) (nI s) w) c (nI s + (-1))) else gfX1_goOn n (sg (fX5_moveOnFrom ρ (nI s)) 22 ((fX5_moveOnFrom ρ (nI s)).1 22)) c (nI s + (-1)))) = gfX1_goOn n (cGo ρ s w) c (nI s + (-1)) := by
    intro ρ w
    unfold cGo cMv
    by_cases c1 : (nI s + 1) = ((fX5_moveOnFrom ρ (nI s)).1 1)
    · simp only [if_pos c1]
      by_cases c2 : nI s = ((fX5_moveOnFrom ρ (nI s)).1 4)
      · simp only [if_pos c2]
        by_cases c3 : fX5_isGoing (sg (fX5_moveOnFrom ρ (nI s)) 22 0) (nI s + 1) = 0
        · simp only [if_pos c3]
        · simp only [if_neg c3]
      · simp only [if_neg c2]
    · simp only [if_neg c1]
      by_cases c2 : nI s = ((fX5_moveOnFrom ρ (nI s)).1 4)
      · simp only [if_pos c2]
        by_cases c3 : fX5_isGoing (sg (fX5_moveOnFrom ρ (nI s)) 22 ((fX5_moveOnFrom ρ (nI s)).1 22)) (nI s + 1) = 0
        · simp only [if_pos c3]
        · simp only [if_neg c3]
      · simp only [if_neg c2]
  simp only [gfX1_goOn]
  rw [if_neg (n_lt0 (by omega)), aux, aux]
theorem m_it {n s : Nat} {τ : St} {c t : Int32} (hs : s < 8) : gfX8_goOn (n + 1) τ c t (nI s) = (if nI s = τ.1 1 ∧ ¬ t = 0 ∧ ¬ τ.2 5 s < 0 then (if fX8_mayGo (fX8_work τ).2 (nI s) = 0 then gfX8_goOn n (fX8_work τ).2 (fX8_work τ).1 t (nI s + (-1)) else gfX8_goOn n (mGo (fX8_work τ).2 s) (fX8_work τ).1 t (nI s + (-1))) else (if fX8_mayGo τ (nI s) = 0 then gfX8_goOn n τ c t (nI s + (-1)) else gfX8_goOn n (mGo τ s) c t (nI s + (-1)))) := by
  have cs : (nI s).toNatClampNeg = s := n_cl (by omega)
  have aux : ∀ (ρ : St) (c : Int32), (if nI s = ρ.1 4 then (if ρ.2 6 s = 0 then gfX8_goOn n (fX8_moveOn ρ (nI s)) c t (nI s + (-1)) else (if ρ.2 0 (ρ.2 5 s).toNatClampNeg = 4 then gfX8_goOn n (fX8_know (fX8_moveOn ρ (nI s)) (nI s) ((fX8_moveOn ρ (nI s)).2 19 (nI s + 1).toNatClampNeg)) c t (nI s + (-1)) else gfX8_goOn n (fX8_moveOn ρ (nI s)) c t (nI s + (-1)))) else gfX8_goOn n (fX8_moveOn ρ (nI s)) c t (nI s + (-1))) = gfX8_goOn n (mGo ρ s) c t (nI s + (-1)) := by
    intro ρ c
    unfold mGo
    by_cases c1 : nI s = ρ.1 4
    · simp only [if_pos c1]
      by_cases c2 : ρ.2 6 s = 0
      · simp only [if_pos c2]
      · simp only [if_neg c2]
        by_cases c3 : ρ.2 0 (ρ.2 5 s).toNatClampNeg = 4
        · simp only [if_pos c3]
        · simp only [if_neg c3]
    · simp only [if_neg c1]
  simp only [gfX8_goOn]
  rw [if_neg (n_lt0 (by omega))]
  simp only [cs]
  simp only [aux]
  by_cases c1 : nI s = τ.1 1
  · rw [if_pos c1]
    by_cases c2 : t = 0
    · have P : ¬ (nI s = τ.1 1 ∧ ¬ t = 0 ∧ ¬ τ.2 5 s < 0) := fun q => q.2.1 c2
      simp only [if_pos c2, if_neg P]
    · simp only [if_neg c2]
      by_cases c3 : τ.2 5 s < 0
      · have P : ¬ (nI s = τ.1 1 ∧ ¬ t = 0 ∧ ¬ τ.2 5 s < 0) := fun q => q.2.2 c3
        simp only [if_pos c3, if_neg P]
      · have P : nI s = τ.1 1 ∧ ¬ t = 0 ∧ ¬ τ.2 5 s < 0 := ⟨c1, c2, c3⟩
        simp only [if_neg c3, if_pos P]
  · have P : ¬ (nI s = τ.1 1 ∧ ¬ t = 0 ∧ ¬ τ.2 5 s < 0) := fun q => c1 q.1
    simp only [if_neg c1, if_neg P]
theorem may_y {τ : St} {s : Nat} (hs : s + 1 < 8) (hw : ∀ j, j < 8 → wok (τ.2 5 j)) (h1 : ¬ τ.2 5 s = -1) (h2 : τ.2 5 (s + 1) = -1) (h3 : nI s = τ.1 1 → ¬ τ.2 7 s = 0 ∧ ¬ τ.2 16 s < fX8_cyclesOf τ (τ.2 5 s)) : ¬ fX8_mayGo τ (nI s) = 0 := by
  rw [m_mayGo hs hw, if_pos ⟨h1, h2, h3⟩]; decide
theorem may_n {τ : St} {s : Nat} (hs : s + 1 < 8) (hw : ∀ j, j < 8 → wok (τ.2 5 j)) (h : ¬ τ.2 5 s = -1 → τ.2 5 (s + 1) = -1 → (nI s = τ.1 1 → ¬ τ.2 7 s = 0 ∧ ¬ τ.2 16 s < fX8_cyclesOf τ (τ.2 5 s)) → False) : fX8_mayGo τ (nI s) = 0 := by
  rw [m_mayGo hs hw, if_neg (fun q => h q.1 q.2.1 q.2.2)]
