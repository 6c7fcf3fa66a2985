/-! begin anew -/
theorem RK.mk0 {π : St} {N R M cb cyc : Nat} {σ τ : St} (hc : Kc π σ) (hm : Km π τ) (hcnt : Cnt σ τ) (hj : Jr cb σ τ) (hmm : Mm σ τ) (hw : ∀ s, s < 8 → τ.2 5 s = -1) (h5 : σ.2 5 = τ.2 5) (h6 : ∀ s, s < 8 → σ.2 6 s = 0) (h7 : ∀ s, s < 8 → σ.2 7 s = 0) (h12 : τ.2 12 = τ.2 14) (h13 : τ.2 13 = τ.2 15) (hR : R < 8) : RK π N R M cb cyc σ τ :=
  ⟨hc, hm, hcnt, hj, hmm, ⟨fun s hs => by rw [hw s hs]; exact wok_m1, fun s _ h => hw s h, fun s hs z => absurd (hw s hs) z, fun s hs z => absurd (hw s (by omega)) z, fun z => absurd (hw R hR) z⟩, ⟨h5, fun s hs => by rw [h6 s hs, if_pos (hw s hs)], fun s hs => by rw [h7 s hs, if_neg (fun z => z.1 (hw s hs))]⟩, ⟨fun _ => (τ.2 14, τ.2 15), rfl, by rw [h12, h13], fun s hs => ⟨fun z => absurd (hw s hs) z.1, fun _ => rfl⟩⟩⟩
theorem pS_out {π : St} {N R B M W : Nat} (hg : Gd π N R B M W) (g : RM) (i : Nat) : (∀ j, 8 ≤ j → (pS π g i).1 j = g.1 j) ∧ ∀ j, 64 ≤ j → (pS π g i).2 j = g.2 j := by
  unfold pS
  constructor
  · intro j hj
    show (if fX3_hasTarget (π.2 0 i) = 0 then g.1 else upd g.1 (π.2 1 i).toNatClampNeg (pV π g i)) j = g.1 j
    split
    · rfl
    · obtain ⟨k, hk, e⟩ := hg.2.2.2.2.2.2.2.2.1 i
      rw [e, n_cl (by omega), q5, if_neg (by omega)]
  · intro j hj
    show (if π.2 0 i = 2 then upd g.2 (pP π g i).toNatClampNeg (pV π g i) else g.2) j = g.2 j
    split
    · have := m_cl (m_mod64 (pX π g i)) (by decide)
      unfold pP
      rw [q5, if_neg (by omega)]
    · rfl
theorem Gh.out {π : St} {N R B M W : Nat} (hg : Gd π N R B M W) {w o vl pl el : Nat → Int32} {L A : RM} (h : Gh π w o vl pl el L A) : (∀ j, 8 ≤ j → A.1 j = L.1 j) ∧ ∀ j, 64 ≤ j → A.2 j = L.2 j := by
  obtain ⟨g, g8, g0, hh⟩ := h
  have up : ∀ d, d ≤ 8 → (∀ j, 8 ≤ j → (g (8 - d)).1 j = L.1 j) ∧ ∀ j, 64 ≤ j → (g (8 - d)).2 j = L.2 j := by
    intro d
    induction d with
    | zero => intro _; rw [show 8 - 0 = 8 from rfl, g8]; exact ⟨fun _ _ => rfl, fun _ _ => rfl⟩
    | succ d ih =>
      intro hd
      obtain ⟨i1, i2⟩ := ih (by omega)
      obtain ⟨a, b⟩ := hh (8 - (d + 1)) (by omega)
      rw [show 8 - (d + 1) + 1 = 8 - d by omega] at a b
      by_cases c : ¬ w (8 - (d + 1)) = -1 ∧ o (8 - (d + 1)) = 1
      · rw [(a c).1]
        obtain ⟨p1, p2⟩ := pS_out hg (g (8 - d)) (w (8 - (d + 1))).toNatClampNeg
        exact ⟨fun j hj => (p1 j hj).trans (i1 j hj), fun j hj => (p2 j hj).trans (i2 j hj)⟩
      · rw [b c]; exact ⟨i1, i2⟩
  have := up 8 (Nat.le_refl _)
  rw [show 8 - 8 = 0 from rfl, g0] at this
  exact this
theorem fill_eq {n : Nat} {v : Int32} {f g : Nat → Int32} (h : ∀ j, n ≤ j → f j = g j) : fillF n v f = fillF n v g := by
  funext j
  unfold fillF
  by_cases c : j < n
  · rw [if_pos c, if_pos c]
  · rw [if_neg c, if_neg c]; exact h j (by omega)
theorem fill_lt {n : Nat} {v : Int32} {f : Nat → Int32} {j : Nat} (h : j < n) : fillF n v f j = v := by unfold fillF; rw [if_pos h]
theorem m_b2 : ∀ (n i : Nat) (τ : St), i ≤ 5 → 5 < i + n → (gfX8_begin2 n τ (nI i)).1 = τ.1 ∧ (∀ k, k ≠ 11 → (gfX8_begin2 n τ (nI i)).2 k = τ.2 k) ∧ ∀ j, (gfX8_begin2 n τ (nI i)).2 11 j = if i ≤ j ∧ j < 5 then 0 else τ.2 11 j := by
  intro n
  induction n with
  | zero => intro i τ h1 h2; omega
  | succ n ih =>
    intro i τ h1 h2
    simp only [gfX8_begin2]
    by_cases c : i = 5
    · subst c
      have P : (5 : Int32) ≤ nI 5 := by decide
      rw [if_pos P]
      exact ⟨rfl, fun _ _ => rfl, fun j => by rw [if_neg (by omega)]⟩
    · have P : ¬ (5 : Int32) ≤ nI i := nI_ge (b := 5) (by omega) (by decide)
      simp only [if_neg P, nI_1, n_cl (show i < 2 ^ 31 by omega)]
      obtain ⟨a1, a2, a3⟩ := ih (i + 1) (ar τ 11 (upd (τ.2 11) i 0)) (by omega) (by omega)
      refine ⟨a1, fun k hk => by rw [a2 k hk]; simp [q4, hk], fun j => ?_⟩
      rw [a3 j]
      simp only [q4, q5, if_true]
      grind
theorem m_b1 : ∀ (n i : Nat) (τ : St), i ≤ 64 → 64 < i + n → ∃ ρ : St, gfX8_begin1 n τ (nI i) = gfX8_begin2 6 ρ 0 ∧ ρ.1 = τ.1 ∧ (∀ k, k ≠ 13 → k ≠ 15 → ρ.2 k = τ.2 k) ∧ (∀ j, ρ.2 13 j = if i ≤ j ∧ j < 64 then 0 else τ.2 13 j) ∧ ∀ j, ρ.2 15 j = if i ≤ j ∧ j < 64 then 0 else τ.2 15 j := by
  intro n
  induction n with
  | zero => intro i τ h1 h2; omega
  | succ n ih =>
    intro i τ h1 h2
    simp only [gfX8_begin1]
    by_cases c : i = 64
    · subst c
      have P : (64 : Int32) ≤ nI 64 := by decide
      simp only [if_pos P]
      exact ⟨τ, rfl, rfl, fun _ _ _ => rfl, fun j => by rw [if_neg (by omega)], fun j => by rw [if_neg (by omega)]⟩
    · have P : ¬ (64 : Int32) ≤ nI i := nI_ge (b := 64) (by omega) (by decide)
      simp only [if_neg P, nI_1, n_cl (show i < 2 ^ 31 by omega)]
      obtain ⟨ρ, e, a1, a2, a3, a4⟩ := ih (i + 1) (ar (ar τ 13 (upd (τ.2 13) i 0)) 15 (upd (τ.2 15) i 0)) (by omega) (by omega)
      refine ⟨ρ, e, a1, fun k h1 h2 => by rw [a2 k h1 h2]; simp [q4, h1, h2], fun j => ?_, fun j => ?_⟩
      · rw [a3 j]
        simp [q4, q5]
        grind
      · rw [a4 j]
        simp [q4, q5]
        grind
theorem m_b0 : ∀ (n i : Nat) (τ : St), i ≤ 8 → 8 < i + n → ∃ ρ : St, gfX8_begin0 n τ (nI i) = gfX8_begin1 65 ρ 0 ∧ ρ.1 = τ.1 ∧ (∀ k, k ≠ 5 → k ≠ 12 → k ≠ 14 → ρ.2 k = τ.2 k) ∧ (∀ j, ρ.2 5 j = if i ≤ j ∧ j < 8 then -1 else τ.2 5 j) ∧ (∀ j, ρ.2 12 j = if i ≤ j ∧ j < 8 then 0 else τ.2 12 j) ∧ ∀ j, ρ.2 14 j = if i ≤ j ∧ j < 8 then 0 else τ.2 14 j := by
  intro n
  induction n with
  | zero => intro i τ h1 h2; omega
  | succ n ih =>
    intro i τ h1 h2
    simp only [gfX8_begin0]
    by_cases c : i = 8
    · subst c
      have P : (8 : Int32) ≤ nI 8 := by decide
      simp only [if_pos P]
      exact ⟨τ, rfl, rfl, fun _ _ _ _ => rfl, fun j => by rw [if_neg (by omega)], fun j => by rw [if_neg (by omega)], fun j => by rw [if_neg (by omega)]⟩
    · have P : ¬ (8 : Int32) ≤ nI i := nI_ge (b := 8) (by omega) (by decide)
      simp only [if_neg P, nI_1, n_cl (show i < 2 ^ 31 by omega)]
      obtain ⟨ρ, e, a1, a2, a3, a4, a5⟩ := ih (i + 1) (ar (ar (ar τ 5 (upd (τ.2 5) i (-1))) 12 (upd (τ.2 12) i 0)) 14 (upd (τ.2 14) i 0)) (by omega) (by omega)
      refine ⟨ρ, e, a1, fun k h1 h2 h3 => by rw [a2 k h1 h2 h3]; simp [q4, h1, h2, h3], fun j => ?_, fun j => ?_, fun j => ?_⟩
      · rw [a3 j]
        simp [q4, q5]
        grind
      · rw [a4 j]
        simp [q4, q5]
        grind
      · rw [a5 j]
        simp [q4, q5]
        grind
def zr (k : Nat) : Prop := k = 6 ∨ (9 ≤ k ∧ k ≤ 15) ∨ k = 18 ∨ k = 19 ∨ k = 20
theorem m_begin (τ : St) : (∀ k, ¬ zr k → (fX8_begin τ).1 k = τ.1 k) ∧ (∀ k, zr k → (fX8_begin τ).1 k = 0) ∧ (∀ k, k ≠ 5 → k ≠ 11 → k ≠ 12 → k ≠ 13 → k ≠ 14 → k ≠ 15 → (fX8_begin τ).2 k = τ.2 k) ∧ (fX8_begin τ).2 5 = fillF 8 (-1) (τ.2 5) ∧ (fX8_begin τ).2 11 = fillF 5 0 (τ.2 11) ∧ (fX8_begin τ).2 12 = fillF 8 0 (τ.2 12) ∧ (fX8_begin τ).2 13 = fillF 64 0 (τ.2 13) ∧ (fX8_begin τ).2 14 = fillF 8 0 (τ.2 14) ∧ (fX8_begin τ).2 15 = fillF 64 0 (τ.2 15) := by
  unfold fX8_begin
  generalize ht : sg (sg (sg (sg (sg (sg (sg (sg (sg (sg (sg τ 6 0) 18 0) 19 0) 20 0) 15 0) 9 0) 10 0) 11 0) 12 0) 13 0) 14 0 = t
  have t2 : t.2 = τ.2 := by rw [← ht]; rfl
  have t1 : ∀ k, ¬ zr k → t.1 k = τ.1 k := fun k hk => by
    unfold zr at hk
    rw [← ht]; simp only [q1]
    rw [if_neg (by omega), if_neg (by omega), if_neg (by omega), if_neg (by omega), if_neg (by omega), if_neg (by omega), if_neg (by omega), if_neg (by omega), if_neg (by omega), if_neg (by omega), if_neg (by omega)]
  have t0 : ∀ k, zr k → t.1 k = 0 := fun k hk => by
    unfold zr at hk
    rw [← ht]
    rcases (show k = 6 ∨ k = 9 ∨ k = 10 ∨ k = 11 ∨ k = 12 ∨ k = 13 ∨ k = 14 ∨ k = 15 ∨ k = 18 ∨ k = 19 ∨ k = 20 by omega) with z | z | z | z | z | z | z | z | z | z | z <;> subst z <;> rfl
  obtain ⟨ρ0, e0, a1, a2, a3, a4, a5⟩ := m_b0 9 0 t (by decide) (by decide)
  obtain ⟨ρ1, e1, b1, b2, b3, b4⟩ := m_b1 65 0 ρ0 (by decide) (by decide)
  obtain ⟨c1, c2, c3⟩ := m_b2 6 0 ρ1 (by decide) (by decide)
  rw [nI_0] at e0 e1 c1 c2 c3
  rw [e0, e1]
  generalize gfX8_begin2 6 ρ1 0 = r at c1 c2 c3
  refine ⟨fun k hk => by rw [c1, b1, a1, t1 k hk], fun k hk => by rw [c1, b1, a1, t0 k hk], fun k h1 h2 h3 h4 h5 h6 => by rw [c2 k h2, b2 k h4 h6, a2 k h1 h3 h5, t2], ?_, ?_, ?_, ?_, ?_, ?_⟩
  · funext j; rw [c2 5 (by decide), b2 5 (by decide) (by decide), a3 j, t2]; unfold fillF; simp
  · funext j; rw [c3 j, b2 11 (by decide) (by decide), a2 11 (by decide) (by decide) (by decide), t2]; unfold fillF; simp
  · funext j; rw [c2 12 (by decide), b2 12 (by decide) (by decide), a4 j, t2]; unfold fillF; simp
  · funext j; rw [c2 13 (by decide), b3 j, a2 13 (by decide) (by decide) (by decide), t2]; unfold fillF; simp
  · funext j; rw [c2 14 (by decide), b2 14 (by decide) (by decide), a5 j, t2]; unfold fillF; simp
  · funext j; rw [c2 15 (by decide), b4 j, a2 15 (by decide) (by decide) (by decide), t2]; unfold fillF; simp
def zc (k : Nat) : Prop := (7 ≤ k ∧ k ≤ 15) ∨ (18 ≤ k ∧ k ≤ 22)
set_option maxHeartbeats 1000000 in
theorem c_begin (σ : St) : (∀ k, ¬ zc k → (fX1_beginAnew σ).1 k = σ.1 k) ∧ (∀ k, zc k → (fX1_beginAnew σ).1 k = 0) ∧ (∀ k, k ≠ 5 → k ≠ 6 → k ≠ 7 → k ≠ 11 → k ≠ 12 → k ≠ 13 → k ≠ 14 → k ≠ 15 → (fX1_beginAnew σ).2 k = σ.2 k) ∧ (fX1_beginAnew σ).2 5 = fillF 8 (-1) (σ.2 5) ∧ (∀ j, j < 8 → (fX1_beginAnew σ).2 6 j = 0) ∧ (∀ j, j < 8 → (fX1_beginAnew σ).2 7 j = 0) ∧ (fX1_beginAnew σ).2 11 = fillF 5 0 (σ.2 11) ∧ (fX1_beginAnew σ).2 12 = fillF 8 0 (σ.2 12) ∧ (fX1_beginAnew σ).2 13 = fillF 64 0 (σ.2 13) ∧ (fX1_beginAnew σ).2 14 = fillF 8 0 (σ.2 14) ∧ (fX1_beginAnew σ).2 15 = fillF 64 0 (σ.2 15) := by
  obtain ⟨-, a2, a3, a4, a5, a6⟩ := c_sq 9 0 σ 8 0 (by decide) (by decide) (by decide)
  unfold fX1_beginAnew fX5_beginAnew fX5_squashBelow fX0_beginAnew fX6_beginAnew fX2_beginAnewA fX2_beginAnewL
  rw [nI_0] at a2 a3 a4 a5 a6
  have e8 : nI 8 = 8 := rfl
  rw [e8] at a2 a3 a4 a5 a6
  generalize (gfX5_squashBelow 9 σ 8 0 0).2 = r at a2 a3 a4 a5 a6
  refine ⟨fun k hk => ?_, fun k hk => ?_, fun k h1 h2 h3 h4 h5 h6 h7 h8 => ?_, ?_, fun j hj => ?_, fun j hj => ?_, ?_, ?_, ?_, ?_, ?_⟩
  · unfold zc at hk
    simp only [q1, q3]
    rw [if_neg (by omega), if_neg (by omega), if_neg (by omega), if_neg (by omega), if_neg (by omega), if_neg (by omega), if_neg (by omega), if_neg (by omega), if_neg (by omega), if_neg (by omega), if_neg (by omega), if_neg (by omega), if_neg (by omega), if_neg (by omega), a2]
  · unfold zc at hk
    rcases (show k = 7 ∨ k = 8 ∨ k = 9 ∨ k = 10 ∨ k = 11 ∨ k = 12 ∨ k = 13 ∨ k = 14 ∨ k = 15 ∨ k = 18 ∨ k = 19 ∨ k = 20 ∨ k = 21 ∨ k = 22 by omega) with z | z | z | z | z | z | z | z | z | z | z | z | z | z <;> subst z <;> rfl
  · simp only [q2, q4]
    simp [h1, h2, h3, h4, h5, h6, h7, h8]
    exact a3 k h1 h2 h3
  · funext j
    simp [q2, q4]
    rw [a4 j]
    unfold fillF
    simp
  · simp [q2, q4]
    rw [a5 j, if_pos (by omega)]
  · simp [q2, q4]
    rw [a6 j, if_pos (by omega)]
  · simp [q2, q4, a3]
  · simp [q2, q4, a3]
  · simp [q2, q4, a3]
  · simp [q2, q4, a3]
  · simp [q2, q4, a3]
