/-! a whole cycle, and the run -/
def RB (π : St) (N R B M W cb cyc : Nat) (σ τ : St) : Prop := RK π N R M cb cyc σ τ ∧ (∃ x : Nat, x < W ∧ τ.1 18 = nI x) ∧ Dv π B (τ.2 5) (τ.2 6) (τ.2 19) (τ.1 19)
theorem RB.start {π : St} {N R B M W cb cyc : Nat} {σ τ : St} (h : RB π N R B M W cb cyc σ τ) : RC (sg π 9 (π.1 9 + 1)) N R B M W cb cyc (sg (sg σ 9 (σ.1 9 + 1)) 21 0) (sg (sg τ 9 (τ.1 9 + 1)) 21 1) := by
  obtain ⟨⟨k1, k2, k3, k4, k5, k6, k7, k8⟩, hn, hd⟩ := h
  obtain ⟨a1, a2, a3, a4⟩ := k1
  obtain ⟨b1, b2, b3, b4⟩ := k2
  obtain ⟨c1, c2⟩ := k3
  have e9 : σ.1 9 = τ.1 9 := c1 9 (by decide) (by decide)
  refine ⟨⟨⟨fun k hk => ?_, a2, a3, a4⟩, ⟨fun k hk => ?_, b2, b3, b4⟩, ⟨fun k h1 h2 => ?_, c2⟩, k4, k5, k6, k7, k8⟩, hn, hd, ?_⟩
  · simp only [q1]
    rw [if_neg (by omega), if_neg (by omega), if_neg (by omega)]
    exact a1 k hk
  · simp only [q1]
    rw [if_neg (by omega)]
    by_cases c : k = 9
    · rw [if_pos c, if_pos c, b1 9 (by decide)]
    · rw [if_neg c, if_neg c]
      exact b1 k hk
  · have n21 : ¬ k = 21 := by omega
    simp only [q1, if_neg n21]
    by_cases c : k = 9
    · simp only [if_pos c, e9]
    · simp only [if_neg c]
      exact c1 k h1 h2
  · simp only [q1, if_true]
    decide
theorem Gd.tick {π : St} {N R B M W : Nat} {x : Int32} (h : Gd π N R B M W) : Gd (sg π 9 x) N R B M W := h
theorem c_cause {σ : St} {j : Nat} (hj : j < 5) : fX6_addCause σ (nI j) = ar σ 11 (upd (σ.2 11) j (σ.2 11 j + 1)) := by
  unfold fX6_addCause
  have P : ¬ (5 : Int32) ≤ nI j := nI_ge (b := 5) hj (by decide)
  rw [if_neg (n_lt0 (by omega)), if_neg P, n_cl (by omega)]
theorem RC.cause {π : St} {N R B M W cb cyc j : Nat} {σ τ : St} (h : RC π N R B M W cb cyc σ τ) (hj : j < 5) : RB π N R B M W cb cyc (fX6_addCause σ (nI j)) (ar τ 11 (upd (τ.2 11) j (τ.2 11 j + 1))) := by
  rw [c_cause hj]
  obtain ⟨⟨k1, k2, k3, k4, k5, k6, k7, k8⟩, hn, hd, hr⟩ := h
  refine ⟨⟨k1.fr (fun k hk => rfl) (fun k hk => ?_), k2.fr (fun k hk => rfl) (fun k hk => ?_), ⟨k3.1, k3.2.1, k3.2.2.1, k3.2.2.2.1, ?_⟩, k4, k5, k6, k7, k8⟩, hn, hd⟩
  · simp only [q4]; rw [if_neg (by omega)]
  · simp only [q4]; rw [if_neg (by omega)]
  · simp only [q4, if_true]; rw [k3.2.2.2.2]
theorem RB.cycle {π : St} {N R B M W cb cyc : Nat} {σ τ : St} (hg : Gd π N R B M W) (hW : 1 ≤ W) (hcb : cb < 2 ^ 30) (hcyc : cyc < 2 ^ 30) (h : RB π N R B M W cb cyc σ τ) : RB (sg π 9 (π.1 9 + 1)) N R B M W (cb + 1) (cyc + 1) (fX1_doCycle σ) (fX8_cycle τ) := by
  have hg' : Gd (sg π 9 (π.1 9 + 1)) N R B M W := hg.tick
  obtain ⟨l1, l2⟩ := h.start.leave hg' hW hcb
  unfold fX1_doCycle fX8_cycle
  generalize fX1_leave (sg (sg σ 9 (σ.1 9 + 1)) 21 0) = p at l1 l2
  have lr := leave_r (sg (sg τ 9 (τ.1 9 + 1)) 21 1)
  generalize fX8_leave (sg (sg τ 9 (τ.1 9 + 1)) 21 1) = q at l1 l2 lr
  obtain ⟨p1, p2⟩ := p
  obtain ⟨r1, r2⟩ := q
  simp only at l1 l2 lr
  subst l1
  obtain ⟨j, hj, rfl⟩ := vp_in_of lr (by decide)
  have e15 : p2.1 15 = r2.1 15 := l2.1.2.2.1.1 15 (by decide) (by decide)
  simp only [e15, n_cl (show j < 2 ^ 31 by omega)]
  by_cases c15 : r2.1 15 = 0
  · simp only [if_pos c15]
    obtain ⟨g1, g2⟩ := l2.goOn hg' hW hcyc
    have gr := goOn_r r2
    generalize fX1_goOn p2 = p at g1 g2
    generalize fX8_goOn r2 = q at g1 g2 gr
    obtain ⟨p1, p3⟩ := p
    obtain ⟨r1, r3⟩ := q
    simp only at g1 g2 gr
    subst g1
    obtain ⟨i, hi, rfl⟩ := vp_in_of gr (by decide)
    have f := g2.fetch hg' hW
    simp only [n_cl (show i < 2 ^ 31 by omega)]
    by_cases c4 : j = 4
    · have P1 : nI j = 4 := by rw [c4]; rfl
      have P2 : (4 : Int32) ≤ nI j := by rw [P1]; decide
      simp only [if_pos P1, if_pos P2]
      exact f.cause hi
    · have P1 : ¬ nI j = 4 := fun z => c4 (n_inj (b := 4) (by omega) (by decide) z)
      have P2 : ¬ (4 : Int32) ≤ nI j := nI_ge (b := 4) (by omega) (by decide)
      simp only [if_neg P1, if_neg P2]
      exact f.cause hj
  · simp only [if_neg c15]
    exact (l2.more (by omega)).cause hj
theorem mV.le {a b : Nat} {σ : St} (h : mV a σ) (hab : a ≤ b) : mV b σ := ⟨h.1, h.2.1, h.2.2.1, h.2.2.2.1, by have := h.2.2.2.2; omega⟩
theorem Gd.mB {π τ : St} {N R B M W : Nat} (hg : Gd π N R B M W) (hm : Km π τ) (hW : 1 ≤ W) : mB τ := by
  obtain ⟨g0, g1, g4, g5, g6, hb, ⟨H, hH, g17⟩, p0, p1, p2, p3⟩ := hg
  obtain ⟨a1, a2, a3, a4⟩ := hm
  refine ⟨⟨N, R, by omega, by omega, by omega, by omega, by rw [a1 0 (by decide)]; exact g0, by rw [a1 1 (by decide)]; exact g1⟩, fun i hi => ⟨?_, ?_, ?_⟩, ?_, ?_, ?_⟩
  · obtain ⟨k, hk, e⟩ := p1 i; rw [a4 1 (by decide), e]; exact vp_in_nI hk (by decide)
  · obtain ⟨k, hk, e⟩ := p2 i; rw [a4 2 (by decide), e]; exact vp_in_nI hk (by decide)
  · obtain ⟨k, hk, e⟩ := p3 i; rw [a4 3 (by decide), e]; exact vp_in_nI hk (by decide)
  · rw [a1 6 (by decide), g6, nI_toInt (by omega)]; omega
  · rw [a1 6 (by decide), g6, nI_toInt (by omega)]; omega
  · rw [a3, g17, nI_toInt (by omega)]; omega
theorem RB.run {N R B M W X : Nat} (hW : 1 ≤ W) (hX : X ≤ 2000) : ∀ (n Y : Nat) (σ τ π : St) (cb cyc k : Nat), X - Y < n → cb + (X - Y) < 2 ^ 30 → cyc + (X - Y) < 2 ^ 30 → k + (X - Y) < 2 ^ 30 → Y ≤ X → Gd π N R B M W → π.1 9 = nI cyc → mV k τ → RB π N R B M W cb cyc σ τ →
    (gfX7_run n σ (nI X) (nI Y)).1 = (gfX8_run n τ (nI X) (nI Y)).1 ∧ ∃ (π' : St) (cb' cyc' : Nat), Gd π' N R B M W ∧ π'.1 9 = nI cyc' ∧ π'.1 16 = π.1 16 ∧ π'.1 22 = π.1 22 ∧ cb' ≤ cb + (X - Y) ∧ cyc ≤ cyc' ∧ cyc' ≤ cyc + (X - Y) ∧ mV (k + (X - Y)) (gfX8_run n τ (nI X) (nI Y)).2 ∧ (cyc' = cyc → (gfX8_run n τ (nI X) (nI Y)).2 = τ) ∧ RB π' N R B M W cb' cyc' (gfX7_run n σ (nI X) (nI Y)).2 (gfX8_run n τ (nI X) (nI Y)).2 := by
  intro n
  induction n with
  | zero => intro Y σ τ π cb cyc k h1; omega
  | succ n ih =>
    intro Y σ τ π cb cyc k h1 h2 h3 h4 hY hg h9 hv h
    have stay : ∀ v : Int32, (v = v) ∧ ∃ (π' : St) (cb' cyc' : Nat), Gd π' N R B M W ∧ π'.1 9 = nI cyc' ∧ π'.1 16 = π.1 16 ∧ π'.1 22 = π.1 22 ∧ cb' ≤ cb + (X - Y) ∧ cyc ≤ cyc' ∧ cyc' ≤ cyc + (X - Y) ∧ mV (k + (X - Y)) τ ∧ (cyc' = cyc → τ = τ) ∧ RB π' N R B M W cb' cyc' σ τ :=
      fun v => ⟨rfl, π, cb, cyc, hg, h9, rfl, rfl, by omega, by omega, by omega, hv.le (by omega), fun _ => rfl, h⟩
    by_cases c1 : X ≤ Y
    · have P : nI X ≤ nI Y := nI_le c1 (by omega)
      have e1 : gfX7_run (n + 1) σ (nI X) (nI Y) = (nI Y, σ) := by simp only [gfX7_run, if_pos P]
      have e2 : gfX8_run (n + 1) τ (nI X) (nI Y) = (nI Y, τ) := by simp only [gfX8_run, if_pos P]
      rw [e1, e2]
      exact stay _
    · have P : ¬ nI X ≤ nI Y := nI_ge (by omega) (by omega)
      have e15 : σ.1 15 = τ.1 15 := h.1.2.2.1.1 15 (by decide) (by decide)
      by_cases c2 : τ.1 15 = 0
      · have e1 : gfX7_run (n + 1) σ (nI X) (nI Y) = gfX7_run n (fX1_doCycle σ) (nI X) (nI (Y + 1)) := by simp only [gfX7_run, if_neg P, e15, if_pos c2, nI_1]
        have e2 : gfX8_run (n + 1) τ (nI X) (nI Y) = gfX8_run n (fX8_cycle τ) (nI X) (nI (Y + 1)) := by simp only [gfX8_run, if_neg P, if_pos c2, nI_1]
        rw [e1, e2]
        have hc := h.cycle hg hW (by omega) (by omega)
        have hv' := mv_fX8_cycle (hg.mB h.1.2.1 hW) hv (by omega)
        obtain ⟨a1, π', cb', cyc', b1, b2, b3, b4, b5, b6, b7, b8, b9, b10⟩ := ih (Y + 1) (fX1_doCycle σ) (fX8_cycle τ) (sg π 9 (π.1 9 + 1)) (cb + 1) (cyc + 1) (k + 1) (by omega) (by omega) (by omega) (by omega) (by omega) hg.tick (by simp only [q1, if_true]; rw [h9, nI_1]) hv' hc
        refine ⟨a1, π', cb', cyc', b1, b2, b3, b4, by omega, by omega, by omega, b8.le (by omega), fun z => by omega, b10⟩
      · have e1 : gfX7_run (n + 1) σ (nI X) (nI Y) = (nI Y, σ) := by simp only [gfX7_run, if_neg P, e15, if_neg c2]
        have e2 : gfX8_run (n + 1) τ (nI X) (nI Y) = (nI Y, τ) := by simp only [gfX8_run, if_neg P, if_neg c2]
        rw [e1, e2]
        exact stay _
