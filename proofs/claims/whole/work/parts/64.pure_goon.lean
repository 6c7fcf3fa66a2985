/-! step 2 of a cycle on both sides -/
def RC (π : St) (N R B M W cb cyc : Nat) (σ τ : St) : Prop := RK π N R M cb cyc σ τ ∧ (∃ x : Nat, x < W ∧ τ.1 18 = nI x) ∧ Dv π B (τ.2 5) (τ.2 6) (τ.2 19) (τ.1 19) ∧ (σ.1 21 = 0 ↔ ¬ τ.1 21 = 0)
theorem RK.tb {π : St} {N R B M W cb cyc s i : Nat} {σ τ : St} (hg : Gd π N R B M W) (hW : 1 ≤ W) (h : RK π N R M cb cyc σ τ) (hs : s ≤ 8) (hi : i < 64) (ha : ∀ j, j < s → j < 8 → ¬ τ.2 5 j = -1 → ¬ τ.2 6 j = 1)
    (hd : ∀ w' : Nat → Int32, (∀ j, w' j = if j < s then -1 else τ.2 5 j) → Dv π B w' (τ.2 6) (τ.2 19) 0) {y : Int32} (hy : y = fX8_modulo (π.2 4 i) (π.1 6)) : RC π N R B M W cb cyc (fX1_takeBranch σ (nI s) (nI i)) (fX8_know τ (nI s) y) := by
  have hb := hg.2.2.2.2.2.1
  have e6 : τ.1 6 = nI W := by rw [h.2.1.1 6 (by decide)]; exact hg.2.2.2.2.1
  have s6 : σ.1 6 = nI W := by rw [h.1.1 6 (by decide)]; exact hg.2.2.2.2.1
  have e4 : σ.2 4 = π.2 4 := h.1.2.2.2.2.1
  have hy2 : y = fX8_modulo (π.2 4 i) (nI W) := by rw [hy, hg.2.2.2.2.1]
  have hge : 0 ≤ y := by rw [hy2]; exact md_ge _ (by omega) (by omega)
  have h14 : RK π N R M cb cyc (sg σ 14 (σ.1 14 + 1)) (sg τ 14 (τ.1 14 + 1)) := by
    refine h.cnt (fun k hk => ?_) (fun k hk => ?_) rfl rfl (fun k h1 h2 => ?_) h.2.2.1.2.1 h.2.2.1.2.2.1 h.2.2.1.2.2.2.1
    · simp only [q1]; rw [if_neg (by omega)]
    · simp only [q1]; rw [if_neg (by omega)]
    · simp only [q1]
      by_cases c : k = 14
      · rw [if_pos c, if_pos c, h.2.2.1.1 14 (by decide) (by decide)]
      · rw [if_neg c, if_neg c]; exact h.2.2.1.1 k h1 h2
  have hq := c_tb (σ := σ) hs hi
  have hm := m_know (τ := τ) h.2.2.2.2.2.1.1 hs hge
  have hfm : y - y / nI W * nI W = fm (π.2 4 i) (nI W) := by rw [hy2]; exact md_fm _ (by omega) (by omega)
  have t6 : (sg τ 14 (τ.1 14 + 1)).1 6 = nI W := e6
  have hxy : fX3_wordAt (sg σ 14 (σ.1 14 + 1)) (σ.2 4 i) = y - y / (sg τ 14 (τ.1 14 + 1)).1 6 * (sg τ 14 (τ.1 14 + 1)).1 6 := by
    rw [t6, hfm]
    unfold fX3_wordAt
    rw [show (sg σ 14 (σ.1 14 + 1)).1 6 = nI W from s6, if_neg (nI_nle (by omega) (by omega)), e4]
  refine ⟨h14.sq hq hm hxy ha, ?_, ?_, ?_⟩
  · obtain ⟨-, -, m3, -⟩ := hm
    obtain ⟨j, hj, ej, -⟩ := fm_nat (π.2 4 i) (k := W) (by omega) (by omega)
    exact ⟨j, hj, by rw [m3, t6, hfm, ej]⟩
  · obtain ⟨-, -, -, m4, -, m6, m7⟩ := hm
    rw [m6 6 (by decide), m6 19 (by decide), m4]
    exact hd _ m7
  · rw [hq.2.2.2.2.1, hm.2.2.2.2.1]; decide
theorem Dv.moveB {π : St} {B : Nat} {w o el w' : Nat → Int32} {fl : Int32} (h : Dv π B w o el fl) (hs : B + 1 < 8) (h1 : ¬ w B = -1) (ho : o B = 1) (hk : π.2 0 (w B).toNatClampNeg = 4) (he : 0 ≤ el B) (hw : ∀ j, w' j = if j < B then -1 else upd (upd w (B + 1) (w B)) B (-1) j) : Dv π B w' (upd o (B + 1) (o B)) (upd el (B + 1) (el B)) 0 := by
  have hd : dvv π B w o el B := ⟨h1, ho, Or.inr ⟨hk, he, Nat.le_refl _⟩⟩
  obtain ⟨b1, b2⟩ := h.below (by omega) hd
  obtain ⟨a1, a2, a3⟩ := h
  have wB : w' (B + 1) = w B := by rw [hw, if_neg (by omega)]; simp [q5]
  have wO : ∀ j, B + 1 < j → w' j = w j := fun j hj => by
    rw [hw, if_neg (by omega)]
    simp only [q5]
    rw [if_neg (by omega), if_neg (by omega)]
  have wL : ∀ j, j ≤ B → w' j = -1 := fun j hj => by
    rw [hw]
    by_cases c : j < B
    · rw [if_pos c]
    · rw [if_neg c, show j = B by omega]; simp [q5]
  have o1 : ∀ f : Nat → Int32, upd f (B + 1) (f B) (B + 1) = f B := fun f => by simp [q5]
  have o2 : ∀ (f : Nat → Int32) (j : Nat), B + 1 < j → upd f (B + 1) (f B) j = f j := fun f j hj => by
    simp only [q5]; rw [if_neg (by omega)]
  have k : ∀ t, t < 8 → ¬ dvv π B w' (upd o (B + 1) (o B)) (upd el (B + 1) (el B)) t := by
    intro t ht z
    by_cases c1 : t ≤ B
    · exact z.1 (wL t c1)
    · by_cases c2 : t = B + 1
      · subst c2
        obtain ⟨-, -, z3⟩ := z
        rw [wB, hk] at z3
        rcases z3 with z3 | ⟨-, -, z3⟩
        · exact absurd z3 (by decide)
        · omega
      · apply b2 t (by omega) ht
        unfold dvv at z ⊢
        rw [wO t (by omega), o2 _ t (by omega), o2 _ t (by omega)] at z
        exact z
  refine ⟨fun j hj hwj => ?_, Or.inl rfl, ?_⟩
  · by_cases c1 : j ≤ B
    · exact absurd (wL j c1) hwj
    · constructor
      · intro z
        by_cases c2 : j = B + 1
        · subst c2; rw [o1, ho] at z; exact absurd z (by decide)
        · rw [o2 _ j (by omega)] at z
          rw [wO j (by omega)] at hwj
          obtain ⟨t, p1, p2, p3⟩ := (a1 j hj hwj).mp z
          exact absurd p3 (b2 t (by omega) p2)
      · rintro ⟨t, p1, p2, p3⟩; exact absurd p3 (k t p2)
  · constructor
    · intro z; exact absurd z (by decide)
    · rintro ⟨t, p2, p3⟩; exact absurd p3 (k t p2)
def cGo (σ : St) (s : Nat) (w : Int32) : St := if nI s = (fX5_moveOnFrom σ (nI s)).1 4 then (if fX5_isGoing (cMv σ s) (nI s + 1) = 0 then cMv σ s else fX1_takeBranch (cMv σ s) (nI s) w) else cMv σ s
def mGo (τ : St) (s : Nat) : St := if nI s = τ.1 4 then (if τ.2 6 s = 0 then fX8_moveOn τ (nI s) else (if τ.2 0 (τ.2 5 s).toNatClampNeg = 4 then fX8_know (fX8_moveOn τ (nI s)) (nI s) ((fX8_moveOn τ (nI s)).2 19 (nI s + 1).toNatClampNeg) else fX8_moveOn τ (nI s))) else fX8_moveOn τ (nI s)
theorem RC.go {π : St} {N R B M W cb cyc s : Nat} {σ τ : St} (hg : Gd π N R B M W) (hW : 1 ≤ W) (h : RC π N R B M W cb cyc σ τ) (hs : s + 1 < N) (h1 : ¬ τ.2 5 s = -1) (h2 : τ.2 5 (s + 1) = -1) : RC π N R B M W cb cyc (cGo σ s (τ.2 5 s)) (mGo τ s) := by
  have hb := hg.2.2.2.2.2.1
  have hs8 : s + 1 < 8 := by omega
  obtain ⟨hk, hn, hd, hr⟩ := h
  have hmv := hk.mv hg hs h1 h2
  have k6 := hk.2.2.2.2.2.1
  have k7 := hk.2.2.2.2.2.2.1
  have ho := k6.2.2.1 s (by omega) h1
  obtain ⟨i6, i7⟩ := k7.bit (s := s) (by omega) (fun _ => ho)
  obtain ⟨a1, a2, a3, a4, a5⟩ := c_mv (σ := σ) hs8 i6 i7
  obtain ⟨b1, b2, b3, b4, b5, b6, b7, b8, b9⟩ := m_mv (τ := τ) hs8
  rw [nar01 ho] at b4
  have e4 : τ.1 4 = nI B := by rw [hk.2.1.1 4 (by decide)]; exact hg.2.2.1
  have s4 : (fX5_moveOnFrom σ (nI s)).1 4 = nI B := by rw [a1, hk.1.1 4 (by decide)]; exact hg.2.2.1
  have k0 : τ.2 0 = π.2 0 := hk.2.1.2.2.2 0 (by decide)
  have em : ∀ (hnb : ¬ (s = B ∧ τ.2 6 s = 1 ∧ π.2 0 (τ.2 5 s).toNatClampNeg = 4 ∧ 0 ≤ τ.2 19 s)), RC π N R B M W cb cyc (cMv σ s) (fX8_moveOn τ (nI s)) := by
    intro hnb
    refine ⟨hmv, by rw [b1]; exact hn, ?_, ?_⟩
    · rw [b3, b4, b9, b1]
      exact hd.move hs8 h1 h2 hnb
    · rw [b1]
      show (cMv σ s).1 21 = 0 ↔ _
      unfold cMv
      simp only [q1, a1]
      exact hr
  unfold cGo mGo
  rw [s4, e4]
  by_cases c : s = B
  · subst c
    rw [if_pos rfl, if_pos rfl]
    have eg : fX5_isGoing (cMv σ s) (nI s + 1) = if (¬ τ.2 5 s = -1 ∧ τ.2 6 s = 1 ∧ π.2 0 (τ.2 5 s).toNatClampNeg = 4 ∧ 0 ≤ τ.2 19 s) then 1 else 0 := by
      rw [nI_1, c_go hs8]
      have e7 : (cMv σ s).2 7 (s + 1) = σ.2 7 s := by
        show (fX5_moveOnFrom σ (nI s)).2 7 (s + 1) = _
        rw [a5]; simp [q5]
      rw [e7, k7.2.2 s (by omega)]
      split <;> simp
    rw [eg, k0]
    by_cases cg : ¬ τ.2 5 s = -1 ∧ τ.2 6 s = 1 ∧ π.2 0 (τ.2 5 s).toNatClampNeg = 4 ∧ 0 ≤ τ.2 19 s
    · rw [if_pos cg, if_neg (by decide), if_neg (by rw [cg.2.1]; decide), if_pos cg.2.2.1]
      obtain ⟨ei, hi⟩ := (k6.1 s (by omega)).idx h1
      have hdv : dvv π s (τ.2 5) (τ.2 6) (τ.2 19) s := ⟨h1, cg.2.1, Or.inr ⟨cg.2.2.1, cg.2.2.2, Nat.le_refl _⟩⟩
      have hbl := (hd.below (by omega) hdv).1
      obtain ⟨g, g8, g0, hgh⟩ := hk.2.2.2.2.2.2.2
      have hel := ((hgh s (by omega)).1 ⟨h1, cg.2.1⟩).2.2.2
      have hy : (fX8_moveOn τ (nI s)).2 19 (nI s + 1).toNatClampNeg = fX8_modulo (π.2 4 (τ.2 5 s).toNatClampNeg) (π.1 6) := by
        rw [nI_1, n_cl (by omega), b9]
        simp only [q5, if_true]
        rw [hel]
        unfold pE
        by_cases cx : pX π (g (s + 1)) (τ.2 5 s).toNatClampNeg = 0
        · exfalso
          have := cg.2.2.2
          rw [hel] at this
          unfold pE at this
          rw [if_neg (fun z => z.2 cx)] at this
          exact absurd this (by decide)
        · rw [if_pos ⟨cg.2.2.1, cx⟩]
      have fin : RC π N R s M W cb cyc (fX1_takeBranch (cMv σ s) (nI s) (nI (τ.2 5 s).toNatClampNeg)) (fX8_know (fX8_moveOn τ (nI s)) (nI s) ((fX8_moveOn τ (nI s)).2 19 (nI s + 1).toNatClampNeg)) := by
       refine RK.tb hg hW hmv (by omega) hi (fun j hj hj8 hw => ?_) (fun w' hw' => ?_) hy
       · rw [b3] at hw
         rw [b4]
         simp only [q5] at hw ⊢
         rw [if_neg (by omega), if_neg (by omega)] at hw
         rw [if_neg (by omega)]
         exact hbl j hj hj8 hw
       · rw [b4, b9]
         rw [b3] at hw'
         exact hd.moveB hs8 h1 cg.2.1 cg.2.2.1 cg.2.2.2 hw'
      rw [← ei] at fin
      exact fin
    · rw [if_neg cg, if_pos rfl]
      have hnb : ¬ (s = s ∧ τ.2 6 s = 1 ∧ π.2 0 (τ.2 5 s).toNatClampNeg = 4 ∧ 0 ≤ τ.2 19 s) := fun z => cg ⟨h1, z.2⟩
      have hE := em hnb
      by_cases c1 : τ.2 6 s = 0
      · rw [if_pos c1]; exact hE
      · rw [if_neg c1]
        by_cases c2 : π.2 0 (τ.2 5 s).toNatClampNeg = 4
        · rw [if_pos c2]
          have c3 : ¬ 0 ≤ (fX8_moveOn τ (nI s)).2 19 (nI s + 1).toNatClampNeg := by
            rw [nI_1, n_cl (by omega), b9]
            simp only [q5, if_true]
            intro z
            rcases ho with o1 | o1
            · exact c1 o1
            · exact cg ⟨h1, o1, c2, z⟩
          unfold fX8_know
          rw [if_neg c3]
          exact hE
        · rw [if_neg c2]; exact hE
  · have cn : ¬ nI s = nI B := fun z => c (n_inj (by omega) (by omega) z)
    rw [if_neg cn, if_neg cn]
    exact em (fun z => c z.1)
