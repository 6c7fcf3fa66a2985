/-! class beside reference inside a cycle -/
def Cnt (σ τ : St) : Prop := (∀ k, 9 ≤ k → k ≤ 15 → σ.1 k = τ.1 k) ∧ σ.1 18 = τ.1 18 ∧ σ.1 19 = τ.1 19 ∧ σ.1 20 = τ.1 20 ∧ σ.2 11 = τ.2 11
def Jr (cb : Nat) (σ τ : St) : Prop := ∃ c : Nat, c ≤ cb ∧ τ.1 10 = nI c ∧ σ.1 8 = nI (min c 400) ∧ σ.1 7 = nI (if c < 400 then 0 else c % 400) ∧ σ.2 8 = τ.2 8 ∧ σ.2 9 = τ.2 9 ∧ σ.2 10 = τ.2 10
def Mm (σ τ : St) : Prop := σ.2 12 = τ.2 12 ∧ σ.2 13 = τ.2 13 ∧ σ.2 14 = τ.2 14 ∧ σ.2 15 = τ.2 15
def RK (π : St) (N R M cb cyc : Nat) (σ τ : St) : Prop := Kc π σ ∧ Km π τ ∧ Cnt σ τ ∧ Jr cb σ τ ∧ Mm σ τ ∧ SlM N R M π cyc (τ.2 5) (τ.2 6) (τ.2 7) (τ.2 16) (σ.1 22) ∧ SlC π (τ.2 5) (τ.2 6) (τ.2 19) (σ.2 5) (σ.2 6) (σ.2 7) ∧ Gh π (τ.2 5) (τ.2 6) (τ.2 17) (τ.2 18) (τ.2 19) (τ.2 14, τ.2 15) (τ.2 12, τ.2 13)
/-- the same arrays, other counters -/
theorem RK.cnt {π : St} {N R M cb cyc : Nat} {σ τ σ' τ' : St} (h : RK π N R M cb cyc σ τ) (h1 : ∀ k, (k < 9 ∨ k = 16 ∨ k = 17 ∨ k = 22) → σ'.1 k = σ.1 k) (h2 : ∀ k, (k < 11 ∨ k = 16 ∨ k = 17 ∨ k = 22) → τ'.1 k = τ.1 k) (ha : σ'.2 = σ.2) (hb : τ'.2 = τ.2) (hc : ∀ k, 9 ≤ k → k ≤ 15 → σ'.1 k = τ'.1 k) (h18 : σ'.1 18 = τ'.1 18) (h19 : σ'.1 19 = τ'.1 19) (h20 : σ'.1 20 = τ'.1 20) : RK π N R M cb cyc σ' τ' := by
  obtain ⟨k1, k2, k3, ⟨c, j1, j2, j3, j4, j5⟩, k5, k6, k7, k8⟩ := h
  refine ⟨k1.fr (fun k hk => h1 k (by omega)) (fun k _ => by rw [ha]), k2.fr (fun k hk => h2 k (by omega)) (fun k _ => by rw [hb]), ⟨hc, h18, h19, h20, by rw [ha, hb]; exact k3.2.2.2.2⟩, ⟨c, j1, by rw [h2 10 (by simp)]; exact j2, by rw [h1 8 (by simp)]; exact j3, by rw [h1 7 (by simp)]; exact j4, by rw [ha, hb]; exact j5⟩, by unfold Mm; rw [ha, hb]; exact k5, by rw [hb, h1 22 (by simp)]; exact k6, by rw [ha, hb]; exact k7, by rw [hb]; exact k8⟩
def SqC (σ' σ : St) (s : Nat) (x : Int32) : Prop := (∀ k, k ≠ 12 → k ≠ 18 → k ≠ 19 → k ≠ 21 → σ'.1 k = σ.1 k) ∧ σ'.1 12 = σ.1 12 + cn (σ.2 5) 0 s ∧ σ'.1 18 = fX3_wordAt σ x ∧ σ'.1 19 = 0 ∧ σ'.1 21 = 1 ∧ (∀ k, k ≠ 5 → k ≠ 6 → k ≠ 7 → σ'.2 k = σ.2 k) ∧ (∀ j, σ'.2 5 j = if j < s then -1 else σ.2 5 j) ∧ (∀ j, σ'.2 6 j = if j < s then 0 else σ.2 6 j) ∧ (∀ j, σ'.2 7 j = if j < s then 0 else σ.2 7 j)
def SqM (τ' τ : St) (s : Nat) (y : Int32) : Prop := (∀ k, k ≠ 12 → k ≠ 18 → k ≠ 19 → k ≠ 21 → τ'.1 k = τ.1 k) ∧ τ'.1 12 = τ.1 12 + cn (τ.2 5) 0 s ∧ τ'.1 18 = y - y / τ.1 6 * τ.1 6 ∧ τ'.1 19 = 0 ∧ τ'.1 21 = 0 ∧ (∀ k, k ≠ 5 → τ'.2 k = τ.2 k) ∧ (∀ j, τ'.2 5 j = if j < s then -1 else τ.2 5 j)
theorem c_sgt {σ : St} {s : Nat} (hs : s ≤ 8) (x : Int32) : SqC (fX1_squashAndGoTo σ (nI s) x) σ s x := by
  obtain ⟨a1, a2, a3, a4, a5, a6⟩ := c_sq 9 0 σ s 0 (Nat.zero_le _) hs (by omega)
  unfold fX1_squashAndGoTo fX5_squashBelow
  simp only [nI_0] at a1 a2 a3 a4 a5 a6
  have e6 : ∀ v, fX3_wordAt (sg (gfX5_squashBelow 9 σ (nI s) 0 0).2 12 v) x = fX3_wordAt σ x := fun v => by
    unfold fX3_wordAt
    simp only [q1, a2]
    simp
  refine ⟨fun k b1 b2 b3 b4 => ?_, ?_, ?_, ?_, ?_, fun k b1 b2 b3 => ?_, fun j => ?_, fun j => ?_, fun j => ?_⟩
  · simp [q1, a2, b1, b2, b3, b4]
  · simp [q1, a1]
  · simp [q1, e6]
  · simp [q1]
  · simp [q1]
  · simp only [q2]; exact a3 k b1 b2 b3
  · simp only [q2]; rw [a4 j]; simp
  · simp only [q2]; rw [a5 j]; simp
  · simp only [q2]; rw [a6 j]; simp
theorem c_tb {σ : St} {s i : Nat} (hs : s ≤ 8) (hi : i < 64) : SqC (fX1_takeBranch σ (nI s) (nI i)) (sg σ 14 (σ.1 14 + 1)) s (σ.2 4 i) := by
  have e : fX1_takeBranch σ (nI s) (nI i) = fX1_squashAndGoTo (sg σ 14 (σ.1 14 + 1)) (nI s) (σ.2 4 i) := by
    unfold fX1_takeBranch
    simp only [c_num hi, q2]
  rw [e]
  exact c_sgt hs _
theorem m_sqf {τ : St} {s : Nat} (hw : ∀ j, j < 8 → wok (τ.2 5 j)) (hs : s ≤ 8) (y : Int32) : SqM (fX8_squash τ (nI s) y) τ s y := by
  obtain ⟨a1, a2, a3, a4, a5, a6, a7⟩ := m_sq 9 0 τ s y hw (Nat.zero_le _) hs (by omega)
  unfold fX8_squash
  simp only [nI_0] at a1 a2 a3 a4 a5 a6 a7
  exact ⟨a1, a2, a3, a4, a5, a6, fun j => by rw [a7 j]; simp⟩
theorem m_know {τ : St} {s : Nat} (hw : ∀ j, j < 8 → wok (τ.2 5 j)) (hs : s ≤ 8) {y : Int32} (hy : 0 ≤ y) : SqM (fX8_know τ (nI s) y) (sg τ 14 (τ.1 14 + 1)) s y := by
  have e : fX8_know τ (nI s) y = fX8_squash (sg τ 14 (τ.1 14 + 1)) (nI s) y := by
    unfold fX8_know
    rw [if_pos hy]
  rw [e]
  exact m_sqf (τ := sg τ 14 (τ.1 14 + 1)) (fun j hj => by rw [q2]; exact hw j hj) hs y
theorem cn_snoc (f : Nat → Int32) : ∀ (n i : Nat), cn f i (n + 1) = cn f i n + (if f (i + n) = -1 then 0 else 1)
  | 0, i => by show _ + 0 = 0 + _; rw [Int32.add_zero, Int32.zero_add]; rfl
  | n + 1, i => by
    show (if f i = -1 then 0 else 1) + cn f (i + 1) (n + 1) = ((if f i = -1 then 0 else 1) + cn f (i + 1) n) + _
    rw [cn_snoc f n (i + 1), Int32.add_assoc, show i + 1 + n = i + (n + 1) by omega]
/-- squashed up to one more, which is empty -/
theorem SqM.less {τ' τ : St} {s : Nat} {y : Int32} (h : SqM τ' τ (s + 1) y) (he : τ.2 5 s = -1) : SqM τ' τ s y := by
  obtain ⟨a1, a2, a3, a4, a5, a6, a7⟩ := h
  refine ⟨a1, ?_, a3, a4, a5, a6, fun j => ?_⟩
  · rw [a2, cn_snoc, Nat.zero_add, if_pos he, Int32.add_zero]
  · rw [a7 j]
    by_cases c : j = s
    · subst c; rw [if_pos (by omega), if_neg (by omega), he]
    · by_cases c2 : j < s
      · rw [if_pos (by omega), if_pos c2]
      · rw [if_neg (by omega), if_neg c2]
theorem RK.sq {π : St} {N R M cb cyc s : Nat} {σ τ σ' τ' : St} {x y : Int32} (h : RK π N R M cb cyc σ τ) (hq : SqC σ' σ s x) (hm : SqM τ' τ s y) (hxy : fX3_wordAt σ x = y - y / τ.1 6 * τ.1 6) (ha : ∀ j, j < s → j < 8 → ¬ τ.2 5 j = -1 → ¬ τ.2 6 j = 1) : RK π N R M cb cyc σ' τ' := by
  obtain ⟨k1, k2, k3, ⟨c, j1, j2, j3, j4, j5⟩, k5, k6, k7, k8⟩ := h
  obtain ⟨a1, a2, a3, a4, a5, a6, a7, a8, a9⟩ := hq
  obtain ⟨b1, b2, b3, b4, b5, b6, b7⟩ := hm
  refine ⟨k1.fr (fun k hk => a1 k (by omega) (by omega) (by omega) (by omega)) (fun k hk => a6 k (by omega) (by omega) (by omega)), k2.fr (fun k hk => b1 k (by omega) (by omega) (by omega) (by omega)) (fun k hk => b6 k (by omega)), ?_, ⟨c, j1, ?_, ?_, ?_, ?_⟩, ?_, ?_, ?_, ?_⟩
  · refine ⟨fun k h1 h2 => ?_, by rw [a3, b3, hxy], by rw [a4, b4], by rw [a1 20 (by decide) (by decide) (by decide) (by decide), b1 20 (by decide) (by decide) (by decide) (by decide)]; exact k3.2.2.2.1, by rw [a6 11 (by decide) (by decide) (by decide), b6 11 (by decide)]; exact k3.2.2.2.2⟩
    by_cases c : k = 12
    · subst c; rw [a2, b2, k3.1 12 h1 h2, k7.1]
    · rw [a1 k c (by omega) (by omega) (by omega), b1 k c (by omega) (by omega) (by omega)]; exact k3.1 k h1 h2
  · rw [b1 10 (by decide) (by decide) (by decide) (by decide)]; exact j2
  · rw [a1 8 (by decide) (by decide) (by decide) (by decide)]; exact j3
  · rw [a1 7 (by decide) (by decide) (by decide) (by decide)]; exact j4
  · rw [a6 8 (by decide) (by decide) (by decide), a6 9 (by decide) (by decide) (by decide), a6 10 (by decide) (by decide) (by decide), b6 8 (by decide), b6 9 (by decide), b6 10 (by decide)]; exact j5
  · unfold Mm
    rw [a6 12 (by decide) (by decide) (by decide), a6 13 (by decide) (by decide) (by decide), a6 14 (by decide) (by decide) (by decide), a6 15 (by decide) (by decide) (by decide), b6 12 (by decide), b6 13 (by decide), b6 14 (by decide), b6 15 (by decide)]; exact k5
  · rw [b6 6 (by decide), b6 7 (by decide), b6 16 (by decide), a1 22 (by decide) (by decide) (by decide) (by decide)]
    exact k6.squash b7
  · rw [b6 6 (by decide), b6 19 (by decide)]
    exact k7.squash b7 a7 a8 a9
  · rw [b6 6 (by decide), b6 17 (by decide), b6 18 (by decide), b6 19 (by decide), b6 14 (by decide), b6 15 (by decide), b6 12 (by decide), b6 13 (by decide)]
    exact k8.squash b7 ha
/-! a word goes on -/
theorem nar01 {x : Int32} (h : x = 0 ∨ x = 1) : vp_nar .boolean x = x := by rcases h with rfl | rfl <;> decide
theorem c_mv {σ : St} {s : Nat} (hs : s + 1 < 8) (h6 : σ.2 6 s = 0 ∨ σ.2 6 s = 1) (h7 : σ.2 7 s = 0 ∨ σ.2 7 s = 1) :
    (fX5_moveOnFrom σ (nI s)).1 = σ.1 ∧ (∀ k, k ≠ 5 → k ≠ 6 → k ≠ 7 → (fX5_moveOnFrom σ (nI s)).2 k = σ.2 k) ∧ (fX5_moveOnFrom σ (nI s)).2 5 = upd (upd (σ.2 5) (s + 1) (σ.2 5 s)) s (-1) ∧ (fX5_moveOnFrom σ (nI s)).2 6 = upd (upd (σ.2 6) (s + 1) (σ.2 6 s)) s 0 ∧ (fX5_moveOnFrom σ (nI s)).2 7 = upd (upd (σ.2 7) (s + 1) (σ.2 7 s)) s 0 := by
  have e6 : vp_nar .boolean (if σ.2 6 s = 0 then 0 else 1) = σ.2 6 s := by rcases h6 with e | e <;> rw [e] <;> decide
  have e7 : vp_nar .boolean (if σ.2 7 s = 0 then 0 else 1) = σ.2 7 s := by rcases h7 with e | e <;> rw [e] <;> decide
  unfold fX5_moveOnFrom fX5_empty
  simp only [c_word (show s < 8 by omega), c_on (show s < 8 by omega), c_go (show s < 8 by omega), nI_1, c_put (show s + 1 < 8 from hs), c_put (show s < 8 by omega), e6, e7, nar0]
  refine ⟨rfl, fun k b1 b2 b3 => by simp [q4, b1, b2, b3], by simp [q4], by simp [q4], by simp [q4]⟩
theorem m_mv {τ : St} {s : Nat} (hs : s + 1 < 8) : (fX8_moveOn τ (nI s)).1 = τ.1 ∧ (∀ k, k ≠ 5 → k ≠ 6 → k ≠ 7 → k ≠ 16 → k ≠ 17 → k ≠ 18 → k ≠ 19 → (fX8_moveOn τ (nI s)).2 k = τ.2 k) ∧ (fX8_moveOn τ (nI s)).2 5 = upd (upd (τ.2 5) (s + 1) (τ.2 5 s)) s (-1) ∧ (fX8_moveOn τ (nI s)).2 6 = upd (τ.2 6) (s + 1) (vp_nar .boolean (τ.2 6 s)) ∧ (fX8_moveOn τ (nI s)).2 7 = upd (τ.2 7) (s + 1) (vp_nar .boolean (τ.2 7 s)) ∧ (fX8_moveOn τ (nI s)).2 16 = upd (τ.2 16) (s + 1) (τ.2 16 s) ∧ (fX8_moveOn τ (nI s)).2 17 = upd (τ.2 17) (s + 1) (τ.2 17 s) ∧ (fX8_moveOn τ (nI s)).2 18 = upd (τ.2 18) (s + 1) (τ.2 18 s) ∧ (fX8_moveOn τ (nI s)).2 19 = upd (τ.2 19) (s + 1) (τ.2 19 s) := by
  unfold fX8_moveOn
  simp only [nI_1, n_cl (show s < 2 ^ 31 by omega), n_cl (show s + 1 < 2 ^ 31 by omega)]
  refine ⟨rfl, fun k b1 b2 b3 b4 b5 b6 b7 => by simp [q4, b1, b2, b3, b4, b5, b6, b7], by simp [q4], by simp [q4], by simp [q4], by simp [q4], by simp [q4], by simp [q4], by simp [q4]⟩
theorem SlM.cgb {N R M : Nat} {π : St} {cyc : Nat} {w o b b' v : Nat → Int32} {wk : Int32} (h : SlM N R M π cyc w o b v wk) (hb : ∀ j, j ≤ R → b' j = b j) : SlM N R M π cyc w o b' v wk := by
  obtain ⟨a1, a2, a3, a4, a5⟩ := h
  exact ⟨a1, a2, a3, fun j hj => by rw [hb j (by omega)]; exact a4 j hj, by rw [hb R (Nat.le_refl _)]; exact a5⟩
theorem SlC.bit {π : St} {w o el f5 f6 f7 : Nat → Int32} {s : Nat} (h : SlC π w o el f5 f6 f7) (hs : s < 8) (ho : ¬ w s = -1 → o s = 0 ∨ o s = 1) : (f6 s = 0 ∨ f6 s = 1) ∧ (f7 s = 0 ∨ f7 s = 1) := by
  rw [h.2.1 s hs, h.2.2 s hs]
  constructor
  · by_cases c : w s = -1
    · rw [if_pos c]; exact Or.inl rfl
    · rw [if_neg c]; exact ho c
  · split
    · exact Or.inr rfl
    · exact Or.inl rfl
def cMv (σ : St) (s : Nat) : St := sg (fX5_moveOnFrom σ (nI s)) 22 (if nI s + 1 = (fX5_moveOnFrom σ (nI s)).1 1 then 0 else (fX5_moveOnFrom σ (nI s)).1 22)
theorem RK.mv {π : St} {N R B M W cb cyc s : Nat} {σ τ : St} (hg : Gd π N R B M W) (h : RK π N R M cb cyc σ τ) (hs : s + 1 < N) (h1 : ¬ τ.2 5 s = -1) (h2 : τ.2 5 (s + 1) = -1) : RK π N R M cb cyc (cMv σ s) (fX8_moveOn τ (nI s)) := by
  obtain ⟨k1, k2, k3, ⟨c, j1, j2, j3, j4, j5⟩, k5, k6, k7, k8⟩ := h
  have hb := hg.2.2.2.2.2.1
  have hs8 : s + 1 < 8 := by omega
  have ho := k6.2.2.1 s (by omega) h1
  obtain ⟨i6, i7⟩ := k7.bit (s := s) (by omega) (fun _ => ho)
  obtain ⟨a1, a2, a3, a4, a5⟩ := c_mv (σ := σ) hs8 i6 i7
  obtain ⟨b1, b2, b3, b4, b5, b6, b7, b8, b9⟩ := m_mv (τ := τ) hs8
  have e1 : σ.1 1 = nI R := by rw [k1.1 1 (by decide)]; exact hg.2.1
  have ew : (cMv σ s).1 22 = (if s + 1 = R then 0 else σ.1 22) := by
    unfold cMv
    simp only [q1, a1, e1, nI_1, if_true]
    by_cases c9 : s + 1 = R
    · rw [if_pos c9, if_pos (by rw [c9])]
    · rw [if_neg c9, if_neg (fun z => c9 (n_inj (by omega) (by omega) z))]
  have es : ∀ k, k ≠ 22 → (cMv σ s).1 k = σ.1 k := fun k hk => by
    unfold cMv
    simp only [q1, a1, hk, if_false]
  have ea : ∀ k, (cMv σ s).2 k = (fX5_moveOnFrom σ (nI s)).2 k := fun k => rfl
  rw [nar01 ho] at b4
  refine ⟨k1.fr (fun k hk => es k (by omega)) (fun k hk => by rw [ea]; exact a2 k (by omega) (by omega) (by omega)), k2.fr (fun k hk => by rw [b1]) (fun k hk => b2 k (by omega) (by omega) (by omega) (by omega) (by omega) (by omega) (by omega)), ?_, ⟨c, j1, ?_, ?_, ?_, ?_⟩, ?_, ?_, ?_, ?_⟩
  · refine ⟨fun k hk1 hk2 => by rw [es k (by omega), b1]; exact k3.1 k hk1 hk2, by rw [es 18 (by decide), b1]; exact k3.2.1, by rw [es 19 (by decide), b1]; exact k3.2.2.1, by rw [es 20 (by decide), b1]; exact k3.2.2.2.1, by rw [ea, a2 11 (by decide) (by decide) (by decide), b2 11 (by decide) (by decide) (by decide) (by decide) (by decide) (by decide) (by decide)]; exact k3.2.2.2.2⟩
  · rw [b1]; exact j2
  · rw [es 8 (by decide)]; exact j3
  · rw [es 7 (by decide)]; exact j4
  · rw [ea, ea, ea, a2 8 (by decide) (by decide) (by decide), a2 9 (by decide) (by decide) (by decide), a2 10 (by decide) (by decide) (by decide), b2 8 (by decide) (by decide) (by decide) (by decide) (by decide) (by decide) (by decide), b2 9 (by decide) (by decide) (by decide) (by decide) (by decide) (by decide) (by decide), b2 10 (by decide) (by decide) (by decide) (by decide) (by decide) (by decide) (by decide)]; exact j5
  · unfold Mm
    rw [ea, ea, ea, ea, a2 12 (by decide) (by decide) (by decide), a2 13 (by decide) (by decide) (by decide), a2 14 (by decide) (by decide) (by decide), a2 15 (by decide) (by decide) (by decide), b2 12 (by decide) (by decide) (by decide) (by decide) (by decide) (by decide) (by decide), b2 13 (by decide) (by decide) (by decide) (by decide) (by decide) (by decide) (by decide), b2 14 (by decide) (by decide) (by decide) (by decide) (by decide) (by decide) (by decide), b2 15 (by decide) (by decide) (by decide) (by decide) (by decide) (by decide) (by decide)]; exact k5
  · rw [b3, b4, b5, b6, ew]
    refine (k6.move hs (by omega) h1 h2 (by omega)).cgb (fun j hj => ?_)
    simp only [q5]
    by_cases c9 : j = s + 1
    · rw [if_pos c9, if_pos c9, (k6.2.2.2.1 s (by omega) h1).1]; decide
    · rw [if_neg c9, if_neg c9]
  · rw [ea, ea, ea, a3, a4, a5, b3, b4, b9]
    exact k7.move hs8 h1
  · rw [b3, b4, b7, b8, b9, b2 14 (by decide) (by decide) (by decide) (by decide) (by decide) (by decide) (by decide), b2 15 (by decide) (by decide) (by decide) (by decide) (by decide) (by decide) (by decide), b2 12 (by decide) (by decide) (by decide) (by decide) (by decide) (by decide) (by decide), b2 13 (by decide) (by decide) (by decide) (by decide) (by decide) (by decide) (by decide)]
    exact k8.move hs8 h2
