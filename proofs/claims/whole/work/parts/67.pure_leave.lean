/-! step 1 of a cycle on both sides -/
theorem c_append {ρ : St} (a b c : Int32) : (∀ k, k ≠ 7 → k ≠ 8 → (fX0_append ρ a b c).1 k = ρ.1 k) ∧ (fX0_append ρ a b c).1 7 = (if 400 ≤ ρ.1 8 then fm (ρ.1 7 + 1) 400 else ρ.1 7) ∧ (fX0_append ρ a b c).1 8 = (if 400 ≤ ρ.1 8 then ρ.1 8 else ρ.1 8 + 1) ∧
    (∀ k, k ≠ 8 → k ≠ 9 → k ≠ 10 → (fX0_append ρ a b c).2 k = ρ.2 k) ∧ (fX0_append ρ a b c).2 8 = upd (ρ.2 8) (fm (ρ.1 7 + ρ.1 8) 400).toNatClampNeg a ∧ (fX0_append ρ a b c).2 9 = upd (ρ.2 9) (fm (ρ.1 7 + ρ.1 8) 400).toNatClampNeg b ∧ (fX0_append ρ a b c).2 10 = upd (ρ.2 10) (fm (ρ.1 7 + ρ.1 8) 400).toNatClampNeg c := by
  unfold fX0_append
  by_cases h : 400 ≤ ρ.1 8
  · simp only [if_pos h]
    refine ⟨fun k h1 h2 => by simp [q1, q3, h1], by simp [q1], by simp [q1, q3], fun k h1 h2 h3 => by simp [q2, q4, h1, h2, h3], by simp [q2, q4], by simp [q2, q4], by simp [q2, q4]⟩
  · simp only [if_neg h]
    refine ⟨fun k h1 h2 => by simp [q1, q3, h2], by simp [q1, q3], by simp [q1], fun k h1 h2 h3 => by simp [q2, q4, h1, h2, h3], by simp [q2, q4], by simp [q2, q4], by simp [q2, q4]⟩
theorem jr_at {c : Nat} (hc : c < 2 ^ 30) : fm (nI (if c < 400 then 0 else c % 400) + nI (min c 400)) 400 = nI (c % 400) ∧ nI c - nI c / 400 * 400 = nI (c % 400) := by
  constructor
  · rw [nI_add]
    apply Int32.toInt_inj.mp
    show (fm _ (nI 400)).toInt = _
    rw [fm_toInt _ (by decide) (by decide), nI_toInt (by split <;> omega), nI_toInt (by omega)]
    split <;> omega
  · show nI c - nI c / nI 400 * nI 400 = _
    rw [rm_eq _ (by decide) (by decide) (by rw [nI_toInt (by omega)]; omega)]
    apply Int32.toInt_inj.mp
    rw [fm_toInt _ (by decide) (by decide), nI_toInt (by omega), nI_toInt (by omega)]
    omega
theorem jr_next {c : Nat} (hc : c < 2 ^ 30) : (if (400 : Int32) ≤ nI (min c 400) then fm (nI (if c < 400 then 0 else c % 400) + 1) 400 else nI (if c < 400 then 0 else c % 400)) = nI (if c + 1 < 400 then 0 else (c + 1) % 400) ∧ (if (400 : Int32) ≤ nI (min c 400) then nI (min c 400) else nI (min c 400) + 1) = nI (min (c + 1) 400) := by
  by_cases h : c < 400
  · have n1 : ¬ (400 : Int32) ≤ nI (min c 400) := nI_ge (b := 400) (by omega) (by decide)
    rw [if_neg n1, if_neg n1, nI_1, if_pos h]
    refine ⟨?_, by congr 1; omega⟩
    by_cases h2 : c + 1 < 400
    · rw [if_pos h2]
    · rw [if_neg h2, show c + 1 = 400 by omega]
  · have n1 : (400 : Int32) ≤ nI (min c 400) := nI_le (a := 400) (by omega) (by omega)
    rw [if_pos n1, if_pos n1, if_neg h, if_neg (by omega), nI_1]
    refine ⟨?_, by congr 1; omega⟩
    apply Int32.toInt_inj.mp
    show (fm _ (nI 400)).toInt = _
    rw [fm_toInt _ (by decide) (by decide), nI_toInt (by omega), nI_toInt (by omega)]
    omega
theorem c_commit {π σ : St} {N R B M W i K : Nat} (hc : Kc π σ) (hg : Gd π N R B M W) (hi : i < 64) (hK : K < 8) :
    (∀ k, k ≠ 7 → k ≠ 8 → k ≠ 10 → k ≠ 15 → (fX1_commit (fX5_empty σ (nI K)) (nI i)).1 k = σ.1 k) ∧ (fX1_commit (fX5_empty σ (nI K)) (nI i)).1 10 = σ.1 10 + 1 ∧ (fX1_commit (fX5_empty σ (nI K)) (nI i)).1 15 = (if π.2 0 i = 6 then 1 else σ.1 15) ∧
    (fX1_commit (fX5_empty σ (nI K)) (nI i)).1 7 = (if 400 ≤ σ.1 8 then fm (σ.1 7 + 1) 400 else σ.1 7) ∧ (fX1_commit (fX5_empty σ (nI K)) (nI i)).1 8 = (if 400 ≤ σ.1 8 then σ.1 8 else σ.1 8 + 1) ∧
    (∀ k, k ≠ 5 → k ≠ 6 → k ≠ 7 → k ≠ 8 → k ≠ 9 → k ≠ 10 → k ≠ 14 → k ≠ 15 → (fX1_commit (fX5_empty σ (nI K)) (nI i)).2 k = σ.2 k) ∧
    (fX1_commit (fX5_empty σ (nI K)) (nI i)).2 5 = upd (σ.2 5) K (-1) ∧ (fX1_commit (fX5_empty σ (nI K)) (nI i)).2 6 = upd (σ.2 6) K 0 ∧ (fX1_commit (fX5_empty σ (nI K)) (nI i)).2 7 = upd (σ.2 7) K 0 ∧
    (fX1_commit (fX5_empty σ (nI K)) (nI i)).2 8 = upd (σ.2 8) (fm (σ.1 7 + σ.1 8) 400).toNatClampNeg (nI i) ∧ (fX1_commit (fX5_empty σ (nI K)) (nI i)).2 9 = upd (σ.2 9) (fm (σ.1 7 + σ.1 8) 400).toNatClampNeg (σ.1 9) ∧ (fX1_commit (fX5_empty σ (nI K)) (nI i)).2 10 = upd (σ.2 10) (fm (σ.1 7 + σ.1 8) 400).toNatClampNeg (pV π (σ.2 14, σ.2 15) i) ∧
    (fX1_commit (fX5_empty σ (nI K)) (nI i)).2 14 = (pS π (σ.2 14, σ.2 15) i).1 ∧ (fX1_commit (fX5_empty σ (nI K)) (nI i)).2 15 = (pS π (σ.2 14, σ.2 15) i).2 := by
  have ee : fX5_empty σ (nI K) = ar (ar (ar σ 5 (upd (σ.2 5) K (-1))) 6 (upd (σ.2 6) K 0)) 7 (upd (σ.2 7) K 0) := by
    unfold fX5_empty
    simp only [c_put hK, nar0]
  rw [ee]
  generalize hρ : ar (ar (ar σ 5 (upd (σ.2 5) K (-1))) 6 (upd (σ.2 6) K 0)) 7 (upd (σ.2 7) K 0) = ρ
  have r1 : ρ.1 = σ.1 := by rw [← hρ]; rfl
  have r2 : ∀ k, k ≠ 5 → k ≠ 6 → k ≠ 7 → ρ.2 k = σ.2 k := fun k h1 h2 h3 => by rw [← hρ]; simp [q4, h1, h2, h3]
  have r5 : ρ.2 5 = upd (σ.2 5) K (-1) := by rw [← hρ]; simp [q4]
  have r6 : ρ.2 6 = upd (σ.2 6) K 0 := by rw [← hρ]; simp [q4]
  have r7 : ρ.2 7 = upd (σ.2 7) K 0 := by rw [← hρ]; simp [q4]
  have hcρ : Kc π ρ := hc.fr (fun k _ => by rw [r1]) (fun k hk => r2 k (by omega) (by omega) (by omega))
  obtain ⟨p1, p2, p3, p4, p5⟩ := c_perfL hcρ hg hi
  rw [r2 14 (by decide) (by decide) (by decide), r2 15 (by decide) (by decide) (by decide)] at p1 p4 p5
  have ekk : ∀ ξ : St, ξ.2 0 = π.2 0 → fX3_kindOf ξ (nI i) = π.2 0 i := fun ξ h => by rw [c_kind hi, h]
  unfold fX1_commit
  simp only []
  generalize fX2_performL ρ (nI i) = q at p1 p2 p3 p4 p5
  obtain ⟨a1, a2, a3, a4, a5, a6, a7⟩ := c_append (ρ := sg q.2 10 (q.2.1 10 + 1)) (nI i) (q.2.1 9) q.1
  generalize hx : fX0_append (sg q.2 10 (q.2.1 10 + 1)) (nI i) (q.2.1 9) q.1 = x at a1 a2 a3 a4 a5 a6 a7
  have xk : fX3_kindOf x (nI i) = π.2 0 i := by
    apply ekk
    rw [a4 0 (by decide) (by decide) (by decide)]
    simp only [q2]
    rw [p3 0 (by decide) (by decide), hcρ.2.2.2.1]
  rw [xk]
  simp only [q1, q2] at a1 a2 a3 a4 a5 a6 a7
  have fin : ∀ k, k ≠ 15 → (if π.2 0 i = 6 then sg x 15 1 else x).1 k = x.1 k := fun k hk => by
    split
    · simp only [q1]; rw [if_neg hk]
    · rfl
  have fin2 : (if π.2 0 i = 6 then sg x 15 1 else x).2 = x.2 := by split <;> rfl
  rw [fin2]
  simp [p2, r1] at a1 a2 a3 a5 a6 a7
  refine ⟨fun k b1 b2 b3 b4 => ?_, ?_, ?_, ?_, ?_, fun k b1 b2 b3 b4 b5 b6 b7 b8 => ?_, ?_, ?_, ?_, ?_, ?_, ?_, ?_, ?_⟩
  · rw [fin k b4, a1 k b1 b2]; simp [b3]
  · rw [fin 10 (by decide), a1 10 (by decide) (by decide)]; simp
  · by_cases c : π.2 0 i = 6
    · rw [if_pos c, if_pos c]; simp [q1]
    · rw [if_neg c, if_neg c, a1 15 (by decide) (by decide)]; simp
  · rw [fin 7 (by decide), a2]
  · rw [fin 8 (by decide), a3]
  · rw [a4 k b4 b5 b6, p3 k b7 b8]; exact r2 k b1 b2 b3
  · rw [a4 5 (by decide) (by decide) (by decide), p3 5 (by decide) (by decide), r5]
  · rw [a4 6 (by decide) (by decide) (by decide), p3 6 (by decide) (by decide), r6]
  · rw [a4 7 (by decide) (by decide) (by decide), p3 7 (by decide) (by decide), r7]
  · rw [a5, p3 8 (by decide) (by decide), r2 8 (by decide) (by decide) (by decide)]
  · rw [a6, p3 9 (by decide) (by decide), r2 9 (by decide) (by decide) (by decide)]
  · rw [a7, p3 10 (by decide) (by decide), r2 10 (by decide) (by decide) (by decide), p1]
  · rw [a4 14 (by decide) (by decide) (by decide), p4]
  · rw [a4 15 (by decide) (by decide) (by decide), p5]
theorem m_commit {π τ : St} {i K : Nat} (hm : Km π τ) (hi : i < 64) (hK : K < 8) (hw : τ.2 5 K = nI i) (hv : τ.2 17 K = pV π (τ.2 14, τ.2 15) i) (hp : τ.2 18 K = pP π (τ.2 14, τ.2 15) i) :
    (∀ k, k ≠ 10 → (fX8_commit τ (nI K)).1 k = τ.1 k) ∧ (fX8_commit τ (nI K)).1 10 = τ.1 10 + 1 ∧ (∀ k, k ≠ 8 → k ≠ 9 → k ≠ 10 → k ≠ 14 → k ≠ 15 → (fX8_commit τ (nI K)).2 k = τ.2 k) ∧
    (fX8_commit τ (nI K)).2 8 = upd (τ.2 8) (τ.1 10 - τ.1 10 / 400 * 400).toNatClampNeg (nI i) ∧ (fX8_commit τ (nI K)).2 9 = upd (τ.2 9) (τ.1 10 - τ.1 10 / 400 * 400).toNatClampNeg (τ.1 9) ∧ (fX8_commit τ (nI K)).2 10 = upd (τ.2 10) (τ.1 10 - τ.1 10 / 400 * 400).toNatClampNeg (pV π (τ.2 14, τ.2 15) i) ∧
    (fX8_commit τ (nI K)).2 14 = (pS π (τ.2 14, τ.2 15) i).1 ∧ (fX8_commit τ (nI K)).2 15 = (pS π (τ.2 14, τ.2 15) i).2 := by
  have k0 : τ.2 0 = π.2 0 := hm.2.2.2 0 (by decide)
  have k1 : τ.2 1 = π.2 1 := hm.2.2.2 1 (by decide)
  have ew : fX8_writes τ (nI i) = fX3_hasTarget (π.2 0 i) := by unfold fX8_writes fX3_hasTarget; rw [k0, n_cl (by omega)]
  unfold fX8_commit pS
  simp only [n_cl (show K < 2 ^ 31 by omega), hw, ew, n_cl (show i < 2 ^ 31 by omega), k0, k1, hv, hp]
  by_cases c1 : fX3_hasTarget (π.2 0 i) = 0
  · by_cases c2 : π.2 0 i = 2
    · simp only [if_pos c1, if_pos c2]
      refine ⟨fun k h => by simp [q1, q3, h], by simp [q1, q3], fun k h1 h2 h3 h4 h5 => by simp [q2, q4, h1, h2, h3, h4, h5], by simp [q2, q4], by simp [q2, q4], by simp [q2, q4], by simp [q2, q4], by simp [q2, q4]⟩
    · simp only [if_pos c1, if_neg c2]
      refine ⟨fun k h => by simp [q1, q3, h], by simp [q1, q3], fun k h1 h2 h3 h4 h5 => by simp [q2, q4, h1, h2, h3, h4, h5], by simp [q2, q4], by simp [q2, q4], by simp [q2, q4], by simp [q2, q4], by simp [q2, q4]⟩
  · by_cases c2 : π.2 0 i = 2
    · simp only [if_neg c1, if_pos c2]
      refine ⟨fun k h => by simp [q1, q3, h], by simp [q1, q3], fun k h1 h2 h3 h4 h5 => by simp [q2, q4, h1, h2, h3, h4, h5], by simp [q2, q4], by simp [q2, q4], by simp [q2, q4], by simp [q2, q4], by simp [q2, q4]⟩
    · simp only [if_neg c1, if_neg c2]
      refine ⟨fun k h => by simp [q1, q3, h], by simp [q1, q3], fun k h1 h2 h3 h4 h5 => by simp [q2, q4, h1, h2, h3, h4, h5], by simp [q2, q4], by simp [q2, q4], by simp [q2, q4], by simp [q2, q4], by simp [q2, q4]⟩
theorem Dv.none {π : St} {B : Nat} {w o el : Nat → Int32} (h : ∀ j, j < 8 → w j = -1) : Dv π B w o el 0 :=
  ⟨fun j hj hw => absurd (h j hj) hw, Or.inl rfl, ⟨fun z => absurd z (by decide), fun ⟨t, p1, p2⟩ => absurd (h t p1) p2.1⟩⟩
