/-! the start, and all of it -/
theorem n_sub {a b : Nat} (h : b ≤ a) (ha : a < 2 ^ 30) : nI a - nI b = nI (a - b) := by
  apply Int32.toInt_inj.mp
  rw [Int32.toInt_sub, nI_toInt (by omega), nI_toInt (by omega), nI_toInt (by omega), Int.bmod_eq_of_le_mul_two (by omega) (by omega)]
  omega
theorem rest_eq (x : Int32) {k : Nat} (h0 : 0 < k) (hk : k < 2 ^ 30) : fX4_rest x (nI k) = fm x (nI k) := by
  unfold fX4_rest
  rw [if_neg (nI_nle (by omega) (by omega))]
theorem sh_N (x1 : Int32) : ∃ N : Nat, 3 ≤ N ∧ N ≤ 8 ∧ zN x1 = nI N ∧ yN x1 = nI N := by
  obtain ⟨j, hj, e, -⟩ := fm_nat x1 (k := 6) (by decide) (by decide)
  have e1 : fX4_rest x1 6 = nI j := (rest_eq x1 (k := 6) (by decide) (by decide)).trans e
  have e2 : fX8_modulo x1 6 = nI j := (md_eq x1 (k := 6) (by decide) (by decide)).trans e
  refine ⟨3 + j, by omega, by omega, ?_, ?_⟩
  · unfold zN; rw [e1, ← nI_add]; rfl
  · unfold yN; rw [e2, ← nI_add]; rfl
theorem sh_R (x1 x2 : Int32) {N : Nat} (h3 : 3 ≤ N) (h8 : N ≤ 8) (ez : zN x1 = nI N) (ey : yN x1 = nI N) : ∃ R : Nat, 1 ≤ R ∧ R + 2 ≤ N ∧ zR x1 x2 = nI R ∧ yR x1 x2 = nI R := by
  have e2 : nI N - 2 = nI (N - 2) := n_sub (b := 2) (by omega) (by omega)
  obtain ⟨j, hj, e, -⟩ := fm_nat x2 (k := N - 2) (by omega) (by omega)
  have a1 : fX4_rest x2 (nI (N - 2)) = nI j := (rest_eq x2 (by omega) (by omega)).trans e
  have a2 : fX8_modulo x2 (nI (N - 2)) = nI j := (md_eq x2 (by omega) (by omega)).trans e
  refine ⟨1 + j, by omega, by omega, ?_, ?_⟩
  · unfold zR; rw [ez, e2, a1, ← nI_add]; rfl
  · unfold yR; rw [ey, e2, a2, ← nI_add]; rfl
theorem sh_F (x1 x2 x : Int32) {N R : Nat} (h3 : R < N) (h8 : N ≤ 8) (ez : zN x1 = nI N) (ey : yN x1 = nI N) (fz : zR x1 x2 = nI R) (fy : yR x1 x2 = nI R) : ∃ F : Nat, R ≤ F ∧ F < N ∧ zF x1 x2 x = nI F ∧ yF x1 x2 x = nI F := by
  have e2 : nI N - nI R = nI (N - R) := n_sub (by omega) (by omega)
  obtain ⟨j, hj, e, -⟩ := fm_nat x (k := N - R) (by omega) (by omega)
  have a1 : fX4_rest x (nI (N - R)) = nI j := (rest_eq x (by omega) (by omega)).trans e
  have a2 : fX8_modulo x (nI (N - R)) = nI j := (md_eq x (by omega) (by omega)).trans e
  refine ⟨R + j, by omega, by omega, ?_, ?_⟩
  · unfold zF; rw [ez, fz, e2, a1, nI_add]
  · unfold yF; rw [ey, fy, e2, a2, nI_add]
theorem sh_M (x : Int32) : ∃ M : Nat, 1 ≤ M ∧ M ≤ 8 ∧ zM x = nI M ∧ yM x = nI M := by
  obtain ⟨j, hj, e, -⟩ := fm_nat x (k := 8) (by decide) (by decide)
  have e1 : fX4_rest x 8 = nI j := (rest_eq x (k := 8) (by decide) (by decide)).trans e
  have e2 : fX8_modulo x 8 = nI j := (md_eq x (k := 8) (by decide) (by decide)).trans e
  refine ⟨1 + j, by omega, by omega, ?_, ?_⟩
  · unfold zM; rw [e1, ← nI_add]; rfl
  · unfold yM; rw [e2, ← nI_add]; rfl
theorem rel_start : SM_start RelW := by
  intro x1 x2 x3 x4 x5 x6
  obtain ⟨N, n3, n8, zn, yn⟩ := sh_N x1
  obtain ⟨R, r1, r2, zr', yr⟩ := sh_R x1 x2 n3 n8 zn yn
  obtain ⟨B2, f1, f2, zf2, yf2⟩ := sh_F x1 x2 x3 (by omega) n8 zn yn zr' yr
  obtain ⟨B3, f3, f4, zf3, yf3⟩ := sh_F x1 x2 x4 (by omega) n8 zn yn zr' yr
  obtain ⟨B, f5, f6, zf, yf⟩ := sh_F x1 x2 x5 (by omega) n8 zn yn zr' yr
  obtain ⟨M, m1', m2', zm, ym⟩ := sh_M x6
  obtain ⟨m1, m2, m3, m4, m5, m6, m7, m8, m9⟩ := m_begin (ms0 x1 x2 x3 x4 x5 x6)
  generalize fX8_begin (ms0 x1 x2 x3 x4 x5 x6) = τ' at m1 m2 m3 m4 m5 m6 m7 m8 m9
  have z8 : ∀ i : Nat, ∃ k : Nat, k < 8 ∧ (0 : Int32) = nI k := fun _ => ⟨0, by decide, nI_0.symm⟩
  have hg : Gd (ms0 x1 x2 x3 x4 x5 x6) N R B M 0 := ⟨yn, yr, yf, ym, nI_0.symm, by omega, ⟨0, by decide, nI_0.symm⟩, z8, z8, z8, z8⟩
  have hz : ∀ f : Nat → Int32, (∀ j, f j = 0) → ∀ n, fillF n 0 f = fun _ => 0 := fun f hf n => by
    funext j
    unfold fillF
    split
    · rfl
    · exact hf j
  refine rel_new hg rfl (Or.inr rfl) ?_ ?_ (fun k hk => ?_) (fun k hk => m2 k (by unfold zr; omega)) (fun k h1 h2 => ?_) (fun s hs => ?_) ?_ (fun _ _ => rfl) (fun _ _ => rfl) ?_ ?_ ?_ 0
  · refine ⟨fun k hk => ?_, rfl, rfl, rfl, rfl, fun i => rfl, fun i => rfl, fun i => rfl⟩
    rcases (show k = 0 ∨ k = 1 ∨ k = 2 ∨ k = 3 ∨ k = 4 ∨ k = 5 ∨ k = 6 by omega) with z | z | z | z | z | z | z
    · subst z; exact zn.trans yn.symm
    · subst z; exact zr'.trans yr.symm
    · subst z; exact zf2.trans yf2.symm
    · subst z; exact zf3.trans yf3.symm
    · subst z; exact zf.trans yf.symm
    · subst z; exact zm.trans ym.symm
    · subst z; rfl
  · refine ⟨fun k hk => ?_, m1 16 (by unfold zr; omega), m1 17 (by unfold zr; omega), fun k hk => m3 k (by omega) (by omega) (by omega) (by omega) (by omega) (by omega)⟩
    by_cases z : zr k
    · rw [m2 k z]
      unfold zr at z
      rcases (show k = 6 ∨ k = 9 by omega) with y | y <;> subst y <;> rfl
    · exact m1 k z
  · rcases (show k = 7 ∨ k = 8 ∨ k = 9 ∨ k = 10 ∨ k = 11 ∨ k = 12 ∨ k = 13 ∨ k = 14 ∨ k = 15 ∨ k = 18 ∨ k = 19 ∨ k = 20 by omega) with z | z | z | z | z | z | z | z | z | z | z | z <;> subst z <;> rfl
  · rcases (show k = 8 ∨ k = 9 ∨ k = 10 ∨ k = 11 ∨ k = 12 ∨ k = 13 ∨ k = 14 ∨ k = 15 by omega) with z | z | z | z | z | z | z | z
    · subst z; rw [m3 8 (by decide) (by decide) (by decide) (by decide) (by decide) (by decide)]; rfl
    · subst z; rw [m3 9 (by decide) (by decide) (by decide) (by decide) (by decide) (by decide)]; rfl
    · subst z; rw [m3 10 (by decide) (by decide) (by decide) (by decide) (by decide) (by decide)]; rfl
    · subst z; rw [m5]; exact (hz ((ms0 x1 x2 x3 x4 x5 x6).2 11) (fun _ => rfl) _).symm
    · subst z; rw [m6]; exact (hz ((ms0 x1 x2 x3 x4 x5 x6).2 12) (fun _ => rfl) _).symm
    · subst z; rw [m7]; exact (hz ((ms0 x1 x2 x3 x4 x5 x6).2 13) (fun _ => rfl) _).symm
    · subst z; rw [m8]; exact (hz ((ms0 x1 x2 x3 x4 x5 x6).2 14) (fun _ => rfl) _).symm
    · subst z; rw [m9]; exact (hz ((ms0 x1 x2 x3 x4 x5 x6).2 15) (fun _ => rfl) _).symm
  · rw [m4, fill_lt hs]
  · rw [m4]; rfl
  · rw [m6, m8]; rfl
  · rw [m7, m9]; rfl
  · rw [m3 18 (by decide) (by decide) (by decide) (by decide) (by decide) (by decide)]
    intro i hi
    exact vp_in_nI (n := 0) (by decide) (by decide)
theorem sim_all : SIM RelW := ⟨rel_start, rel_pre, rel_keep, rel_word, rel_set, rel_clear, rel_run, rel_stage, rel_committed, rel_register, rel_memory, rel_cause, rel_count⟩
