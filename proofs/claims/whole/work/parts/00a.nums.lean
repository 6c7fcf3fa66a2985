/-! numbers: an index in range out of two tests; the rest that is not below 0; if out of its test -/
theorem j_ip {α : Type} {c : Prop} [Decidable c] {t e r : α} (h : c) (k : t = r) : ite c t e = r := by rw [if_pos h]; exact k
theorem j_ig {α : Type} {c : Prop} [Decidable c] {t e r : α} (h : ¬ c) (k : e = r) : ite c t e = r := by rw [if_neg h]; exact k
theorem j_lo1 {x : Int32} (h : ¬ x < 0) : 0 ≤ x := by
  rw [Int32.lt_iff_toInt_lt] at h
  rw [Int32.le_iff_toInt_le]
  omega
theorem j_hi1 {x y : Int32} (h : ¬ y ≤ x) : x < y := by
  rw [Int32.le_iff_toInt_le] at h
  rw [Int32.lt_iff_toInt_lt]
  omega
theorem j_in (n : Nat) {x y : Int32} (hy : y.toInt = n) (h0 : 0 ≤ x) (h : x < y) : vp_in x n := by
  rw [Int32.le_iff_toInt_le] at h0
  rw [Int32.lt_iff_toInt_lt, hy] at h
  rw [vp_in_iff]
  exact ⟨h0, h⟩
theorem j_in64 {x : Int32} (h0 : 0 ≤ x) (h : x < 64) : vp_in x 64 := j_in 64 (by decide) h0 h
theorem j_in8 {x : Int32} (h0 : 0 ≤ x) (h : x < 8) : vp_in x 8 := j_in 8 (by decide) h0 h
theorem j_in5 {x : Int32} (h0 : 0 ≤ x) (h : x < 5) : vp_in x 5 := j_in 5 (by decide) h0 h
def fm (x y : Int32) : Int32 := if 0 ≤ (x ^^^ y) then x - x / y * y else if (x - x / y * y) = 0 then x - x / y * y else x - x / y * y + y
theorem fm_rem (x : Int32) {k : Nat} (h0 : 0 < k) (hk : k < 2 ^ 31) : (x - x / nI k * nI k).toInt = x.toInt.tmod k := by
  rw [Int32.toInt_sub, Int32.toInt_mul, Int32.toInt_div, nI_toInt hk, Int.bmod_mul_bmod, Int.sub_bmod_bmod]
  have e : x.toInt - x.toInt.tdiv k * k = x.toInt.tmod k := by rw [Int.tmod_def, Int.mul_comm]
  rw [e]
  have h1 := Int.tmod_lt_of_pos x.toInt (b := (k : Int)) (by omega)
  have h2 := Int.lt_tmod_of_pos x.toInt (b := (k : Int)) (by omega)
  exact Int.bmod_eq_of_le_mul_two (by omega) (by omega)
theorem fm_xor (x : Int32) {k : Nat} (hk : k < 2 ^ 31) : 0 ≤ (x ^^^ nI k) ↔ 0 ≤ x := by
  have hy : (nI k).toBitVec.msb = false := by
    have h1 : (nI k).toInt = k := nI_toInt hk
    rw [BitVec.msb_eq_toInt]
    have h2 : (nI k).toBitVec.toInt = (k : Int) := h1
    rw [h2]
    simp
  have hx : (x ^^^ nI k).toBitVec.msb = x.toBitVec.msb := by
    rw [Int32.toBitVec_xor, BitVec.msb_xor, hy, Bool.xor_false]
  rw [BitVec.msb_eq_toInt, BitVec.msb_eq_toInt] at hx
  have e1 : (x ^^^ nI k).toInt = (x ^^^ nI k).toBitVec.toInt := rfl
  have e2 : x.toInt = x.toBitVec.toInt := rfl
  have e3 : (0 : Int32).toInt = 0 := by decide
  rw [Int32.le_iff_toInt_le, Int32.le_iff_toInt_le, e1, e2, e3]
  have := decide_eq_decide.mp hx
  omega
theorem fm_toInt (x : Int32) {k : Nat} (h0 : 0 < k) (hk : k < 2 ^ 30) : (fm x (nI k)).toInt = x.toInt % (k : Int) := by
  have hr := fm_rem x h0 (show k < 2 ^ 31 by omega)
  have h1 := Int.tmod_lt_of_pos x.toInt (b := (k : Int)) (by omega)
  have h2 := Int.lt_tmod_of_pos x.toInt (b := (k : Int)) (by omega)
  have e3 : (0 : Int32).toInt = 0 := by decide
  have e := Int.mul_tdiv_add_tmod x.toInt k
  have e2 : x.toInt % (k : Int) = x.toInt.tmod k % (k : Int) := by
    conv => lhs; rw [← e]
    rw [Int.mul_add_emod_self_left]
  unfold fm
  by_cases c1 : 0 ≤ (x ^^^ nI k)
  · rw [if_pos c1, hr, e2]
    have c2 := (fm_xor _ (show k < 2 ^ 31 by omega)).mp c1
    rw [Int32.le_iff_toInt_le, e3] at c2
    exact (Int.emod_eq_of_lt (Int.tmod_nonneg _ c2) h1).symm
  · rw [if_neg c1]
    have c2 : ¬ 0 ≤ x := fun z => c1 ((fm_xor _ (show k < 2 ^ 31 by omega)).mpr z)
    rw [Int32.le_iff_toInt_le, e3] at c2
    have h3 : x.toInt.tmod k ≤ 0 := by
      have := Int.tmod_nonneg (a := -x.toInt) (k : Int) (by omega)
      rw [Int.neg_tmod] at this
      omega
    by_cases c3 : (x - x / nI k * nI k) = 0
    · rw [if_pos c3, hr, e2]
      rw [c3, e3] at hr
      rw [← hr]
      simp
    · rw [if_neg c3, Int32.toInt_add, hr, nI_toInt (by omega), e2]
      have h4 : x.toInt.tmod k ≠ 0 := fun z => c3 (by rw [← Int32.toInt_inj, hr, e3, z])
      rw [Int.bmod_eq_of_le_mul_two (by omega) (by omega)]
      rw [← Int.emod_eq_of_lt (a := x.toInt.tmod k + k) (b := k) (by omega) (by omega), Int.add_emod_right]
theorem fm_nat (x : Int32) {k : Nat} (h0 : 0 < k) (hk : k < 2 ^ 30) : ∃ j : Nat, j < k ∧ fm x (nI k) = nI j ∧ (j : Int) = x.toInt % (k : Int) := by
  have h := fm_toInt x h0 hk
  have h1 := Int.emod_nonneg x.toInt (b := (k : Int)) (by omega)
  have h2 := Int.emod_lt_of_pos x.toInt (b := (k : Int)) (by omega)
  refine ⟨(x.toInt % (k : Int)).toNat, by omega, ?_, by omega⟩
  rw [← Int32.toInt_inj, h, nI_toInt (by omega)]
  omega
theorem fm_in (x : Int32) {k : Nat} (h0 : 0 < k) (hk : k < 2 ^ 30) : vp_in (fm x (nI k)) k := by
  rw [vp_in_iff, fm_toInt x h0 hk]
  exact ⟨Int.emod_nonneg _ (by omega), Int.emod_lt_of_pos _ (by omega)⟩
theorem fm_in64 (x : Int32) : vp_in (fm x 64) 64 := fm_in x (k := 64) (by decide) (by decide)
theorem fm_in400 (x : Int32) : vp_in (fm x 400) 400 := fm_in x (k := 400) (by decide) (by decide)
/-! the state: numbers by their place, arrays by theirs -/
abbrev St : Type := (Nat → Int32) × (Nat → Nat → Int32)
def sg (σ : St) (k : Nat) (x : Int32) : St := (upd σ.1 k x, σ.2)
def ar (σ : St) (k : Nat) (f : Nat → Int32) : St := (σ.1, va_up σ.2 k f)
theorem j_inc {x y : Int32} (h : x < y) : (x + 1).toInt = x.toInt + 1 := by
  rw [Int32.lt_iff_toInt_lt] at h
  have h1 := x.le_toInt
  have h2 := y.toInt_lt
  rw [Int32.toInt_add, show (1 : Int32).toInt = 1 by decide]
  exact Int.bmod_eq_of_le_mul_two (by omega) (by omega)
theorem j_dec {x : Int32} (h : ¬ x < 0) : (x + (-1)).toInt = x.toInt - 1 := by
  have h0 := j_lo1 h
  rw [Int32.le_iff_toInt_le, show (0 : Int32).toInt = 0 by decide] at h0
  have h2 := x.toInt_lt
  rw [Int32.toInt_add, show (-1 : Int32).toInt = -1 by decide]
  exact Int.bmod_eq_of_le_mul_two (by omega) (by omega)
theorem j_toLt {x y : Int32} (h : ¬ y ≤ x) : x.toInt < y.toInt := by
  rw [Int32.le_iff_toInt_le] at h
  omega
theorem j_toGe {x : Int32} (h : ¬ x < 0) : 0 ≤ x.toInt := by
  rw [Int32.lt_iff_toInt_lt, show (0 : Int32).toInt = 0 by decide] at h
  omega
theorem j_lo0 {x : Int32} (h : 0 ≤ x.toInt) : 0 ≤ x := by
  rw [Int32.le_iff_toInt_le, show (0 : Int32).toInt = 0 by decide]
  exact h
theorem j_ne0 {y : Int32} (h : ¬ y ≤ 0) : ¬ y = 0 := fun z => h (by rw [z]; decide)
theorem j_ne1 {y : Int32} (h : 0 < y) : ¬ y = 0 := fun z => absurd h (by rw [z]; decide)
/-- the core's own numbers: N and R -/
def shp (σ : St) : Prop := ∃ N R : Nat, 3 ≤ N ∧ N ≤ 8 ∧ 1 ≤ R ∧ R + 2 ≤ N ∧ σ.1 0 = nI N ∧ σ.1 1 = nI R
/-- the core's own numbers stay -/
def Fr (τ σ : St) : Prop := ∀ k, k < 6 → τ.1 k = σ.1 k
theorem Fr.rf (σ : St) : Fr σ σ := fun _ _ => rfl
theorem Fr.tr {τ ρ σ : St} (h : Fr τ ρ) (h2 : Fr ρ σ) : Fr τ σ := fun k hk => (h k hk).trans (h2 k hk)
theorem Fr.sg {σ : St} {k : Nat} {x : Int32} (hk : 6 ≤ k) : Fr (sg σ k x) σ := fun j hj => by
  show upd σ.1 k x j = σ.1 j
  unfold upd
  rw [if_neg (by omega)]
theorem Fr.ar {σ : St} {k : Nat} {f : Nat → Int32} : Fr (ar σ k f) σ := fun _ _ => rfl
theorem shp.fr {τ σ : St} (h : shp σ) (f : Fr τ σ) : shp τ := by
  obtain ⟨N, R, h1, h2, h3, h4, h5, h6⟩ := h
  exact ⟨N, R, h1, h2, h3, h4, (f 0 (by decide)).trans h5, (f 1 (by decide)).trans h6⟩
theorem shp.there {σ : St} (h : shp σ) : ((σ.1 1) + 1).toInt ≤ (σ.1 0).toInt ∧ (σ.1 0).toInt < ((σ.1 1) + 1).toInt + 9 ∧ 0 ≤ ((σ.1 1) + 1).toInt := by
  obtain ⟨N, R, h1, h2, h3, h4, h5, h6⟩ := h
  rw [h5, h6, nI_1, nI_toInt (by omega), nI_toInt (by omega)]
  omega
theorem shp.last {σ : St} (h : shp σ) : -1 ≤ (((σ.1 0) - 1) - 1).toInt ∧ (((σ.1 0) - 1) - 1).toInt + 1 < 9 := by
  obtain ⟨N, R, h1, h2, h3, h4, h5, h6⟩ := h
  obtain ⟨k, rfl⟩ : ∃ k, N = k + 1 + 1 := ⟨N - 2, by omega⟩
  rw [h5, nI_pred, nI_pred, nI_toInt (by omega)]
  omega
