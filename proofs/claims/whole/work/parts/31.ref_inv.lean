theorem bz_n {x : Int32} (h : x = 0 ∨ x = 1) : narrow .boolean (.int x) = .int x := by
  rcases h with rfl | rfl <;> rfl
theorem bz_f {x : Int32} (h : x = 0 ∨ x = 1) : fits .boolean (.int x) = true := by
  rcases h with rfl | rfl <;> rfl
/-- the stages hold words or -1 -/
def mW (f : Nat → Int32) : Prop := ∀ i, i < 8 → -1 ≤ (f i).toInt ∧ (f i).toInt < 64
def mP (f : Nat → Int32) : Prop := ∀ i, i < 8 → vp_in (f i) 64
def mR (σ : St) : Prop := ∀ i, i < 64 → vp_in (σ.2 1 i) 8 ∧ vp_in (σ.2 2 i) 8 ∧ vp_in (σ.2 3 i) 8
/-- of the reference: what a cycle never changes -/
def mB (σ : St) : Prop := shp σ ∧ mR σ ∧ 1 ≤ (σ.1 6).toInt ∧ (σ.1 6).toInt ≤ 64 ∧ 0 ≤ (σ.1 17).toInt
/-- .. and what it does change -/
def mV (K : Nat) (σ : St) : Prop := mW (σ.2 5) ∧ mP (σ.2 18) ∧ (0 ≤ (σ.1 18).toInt ∧ (σ.1 18).toInt < 64) ∧ 0 ≤ (σ.1 10).toInt ∧ (σ.1 10).toInt ≤ K
theorem mB.fq {τ σ : St} (h : mB σ) (f : Fq τ σ) : mB τ := by
  obtain ⟨⟨N, R, h1, h2, h3, h4, h5, h6⟩, hR, h7, h8, h9⟩ := h
  refine ⟨⟨N, R, h1, h2, h3, h4, (f.1 0 (by decide)).trans h5, (f.1 1 (by decide)).trans h6⟩, ?_, ?_, ?_, ?_⟩
  · intro i hi
    rw [f.2 1 (by decide), f.2 2 (by decide), f.2 3 (by decide)]
    exact hR i hi
  · rw [f.1 6 (by decide)]; exact h7
  · rw [f.1 6 (by decide)]; exact h8
  · rw [f.1 17 (by decide)]; exact h9
theorem sg_ne {σ : St} {k j : Nat} {x : Int32} (h : j ≠ k) : (sg σ k x).1 j = σ.1 j := by
  show upd σ.1 k x j = σ.1 j
  unfold upd
  rw [if_neg h]
theorem sg_eq {σ : St} {k : Nat} {x : Int32} : (sg σ k x).1 k = x := by
  show upd σ.1 k x k = x
  unfold upd
  rw [if_pos rfl]
theorem ar_ne {σ : St} {k j : Nat} {f : Nat → Int32} (h : j ≠ k) : (ar σ k f).2 j = σ.2 j := va_up_ne _ _ h
theorem ar_eq {σ : St} {k : Nat} {f : Nat → Int32} : (ar σ k f).2 k = f := va_up_self _ _ _
theorem mV_sg {K : Nat} {σ : St} {k : Nat} {x : Int32} (h : mV K σ) (hk : k ≠ 18 ∧ k ≠ 10) : mV K (sg σ k x) := by
  obtain ⟨h1, h2, h3, h4, h5⟩ := h
  refine ⟨h1, h2, ?_, ?_, ?_⟩
  · rw [sg_ne (Ne.symm hk.1)]; exact h3
  · rw [sg_ne (Ne.symm hk.2)]; exact h4
  · rw [sg_ne (Ne.symm hk.2)]; exact h5
theorem mV_ar {K : Nat} {σ : St} {k : Nat} {f : Nat → Int32} (h : mV K σ) (hk : k ≠ 5 ∧ k ≠ 18) : mV K (ar σ k f) := by
  obtain ⟨h1, h2, h3⟩ := h
  exact ⟨by rw [ar_ne (Ne.symm hk.1)]; exact h1, by rw [ar_ne (Ne.symm hk.2)]; exact h2, h3⟩
theorem mW_upd {g : Nat → Int32} {j : Nat} {v : Int32} (hg : mW g) (hv : -1 ≤ v.toInt ∧ v.toInt < 64) : mW (upd g j v) := by
  intro i hi
  unfold upd
  by_cases e : i = j
  · rw [if_pos e]; exact hv
  · rw [if_neg e]; exact hg i hi
theorem mP_upd {g : Nat → Int32} {j : Nat} {v : Int32} (hg : mP g) (hv : vp_in v 64) : mP (upd g j v) := by
  intro i hi
  unfold upd
  by_cases e : i = j
  · rw [if_pos e]; exact hv
  · rw [if_neg e]; exact hg i hi
theorem mV_word {K : Nat} {σ : St} {f : Nat → Int32} (h : mV K σ) (hf : mW f) : mV K (ar σ 5 f) := by
  obtain ⟨h1, h2, h3⟩ := h
  exact ⟨by rw [ar_eq]; exact hf, by rw [ar_ne (by decide)]; exact h2, h3⟩
theorem mV_place {K : Nat} {σ : St} {f : Nat → Int32} (h : mV K σ) (hf : mP f) : mV K (ar σ 18 f) := by
  obtain ⟨h1, h2, h3⟩ := h
  exact ⟨by rw [ar_ne (by decide)]; exact h1, by rw [ar_eq]; exact hf, h3⟩
theorem mV_next {K : Nat} {σ : St} {x : Int32} (h : mV K σ) (hx : 0 ≤ x.toInt ∧ x.toInt < 64) : mV K (sg σ 18 x) := by
  obtain ⟨h1, h2, h3, h4, h5⟩ := h
  refine ⟨h1, h2, ?_, ?_, ?_⟩
  · rw [sg_eq]; exact hx
  · rw [sg_ne (by decide)]; exact h4
  · rw [sg_ne (by decide)]; exact h5
theorem mV_com {K : Nat} {σ : St} {x : Int32} (h : mV K σ) (hx : 0 ≤ x.toInt ∧ x.toInt ≤ K + 1) : mV (K + 1) (sg σ 10 x) := by
  obtain ⟨h1, h2, h3, h4, h5⟩ := h
  refine ⟨h1, h2, ?_, ?_, ?_⟩
  · rw [sg_ne (by decide)]; exact h3
  · rw [sg_eq]; exact hx.1
  · rw [sg_eq]; exact_mod_cast hx.2
theorem mV_up {K : Nat} {σ : St} (h : mV K σ) : mV (K + 1) σ := ⟨h.1, h.2.1, h.2.2.1, h.2.2.2.1, by have := h.2.2.2.2; omega⟩
theorem m_none : -1 ≤ (-1 : Int32).toInt ∧ (-1 : Int32).toInt < 64 := by decide
theorem m_one {x : Int32} {K : Nat} (h0 : 0 ≤ x.toInt) (h : x.toInt ≤ K) (hK : K < 2 ^ 30) : 0 ≤ (x + 1).toInt ∧ (x + 1).toInt ≤ K + 1 := by
  have := x.toInt_lt
  rw [Int32.toInt_add, show (1 : Int32).toInt = 1 by decide, Int.bmod_eq_of_le_mul_two (by omega) (by omega)]
  omega
theorem m_rem {x y : Int32} (h0 : 0 ≤ x.toInt) (h1 : 1 ≤ y.toInt) (h2 : y.toInt ≤ 64) : 0 ≤ (x - x / y * y).toInt ∧ (x - x / y * y).toInt < 64 := by
  rw [rem_toInt]
  have a := Int.tmod_nonneg y.toInt h0
  have b := Int.tmod_lt_of_pos x.toInt (b := y.toInt) (by omega)
  omega
theorem m_rem400 {x : Int32} (h0 : 0 ≤ x.toInt) : vp_in (x - x / 400 * 400) 400 := by
  rw [vp_in_iff, rem_toInt, show (400 : Int32).toInt = 400 by decide]
  have a := Int.tmod_nonneg (400 : Int) h0
  have b := Int.tmod_lt_of_pos x.toInt (b := 400) (by omega)
  omega
theorem m_mod (x : Int32) {k : Nat} (h0 : 0 < k) (hk : k < 2 ^ 30) : vp_in (fX8_modulo x (nI k)) k := by
  unfold fX8_modulo
  have hr := fm_rem x h0 (show k < 2 ^ 31 by omega)
  have h1 := Int.tmod_lt_of_pos x.toInt (b := (k : Int)) (by omega)
  have h2 := Int.lt_tmod_of_pos x.toInt (b := (k : Int)) (by omega)
  have hs : ((x - x / nI k * nI k) + nI k).toInt = x.toInt.tmod k + k := by
    rw [Int32.toInt_add, hr, nI_toInt (by omega), Int.bmod_eq_of_le_mul_two (by omega) (by omega)]
  rw [vp_in_iff, rem_toInt, hs, nI_toInt (by omega)]
  have a := Int.tmod_nonneg (a := x.toInt.tmod k + k) (k : Int) (by omega)
  have b := Int.tmod_lt_of_pos (x.toInt.tmod k + k) (b := (k : Int)) (by omega)
  omega
theorem m_mod64 (x : Int32) : vp_in (fX8_modulo x 64) 64 := m_mod x (k := 64) (by decide) (by decide)
/-- indices -/
theorem m_s {x : Int32} {n : Nat} (h0 : 0 ≤ x.toInt) (h : x.toInt < n) : vp_in x n := vp_in_iff.mpr ⟨h0, h⟩
theorem m_w {f : Nat → Int32} (h : mW f) {x : Int32} (hx : vp_in x 8) (h0 : 0 ≤ (f x.toNatClampNeg).toInt) : vp_in (f x.toNatClampNeg) 64 := by
  have hc : x.toNatClampNeg < 8 := by
    obtain ⟨j, hj, rfl⟩ := vp_in_of hx (by decide)
    rw [nI_clamp (by omega)]; exact hj
  exact vp_in_iff.mpr ⟨h0, (h _ hc).2⟩
theorem m_cl {x : Int32} {n : Nat} (hx : vp_in x n) (hn : n < 2 ^ 31) : x.toNatClampNeg < n := by
  obtain ⟨j, hj, rfl⟩ := vp_in_of hx hn
  rw [nI_clamp (by omega)]; exact hj
theorem m_ge {x : Int32} (h : 0 ≤ x) : 0 ≤ x.toInt := by
  rw [Int32.le_iff_toInt_le, show (0 : Int32).toInt = 0 by decide] at h
  exact h
theorem m_nx {K : Nat} {σ : St} (h : mV K σ) : -1 ≤ (σ.1 18).toInt ∧ (σ.1 18).toInt < 64 := ⟨by have := h.2.2.1.1; omega, h.2.2.1.2⟩
theorem m_n1 {K : Nat} {σ : St} (h : mV K σ) : 0 ≤ ((σ.1 18) + 1).toInt := (m_one (K := 64) h.2.2.1.1 (by have := h.2.2.1.2; omega) (by decide)).1
theorem m_eq {x y : Int32} (h : x.toInt ≤ y.toInt) (h2 : y ≤ x) : x = y := by
  rw [Int32.le_iff_toInt_le] at h2
  exact Int32.toInt_inj.mp (by omega)
theorem m_le {x y : Int32} (h : x = y) : y ≤ x := by
  rw [Int32.le_iff_toInt_le, h]
  omega
theorem shp.n8 {σ : St} (h : shp σ) : (σ.1 0).toInt ≤ 8 := by
  obtain ⟨N, R, h1, h2, h3, h4, h5, h6⟩ := h
  rw [h5, nI_toInt (by omega)]
  omega
theorem shp.last8 {σ : St} (h : shp σ) : vp_in ((σ.1 0) - 1) 8 := by
  obtain ⟨N, R, h1, h2, h3, h4, h5, h6⟩ := h
  obtain ⟨k, rfl⟩ : ∃ k, N = k + 1 := ⟨N - 1, by omega⟩
  rw [h5, nI_pred]
  exact vp_in_nI (by omega) (by decide)
theorem shp.l8 {σ : St} (h : shp σ) : ((σ.1 0) - 1).toInt ≤ 8 := by
  have := (vp_in_iff.mp h.last8).2
  omega
theorem shp.r8 {σ : St} (h : shp σ) : vp_in (σ.1 1) 8 := by
  obtain ⟨N, R, h1, h2, h3, h4, h5, h6⟩ := h
  rw [h6]
  exact vp_in_nI (by omega) (by decide)
theorem shp.two {σ : St} (h : shp σ) : -1 ≤ ((σ.1 0) - 2).toInt ∧ ((σ.1 0) - 2).toInt ≤ 6 := by
  obtain ⟨N, R, h1, h2, h3, h4, h5, h6⟩ := h
  obtain ⟨k, rfl⟩ : ∃ k, N = k + 2 := ⟨N - 2, by omega⟩
  rw [h5, show (2 : Int32) = nI 2 from rfl, pk_sub (by omega), nI_toInt (by omega)]
  omega
theorem mB.w0 {σ : St} (h : mB σ) : ¬ (σ.1 6) = 0 := fun z => by
  have := h.2.2.1
  rw [z, show (0 : Int32).toInt = 0 by decide] at this
  omega
theorem m_s1 {x : Int32} (h0 : 0 ≤ x.toInt) (h : x.toInt ≤ 6) : vp_in (x + 1) 8 := by
  rw [vp_in_iff, Int32.toInt_add, show (1 : Int32).toInt = 1 by decide, Int.bmod_eq_of_le_mul_two (by omega) (by omega)]
  omega
theorem m_may {σ : St} {x : Int32} (h : ¬ fX8_mayGo σ x = 0) : 0 ≤ ((σ.2 5) x.toNatClampNeg).toInt := by
  by_cases c : ((σ.2 5) x.toNatClampNeg) < 0
  · exact absurd (show fX8_mayGo σ x = 0 from j_ip c rfl) h
  · exact j_toGe c
theorem m_zw (x y z : Int32) : narrow .boolean (.int (fX8_within x y z)) = .int (fX8_within x y z) := by
  unfold fX8_within
  by_cases c1 : x < y
  · rw [if_pos c1]; rfl
  · rw [if_neg c1]
    by_cases c2 : z < x
    · rw [if_pos c2]; rfl
    · rw [if_neg c2]; rfl
theorem m_wd {x : Int32} (h : 0 ≤ x.toInt ∧ x.toInt ≤ 64) (c : ¬ x = 64) : vp_in x 64 := by
  rw [vp_in_iff]
  have : x.toInt ≠ 64 := fun z => c (Int32.toInt_inj.mp (by rw [z]; decide))
  omega
theorem mV_w {K : Nat} {σ : St} (h : mV K σ) : mW (σ.2 5) := h.1
theorem m_in {x y z : Int32} (h : ¬ fX8_within x y z = 0) : y.toInt ≤ x.toInt ∧ x.toInt ≤ z.toInt := by
  unfold fX8_within at h
  by_cases c1 : x < y
  · rw [if_pos c1] at h; exact absurd rfl h
  · rw [if_neg c1] at h
    by_cases c2 : z < x
    · rw [if_pos c2] at h; exact absurd rfl h
    · rw [Int32.lt_iff_toInt_lt] at c1 c2
      omega
theorem m_wi (n : Nat) {x y : Int32} (h : ¬ fX8_within x 0 y = 0) (hy : y.toInt + 1 = n) : vp_in x n := by
  have := m_in h
  have e : (0 : Int32).toInt = 0 := by decide
  rw [vp_in_iff]
  omega
theorem m_isr {x : Int32} (h : ¬ fX8_isRegister x = 0) : ¬ fX8_within x 0 7 = 0 := h
theorem m_st {σ : St} {x : Int32} (hs : shp σ) (h : ¬ fX8_within x 0 ((σ.1 0) - 1) = 0) : vp_in x 8 := by
  have a := m_in h
  have b := (vp_in_iff.mp hs.last8).2
  have e : (0 : Int32).toInt = 0 := by decide
  rw [vp_in_iff]
  omega
theorem m_cm1 {c x : Int32} (hc : 0 ≤ c.toInt ∧ c.toInt < 2 ^ 30) (h : 400 ≤ c) (hx : ¬ fX8_within x 0 (400 - 1) = 0) : 0 ≤ ((c - 400) + x).toInt := by
  have a := m_in hx
  rw [show (400 - 1 : Int32).toInt = 399 by decide, show (0 : Int32).toInt = 0 by decide] at a
  rw [Int32.le_iff_toInt_le, show (400 : Int32).toInt = 400 by decide] at h
  have e : (c - 400).toInt = c.toInt - 400 := by
    rw [Int32.toInt_sub, show (400 : Int32).toInt = 400 by decide]
    exact Int.bmod_eq_of_le_mul_two (by omega) (by omega)
  rw [Int32.toInt_add, e, Int.bmod_eq_of_le_mul_two (by omega) (by omega)]
  omega
theorem m_cm2 {c x : Int32} (hc : 0 ≤ c.toInt ∧ c.toInt < 2 ^ 30) (hx : ¬ fX8_within x 0 (c - 1) = 0) : 0 ≤ ((c - c) + x).toInt := by
  have a := m_in hx
  rw [show (0 : Int32).toInt = 0 by decide] at a
  have e : (c - c).toInt = 0 := by
    rw [Int32.toInt_sub, Int.sub_self]
    rfl
  have := x.toInt_lt
  rw [Int32.toInt_add, e, Int.bmod_eq_of_le_mul_two (by omega) (by omega)]
  omega
theorem m_run {x : Int32} (h : ¬ fX8_within x 1 2000 = 0) : (0 : Int32).toInt ≤ x.toInt ∧ x.toInt < (0 : Int32).toInt + ((2001 : Nat) : Int) := by
  have a := m_in h
  rw [show (1 : Int32).toInt = 1 by decide, show (2000 : Int32).toInt = 2000 by decide] at a
  rw [show (0 : Int32).toInt = 0 by decide]
  omega
theorem mv_gfX8_squash {K : Nat} : ∀ (n : Nat) (σ : St) (x1 x2 x3 : Int32), mB σ → mV K σ → 0 ≤ x2.toInt → mV K (gfX8_squash n σ x1 x2 x3) := by
  intro n
  induction n with
  | zero => intro σ x1 x2 x3 hb hv ht; exact hv
  | succ n ih =>
    intro σ x1 x2 x3 hb hv ht
    by_cases c0 : x1 ≤ x3
    ·
      have E : gfX8_squash (n + 1) σ x1 x2 x3 = (sg (sg (sg σ 18 (x2 - x2 / (σ.1 6) * (σ.1 6))) 19 0) 21 0) := j_ip c0 rfl
      rw [E]
      exact (mV_sg (mV_sg (mV_next hv (m_rem ht hb.2.2.1 hb.2.2.2.1)) (by decide)) (by decide))
    ·
      by_cases c1 : ((σ.2 5) x3.toNatClampNeg) < 0
      ·
        have E : gfX8_squash (n + 1) σ x1 x2 x3 = gfX8_squash n (ar (sg σ 12 ((σ.1 12) + 0)) 5 (upd (σ.2 5) x3.toNatClampNeg (-1))) x1 x2 (x3 + 1) := j_ig c0 (j_ip c1 rfl)
        rw [E]
        exact (ih _ _ _ _ (mB.fq (mB.fq hb (Fq.sg (by decide))) (Fq.ar (by decide))) (mV_word (mV_sg hv (by decide)) (mW_upd hv.1 m_none)) ht)
      ·
        have E : gfX8_squash (n + 1) σ x1 x2 x3 = gfX8_squash n (ar (sg σ 12 ((σ.1 12) + 1)) 5 (upd (σ.2 5) x3.toNatClampNeg (-1))) x1 x2 (x3 + 1) := j_ig c0 (j_ig c1 rfl)
        rw [E]
        exact (ih _ _ _ _ (mB.fq (mB.fq hb (Fq.sg (by decide))) (Fq.ar (by decide))) (mV_word (mV_sg hv (by decide)) (mW_upd hv.1 m_none)) ht)
theorem mv_fX8_squash {K : Nat} {σ : St} {x1 x2 : Int32} (hb : mB σ) (hv : mV K σ) (ht : 0 ≤ x2.toInt) : mV K (fX8_squash σ x1 x2) := mv_gfX8_squash 9 σ x1 x2 0 hb hv ht
theorem mv_fX8_know {K : Nat} {σ : St} {x1 x2 : Int32} (hb : mB σ) (hv : mV K σ) : mV K (fX8_know σ x1 x2) := by
  by_cases c0 : 0 ≤ x2
  ·
    have E : fX8_know σ x1 x2 = (fX8_squash (sg σ 14 ((σ.1 14) + 1)) x1 x2) := j_ip c0 rfl
    rw [E]
    exact (mv_fX8_squash (mB.fq hb (Fq.sg (by decide))) (mV_sg hv (by decide)) (m_ge c0))
  ·
    have E : fX8_know σ x1 x2 = σ := j_ig c0 rfl
    rw [E]
    exact hv
theorem mv_fX8_commit {K : Nat} {σ : St} {x1 : Int32} (hb : mB σ) (hv : mV K σ) (hK : K < 2 ^ 30) : mV (K + 1) (fX8_commit σ x1) := by
  by_cases c0 : (fX8_writes σ ((σ.2 5) x1.toNatClampNeg)) = 0
  ·
    by_cases c1 : ((σ.2 0) ((σ.2 5) x1.toNatClampNeg).toNatClampNeg) = 2
    ·
      have E : fX8_commit σ x1 = (sg (ar (ar (ar (ar σ 15 (upd (σ.2 15) ((σ.2 18) x1.toNatClampNeg).toNatClampNeg ((σ.2 17) x1.toNatClampNeg))) 8 (upd (σ.2 8) ((σ.1 10) - (σ.1 10) / 400 * 400).toNatClampNeg ((σ.2 5) x1.toNatClampNeg))) 9 (upd (σ.2 9) ((σ.1 10) - (σ.1 10) / 400 * 400).toNatClampNeg (σ.1 9))) 10 (upd (σ.2 10) ((σ.1 10) - (σ.1 10) / 400 * 400).toNatClampNeg ((σ.2 17) x1.toNatClampNeg))) 10 ((σ.1 10) + 1)) := j_ip c0 (j_ip c1 rfl)
      rw [E]
      exact (mV_com (mV_ar (mV_ar (mV_ar (mV_ar hv (by decide)) (by decide)) (by decide)) (by decide)) (m_one hv.2.2.2.1 hv.2.2.2.2 hK))
    ·
      have E : fX8_commit σ x1 = (sg (ar (ar (ar σ 8 (upd (σ.2 8) ((σ.1 10) - (σ.1 10) / 400 * 400).toNatClampNeg ((σ.2 5) x1.toNatClampNeg))) 9 (upd (σ.2 9) ((σ.1 10) - (σ.1 10) / 400 * 400).toNatClampNeg (σ.1 9))) 10 (upd (σ.2 10) ((σ.1 10) - (σ.1 10) / 400 * 400).toNatClampNeg ((σ.2 17) x1.toNatClampNeg))) 10 ((σ.1 10) + 1)) := j_ip c0 (j_ig c1 rfl)
      rw [E]
      exact (mV_com (mV_ar (mV_ar (mV_ar hv (by decide)) (by decide)) (by decide)) (m_one hv.2.2.2.1 hv.2.2.2.2 hK))
  ·
    by_cases c1 : ((σ.2 0) ((σ.2 5) x1.toNatClampNeg).toNatClampNeg) = 2
    ·
      have E : fX8_commit σ x1 = (sg (ar (ar (ar (ar (ar σ 14 (upd (σ.2 14) ((σ.2 1) ((σ.2 5) x1.toNatClampNeg).toNatClampNeg).toNatClampNeg ((σ.2 17) x1.toNatClampNeg))) 15 (upd (σ.2 15) ((σ.2 18) x1.toNatClampNeg).toNatClampNeg ((σ.2 17) x1.toNatClampNeg))) 8 (upd (σ.2 8) ((σ.1 10) - (σ.1 10) / 400 * 400).toNatClampNeg ((σ.2 5) x1.toNatClampNeg))) 9 (upd (σ.2 9) ((σ.1 10) - (σ.1 10) / 400 * 400).toNatClampNeg (σ.1 9))) 10 (upd (σ.2 10) ((σ.1 10) - (σ.1 10) / 400 * 400).toNatClampNeg ((σ.2 17) x1.toNatClampNeg))) 10 ((σ.1 10) + 1)) := j_ig c0 (j_ip c1 rfl)
      rw [E]
      exact (mV_com (mV_ar (mV_ar (mV_ar (mV_ar (mV_ar hv (by decide)) (by decide)) (by decide)) (by decide)) (by decide)) (m_one hv.2.2.2.1 hv.2.2.2.2 hK))
    ·
      have E : fX8_commit σ x1 = (sg (ar (ar (ar (ar σ 14 (upd (σ.2 14) ((σ.2 1) ((σ.2 5) x1.toNatClampNeg).toNatClampNeg).toNatClampNeg ((σ.2 17) x1.toNatClampNeg))) 8 (upd (σ.2 8) ((σ.1 10) - (σ.1 10) / 400 * 400).toNatClampNeg ((σ.2 5) x1.toNatClampNeg))) 9 (upd (σ.2 9) ((σ.1 10) - (σ.1 10) / 400 * 400).toNatClampNeg (σ.1 9))) 10 (upd (σ.2 10) ((σ.1 10) - (σ.1 10) / 400 * 400).toNatClampNeg ((σ.2 17) x1.toNatClampNeg))) 10 ((σ.1 10) + 1)) := j_ig c0 (j_ig c1 rfl)
      rw [E]
      exact (mV_com (mV_ar (mV_ar (mV_ar (mV_ar hv (by decide)) (by decide)) (by decide)) (by decide)) (m_one hv.2.2.2.1 hv.2.2.2.2 hK))
theorem mv_fX8_leave {K : Nat} {σ : St} (hb : mB σ) (hv : mV K σ) (hK : K < 2 ^ 30) : mV (K + 1) (fX8_leave σ).2 := by
  by_cases c0 : 0 ≤ ((σ.2 5) ((σ.1 0) - 1).toNatClampNeg)
  ·
    by_cases c1 : ((σ.2 0) ((σ.2 5) ((σ.1 0) - 1).toNatClampNeg).toNatClampNeg) = 5
    ·
      have E : fX8_leave σ = (1, (fX8_squash (sg (ar σ 5 (upd (σ.2 5) ((σ.1 0) - 1).toNatClampNeg (-1))) 13 ((σ.1 13) + 1)) (σ.1 0) (σ.1 17))) := j_ip c0 (j_ip c1 rfl)
      rw [E]
      exact (mV_up (mv_fX8_squash (mB.fq (mB.fq hb (Fq.ar (by decide))) (Fq.sg (by decide))) (mV_sg (mV_word hv (mW_upd hv.1 m_none)) (by decide)) hb.2.2.2.2))
    ·
      by_cases c2 : (((fX8_commit σ ((σ.1 0) - 1)).2 0) ((σ.2 5) ((σ.1 0) - 1).toNatClampNeg).toNatClampNeg) = 6
      ·
        have E : fX8_leave σ = (0, (sg (ar (fX8_commit σ ((σ.1 0) - 1)) 5 (upd ((fX8_commit σ ((σ.1 0) - 1)).2 5) ((σ.1 0) - 1).toNatClampNeg (-1))) 15 1)) := j_ip c0 (j_ig c1 (j_ip c2 rfl))
        rw [E]
        exact (mV_sg (mV_word (mv_fX8_commit hb hv hK) (mW_upd (mv_fX8_commit hb hv hK).1 m_none)) (by decide))
      ·
        by_cases c3 : ((fX8_commit σ ((σ.1 0) - 1)).1 4) = ((σ.1 0) - 1)
        ·
          by_cases c4 : (((fX8_commit σ ((σ.1 0) - 1)).2 6) ((σ.1 0) - 1).toNatClampNeg) = 0
          ·
            have E : fX8_leave σ = (0, (ar (fX8_commit σ ((σ.1 0) - 1)) 5 (upd ((fX8_commit σ ((σ.1 0) - 1)).2 5) ((σ.1 0) - 1).toNatClampNeg (-1)))) := j_ip c0 (j_ig c1 (j_ig c2 (j_ip c3 (j_ip c4 rfl))))
            rw [E]
            exact (mV_word (mv_fX8_commit hb hv hK) (mW_upd (mv_fX8_commit hb hv hK).1 m_none))
          ·
            by_cases c5 : (((fX8_commit σ ((σ.1 0) - 1)).2 0) ((σ.2 5) ((σ.1 0) - 1).toNatClampNeg).toNatClampNeg) = 4
            ·
              have E : fX8_leave σ = (0, (fX8_know (ar (fX8_commit σ ((σ.1 0) - 1)) 5 (upd ((fX8_commit σ ((σ.1 0) - 1)).2 5) ((σ.1 0) - 1).toNatClampNeg (-1))) ((σ.1 0) - 1) (((fX8_commit σ ((σ.1 0) - 1)).2 19) ((σ.1 0) - 1).toNatClampNeg))) := j_ip c0 (j_ig c1 (j_ig c2 (j_ip c3 (j_ig c4 (j_ip c5 rfl)))))
              rw [E]
              exact (mv_fX8_know (mB.fq (mB.fq hb (fr_fX8_commit _ _)) (Fq.ar (by decide))) (mV_word (mv_fX8_commit hb hv hK) (mW_upd (mv_fX8_commit hb hv hK).1 m_none)))
            ·
              have E : fX8_leave σ = (0, (ar (fX8_commit σ ((σ.1 0) - 1)) 5 (upd ((fX8_commit σ ((σ.1 0) - 1)).2 5) ((σ.1 0) - 1).toNatClampNeg (-1)))) := j_ip c0 (j_ig c1 (j_ig c2 (j_ip c3 (j_ig c4 (j_ig c5 rfl)))))
              rw [E]
              exact (mV_word (mv_fX8_commit hb hv hK) (mW_upd (mv_fX8_commit hb hv hK).1 m_none))
        ·
          have E : fX8_leave σ = (0, (ar (fX8_commit σ ((σ.1 0) - 1)) 5 (upd ((fX8_commit σ ((σ.1 0) - 1)).2 5) ((σ.1 0) - 1).toNatClampNeg (-1)))) := j_ip c0 (j_ig c1 (j_ig c2 (j_ig c3 rfl)))
          rw [E]
          exact (mV_word (mv_fX8_commit hb hv hK) (mW_upd (mv_fX8_commit hb hv hK).1 m_none))
  ·
    have E : fX8_leave σ = (4, σ) := j_ig c0 rfl
    rw [E]
    exact (mV_up hv)
theorem mv_fX8_work {K : Nat} {σ : St} (hb : mB σ) (hv : mV K σ) : mV K (fX8_work σ).2 := by
  by_cases c0 : ((σ.2 7) (σ.1 1).toNatClampNeg) = 0
  ·
    by_cases c1 : (fX8_isReady σ ((σ.2 5) (σ.1 1).toNatClampNeg)) = 0
    ·
      have E : fX8_work σ = (2, σ) := j_ip c0 (j_ip c1 rfl)
      rw [E]
      exact hv
    ·
      by_cases c2 : (fX8_cyclesOf (ar (ar σ 7 (upd (σ.2 7) (σ.1 1).toNatClampNeg (vp_nar .boolean 1))) 16 (upd (σ.2 16) (σ.1 1).toNatClampNeg (((σ.2 16) (σ.1 1).toNatClampNeg) + 1))) ((σ.2 5) (σ.1 1).toNatClampNeg)) ≤ (((σ.2 16) (σ.1 1).toNatClampNeg) + 1)
      ·
        have E : fX8_work σ = (4, (ar (ar σ 7 (upd (σ.2 7) (σ.1 1).toNatClampNeg (vp_nar .boolean 1))) 16 (upd (σ.2 16) (σ.1 1).toNatClampNeg (((σ.2 16) (σ.1 1).toNatClampNeg) + 1)))) := j_ip c0 (j_ig c1 (j_ip c2 rfl))
        rw [E]
        exact (mV_ar (mV_ar hv (by decide)) (by decide))
      ·
        have E : fX8_work σ = (3, (ar (ar σ 7 (upd (σ.2 7) (σ.1 1).toNatClampNeg (vp_nar .boolean 1))) 16 (upd (σ.2 16) (σ.1 1).toNatClampNeg (((σ.2 16) (σ.1 1).toNatClampNeg) + 1)))) := j_ip c0 (j_ig c1 (j_ig c2 rfl))
        rw [E]
        exact (mV_ar (mV_ar hv (by decide)) (by decide))
  ·
    by_cases c1 : (fX8_cyclesOf (ar (ar σ 7 (upd (σ.2 7) (σ.1 1).toNatClampNeg (vp_nar .boolean 1))) 16 (upd (σ.2 16) (σ.1 1).toNatClampNeg (((σ.2 16) (σ.1 1).toNatClampNeg) + 1))) ((σ.2 5) (σ.1 1).toNatClampNeg)) ≤ (((σ.2 16) (σ.1 1).toNatClampNeg) + 1)
    ·
      have E : fX8_work σ = (4, (ar (ar σ 7 (upd (σ.2 7) (σ.1 1).toNatClampNeg (vp_nar .boolean 1))) 16 (upd (σ.2 16) (σ.1 1).toNatClampNeg (((σ.2 16) (σ.1 1).toNatClampNeg) + 1)))) := j_ig c0 (j_ip c1 rfl)
      rw [E]
      exact (mV_ar (mV_ar hv (by decide)) (by decide))
    ·
      have E : fX8_work σ = (3, (ar (ar σ 7 (upd (σ.2 7) (σ.1 1).toNatClampNeg (vp_nar .boolean 1))) 16 (upd (σ.2 16) (σ.1 1).toNatClampNeg (((σ.2 16) (σ.1 1).toNatClampNeg) + 1)))) := j_ig c0 (j_ig c1 rfl)
      rw [E]
      exact (mV_ar (mV_ar hv (by decide)) (by decide))
theorem mv_fX8_moveOn {K : Nat} {σ : St} {x1 : Int32} (hb : mB σ) (hv : mV K σ) (h1 : vp_in x1 8) : mV K (fX8_moveOn σ x1) := by
  have E : fX8_moveOn σ x1 = (ar (ar (ar (ar (ar (ar (ar (ar σ 5 (upd (σ.2 5) (x1 + 1).toNatClampNeg ((σ.2 5) x1.toNatClampNeg))) 6 (upd (σ.2 6) (x1 + 1).toNatClampNeg (vp_nar .boolean ((σ.2 6) x1.toNatClampNeg)))) 7 (upd (σ.2 7) (x1 + 1).toNatClampNeg (vp_nar .boolean ((σ.2 7) x1.toNatClampNeg)))) 16 (upd (σ.2 16) (x1 + 1).toNatClampNeg ((σ.2 16) x1.toNatClampNeg))) 17 (upd (σ.2 17) (x1 + 1).toNatClampNeg ((σ.2 17) x1.toNatClampNeg))) 18 (upd (σ.2 18) (x1 + 1).toNatClampNeg ((σ.2 18) x1.toNatClampNeg))) 19 (upd (σ.2 19) (x1 + 1).toNatClampNeg ((σ.2 19) x1.toNatClampNeg))) 5 (upd (upd (σ.2 5) (x1 + 1).toNatClampNeg ((σ.2 5) x1.toNatClampNeg)) x1.toNatClampNeg (-1))) := rfl
  rw [E]
  exact (mV_word (mV_ar (mV_place (mV_ar (mV_ar (mV_ar (mV_ar (mV_word hv (mW_upd hv.1 (hv.1 _ (m_cl h1 (by decide))))) (by decide)) (by decide)) (by decide)) (by decide)) (mP_upd hv.2.1 (hv.2.1 _ (m_cl h1 (by decide))))) (by decide)) (mW_upd (mW_upd hv.1 (hv.1 _ (m_cl h1 (by decide)))) m_none))
theorem mv_gfX8_goOn {K : Nat} : ∀ (n : Nat) (σ : St) (x1 x2 x3 : Int32), mB σ → mV K σ → x3.toInt ≤ 6 → mV K (gfX8_goOn n σ x1 x2 x3).2 := by
  intro n
  induction n with
  | zero => intro σ x1 x2 x3 hb hv h4; exact hv
  | succ n ih =>
    intro σ x1 x2 x3 hb hv h4
    by_cases c0 : x3 < 0
    ·
      have E : gfX8_goOn (n + 1) σ x1 x2 x3 = (x1, σ) := j_ip c0 rfl
      rw [E]
      exact hv
    ·
      by_cases c1 : x3 = (σ.1 1)
      ·
        by_cases c2 : x2 = 0
        ·
          by_cases c3 : (fX8_mayGo σ x3) = 0
          ·
            have E : gfX8_goOn (n + 1) σ x1 x2 x3 = gfX8_goOn n σ x1 x2 (x3 + (-1)) := j_ig c0 (j_ip c1 (j_ip c2 (j_ip c3 rfl)))
            rw [E]
            exact (ih _ _ _ _ hb hv (by have := j_dec c0; omega))
          ·
            by_cases c4 : x3 = (σ.1 4)
            ·
              by_cases c5 : ((σ.2 6) x3.toNatClampNeg) = 0
              ·
                have E : gfX8_goOn (n + 1) σ x1 x2 x3 = gfX8_goOn n (fX8_moveOn σ x3) x1 x2 (x3 + (-1)) := j_ig c0 (j_ip c1 (j_ip c2 (j_ig c3 (j_ip c4 (j_ip c5 rfl)))))
                rw [E]
                exact (ih _ _ _ _ (mB.fq hb (fr_fX8_moveOn _ _)) (mv_fX8_moveOn hb hv (m_s (j_toGe c0) (by omega))) (by have := j_dec c0; omega))
              ·
                by_cases c6 : ((σ.2 0) ((σ.2 5) x3.toNatClampNeg).toNatClampNeg) = 4
                ·
                  have E : gfX8_goOn (n + 1) σ x1 x2 x3 = gfX8_goOn n (fX8_know (fX8_moveOn σ x3) x3 (((fX8_moveOn σ x3).2 19) (x3 + 1).toNatClampNeg)) x1 x2 (x3 + (-1)) := j_ig c0 (j_ip c1 (j_ip c2 (j_ig c3 (j_ip c4 (j_ig c5 (j_ip c6 rfl))))))
                  rw [E]
                  exact (ih _ _ _ _ (mB.fq (mB.fq hb (fr_fX8_moveOn _ _)) (fr_fX8_know _ _ _)) (mv_fX8_know (mB.fq hb (fr_fX8_moveOn _ _)) (mv_fX8_moveOn hb hv (m_s (j_toGe c0) (by omega)))) (by have := j_dec c0; omega))
                ·
                  have E : gfX8_goOn (n + 1) σ x1 x2 x3 = gfX8_goOn n (fX8_moveOn σ x3) x1 x2 (x3 + (-1)) := j_ig c0 (j_ip c1 (j_ip c2 (j_ig c3 (j_ip c4 (j_ig c5 (j_ig c6 rfl))))))
                  rw [E]
                  exact (ih _ _ _ _ (mB.fq hb (fr_fX8_moveOn _ _)) (mv_fX8_moveOn hb hv (m_s (j_toGe c0) (by omega))) (by have := j_dec c0; omega))
            ·
              have E : gfX8_goOn (n + 1) σ x1 x2 x3 = gfX8_goOn n (fX8_moveOn σ x3) x1 x2 (x3 + (-1)) := j_ig c0 (j_ip c1 (j_ip c2 (j_ig c3 (j_ig c4 rfl))))
              rw [E]
              exact (ih _ _ _ _ (mB.fq hb (fr_fX8_moveOn _ _)) (mv_fX8_moveOn hb hv (m_s (j_toGe c0) (by omega))) (by have := j_dec c0; omega))
        ·
          by_cases c3 : ((σ.2 5) x3.toNatClampNeg) < 0
          ·
            by_cases c4 : (fX8_mayGo σ x3) = 0
            ·
              have E : gfX8_goOn (n + 1) σ x1 x2 x3 = gfX8_goOn n σ x1 x2 (x3 + (-1)) := j_ig c0 (j_ip c1 (j_ig c2 (j_ip c3 (j_ip c4 rfl))))
              rw [E]
              exact (ih _ _ _ _ hb hv (by have := j_dec c0; omega))
            ·
              by_cases c5 : x3 = (σ.1 4)
              ·
                by_cases c6 : ((σ.2 6) x3.toNatClampNeg) = 0
                ·
                  have E : gfX8_goOn (n + 1) σ x1 x2 x3 = gfX8_goOn n (fX8_moveOn σ x3) x1 x2 (x3 + (-1)) := j_ig c0 (j_ip c1 (j_ig c2 (j_ip c3 (j_ig c4 (j_ip c5 (j_ip c6 rfl))))))
                  rw [E]
                  exact (ih _ _ _ _ (mB.fq hb (fr_fX8_moveOn _ _)) (mv_fX8_moveOn hb hv (m_s (j_toGe c0) (by omega))) (by have := j_dec c0; omega))
                ·
                  by_cases c7 : ((σ.2 0) ((σ.2 5) x3.toNatClampNeg).toNatClampNeg) = 4
                  ·
                    have E : gfX8_goOn (n + 1) σ x1 x2 x3 = gfX8_goOn n (fX8_know (fX8_moveOn σ x3) x3 (((fX8_moveOn σ x3).2 19) (x3 + 1).toNatClampNeg)) x1 x2 (x3 + (-1)) := j_ig c0 (j_ip c1 (j_ig c2 (j_ip c3 (j_ig c4 (j_ip c5 (j_ig c6 (j_ip c7 rfl)))))))
                    rw [E]
                    exact (ih _ _ _ _ (mB.fq (mB.fq hb (fr_fX8_moveOn _ _)) (fr_fX8_know _ _ _)) (mv_fX8_know (mB.fq hb (fr_fX8_moveOn _ _)) (mv_fX8_moveOn hb hv (m_s (j_toGe c0) (by omega)))) (by have := j_dec c0; omega))
                  ·
                    have E : gfX8_goOn (n + 1) σ x1 x2 x3 = gfX8_goOn n (fX8_moveOn σ x3) x1 x2 (x3 + (-1)) := j_ig c0 (j_ip c1 (j_ig c2 (j_ip c3 (j_ig c4 (j_ip c5 (j_ig c6 (j_ig c7 rfl)))))))
                    rw [E]
                    exact (ih _ _ _ _ (mB.fq hb (fr_fX8_moveOn _ _)) (mv_fX8_moveOn hb hv (m_s (j_toGe c0) (by omega))) (by have := j_dec c0; omega))
              ·
                have E : gfX8_goOn (n + 1) σ x1 x2 x3 = gfX8_goOn n (fX8_moveOn σ x3) x1 x2 (x3 + (-1)) := j_ig c0 (j_ip c1 (j_ig c2 (j_ip c3 (j_ig c4 (j_ig c5 rfl)))))
                rw [E]
                exact (ih _ _ _ _ (mB.fq hb (fr_fX8_moveOn _ _)) (mv_fX8_moveOn hb hv (m_s (j_toGe c0) (by omega))) (by have := j_dec c0; omega))
          ·
            by_cases c4 : (fX8_mayGo (fX8_work σ).2 x3) = 0
            ·
              have E : gfX8_goOn (n + 1) σ x1 x2 x3 = gfX8_goOn n (fX8_work σ).2 (fX8_work σ).1 x2 (x3 + (-1)) := j_ig c0 (j_ip c1 (j_ig c2 (j_ig c3 (j_ip c4 rfl))))
              rw [E]
              exact (ih _ _ _ _ (mB.fq hb (fr_fX8_work _)) (mv_fX8_work hb hv) (by have := j_dec c0; omega))
            ·
              by_cases c5 : x3 = ((fX8_work σ).2.1 4)
              ·
                by_cases c6 : (((fX8_work σ).2.2 6) x3.toNatClampNeg) = 0
                ·
                  have E : gfX8_goOn (n + 1) σ x1 x2 x3 = gfX8_goOn n (fX8_moveOn (fX8_work σ).2 x3) (fX8_work σ).1 x2 (x3 + (-1)) := j_ig c0 (j_ip c1 (j_ig c2 (j_ig c3 (j_ig c4 (j_ip c5 (j_ip c6 rfl))))))
                  rw [E]
                  exact (ih _ _ _ _ (mB.fq (mB.fq hb (fr_fX8_work _)) (fr_fX8_moveOn _ _)) (mv_fX8_moveOn (mB.fq hb (fr_fX8_work _)) (mv_fX8_work hb hv) (m_s (j_toGe c0) (by omega))) (by have := j_dec c0; omega))
                ·
                  by_cases c7 : (((fX8_work σ).2.2 0) (((fX8_work σ).2.2 5) x3.toNatClampNeg).toNatClampNeg) = 4
                  ·
                    have E : gfX8_goOn (n + 1) σ x1 x2 x3 = gfX8_goOn n (fX8_know (fX8_moveOn (fX8_work σ).2 x3) x3 (((fX8_moveOn (fX8_work σ).2 x3).2 19) (x3 + 1).toNatClampNeg)) (fX8_work σ).1 x2 (x3 + (-1)) := j_ig c0 (j_ip c1 (j_ig c2 (j_ig c3 (j_ig c4 (j_ip c5 (j_ig c6 (j_ip c7 rfl)))))))
                    rw [E]
                    exact (ih _ _ _ _ (mB.fq (mB.fq (mB.fq hb (fr_fX8_work _)) (fr_fX8_moveOn _ _)) (fr_fX8_know _ _ _)) (mv_fX8_know (mB.fq (mB.fq hb (fr_fX8_work _)) (fr_fX8_moveOn _ _)) (mv_fX8_moveOn (mB.fq hb (fr_fX8_work _)) (mv_fX8_work hb hv) (m_s (j_toGe c0) (by omega)))) (by have := j_dec c0; omega))
                  ·
                    have E : gfX8_goOn (n + 1) σ x1 x2 x3 = gfX8_goOn n (fX8_moveOn (fX8_work σ).2 x3) (fX8_work σ).1 x2 (x3 + (-1)) := j_ig c0 (j_ip c1 (j_ig c2 (j_ig c3 (j_ig c4 (j_ip c5 (j_ig c6 (j_ig c7 rfl)))))))
                    rw [E]
                    exact (ih _ _ _ _ (mB.fq (mB.fq hb (fr_fX8_work _)) (fr_fX8_moveOn _ _)) (mv_fX8_moveOn (mB.fq hb (fr_fX8_work _)) (mv_fX8_work hb hv) (m_s (j_toGe c0) (by omega))) (by have := j_dec c0; omega))
              ·
                have E : gfX8_goOn (n + 1) σ x1 x2 x3 = gfX8_goOn n (fX8_moveOn (fX8_work σ).2 x3) (fX8_work σ).1 x2 (x3 + (-1)) := j_ig c0 (j_ip c1 (j_ig c2 (j_ig c3 (j_ig c4 (j_ig c5 rfl)))))
                rw [E]
                exact (ih _ _ _ _ (mB.fq (mB.fq hb (fr_fX8_work _)) (fr_fX8_moveOn _ _)) (mv_fX8_moveOn (mB.fq hb (fr_fX8_work _)) (mv_fX8_work hb hv) (m_s (j_toGe c0) (by omega))) (by have := j_dec c0; omega))
      ·
        by_cases c2 : (fX8_mayGo σ x3) = 0
        ·
          have E : gfX8_goOn (n + 1) σ x1 x2 x3 = gfX8_goOn n σ x1 x2 (x3 + (-1)) := j_ig c0 (j_ig c1 (j_ip c2 rfl))
          rw [E]
          exact (ih _ _ _ _ hb hv (by have := j_dec c0; omega))
        ·
          by_cases c3 : x3 = (σ.1 4)
          ·
            by_cases c4 : ((σ.2 6) x3.toNatClampNeg) = 0
            ·
              have E : gfX8_goOn (n + 1) σ x1 x2 x3 = gfX8_goOn n (fX8_moveOn σ x3) x1 x2 (x3 + (-1)) := j_ig c0 (j_ig c1 (j_ig c2 (j_ip c3 (j_ip c4 rfl))))
              rw [E]
              exact (ih _ _ _ _ (mB.fq hb (fr_fX8_moveOn _ _)) (mv_fX8_moveOn hb hv (m_s (j_toGe c0) (by omega))) (by have := j_dec c0; omega))
            ·
              by_cases c5 : ((σ.2 0) ((σ.2 5) x3.toNatClampNeg).toNatClampNeg) = 4
              ·
                have E : gfX8_goOn (n + 1) σ x1 x2 x3 = gfX8_goOn n (fX8_know (fX8_moveOn σ x3) x3 (((fX8_moveOn σ x3).2 19) (x3 + 1).toNatClampNeg)) x1 x2 (x3 + (-1)) := j_ig c0 (j_ig c1 (j_ig c2 (j_ip c3 (j_ig c4 (j_ip c5 rfl)))))
                rw [E]
                exact (ih _ _ _ _ (mB.fq (mB.fq hb (fr_fX8_moveOn _ _)) (fr_fX8_know _ _ _)) (mv_fX8_know (mB.fq hb (fr_fX8_moveOn _ _)) (mv_fX8_moveOn hb hv (m_s (j_toGe c0) (by omega)))) (by have := j_dec c0; omega))
              ·
                have E : gfX8_goOn (n + 1) σ x1 x2 x3 = gfX8_goOn n (fX8_moveOn σ x3) x1 x2 (x3 + (-1)) := j_ig c0 (j_ig c1 (j_ig c2 (j_ip c3 (j_ig c4 (j_ig c5 rfl)))))
                rw [E]
                exact (ih _ _ _ _ (mB.fq hb (fr_fX8_moveOn _ _)) (mv_fX8_moveOn hb hv (m_s (j_toGe c0) (by omega))) (by have := j_dec c0; omega))
          ·
            have E : gfX8_goOn (n + 1) σ x1 x2 x3 = gfX8_goOn n (fX8_moveOn σ x3) x1 x2 (x3 + (-1)) := j_ig c0 (j_ig c1 (j_ig c2 (j_ig c3 rfl)))
            rw [E]
            exact (ih _ _ _ _ (mB.fq hb (fr_fX8_moveOn _ _)) (mv_fX8_moveOn hb hv (m_s (j_toGe c0) (by omega))) (by have := j_dec c0; omega))
theorem mv_fX8_goOn {K : Nat} {σ : St} (hb : mB σ) (hv : mV K σ) : mV K (fX8_goOn σ).2 := by
  by_cases c0 : ((σ.2 5) (σ.1 1).toNatClampNeg) < 0
  ·
    have E : fX8_goOn σ = gfX8_goOn 9 σ 4 0 ((σ.1 0) - 2) := j_ip c0 rfl
    rw [E]
    exact (mv_gfX8_goOn 9 σ _ _ _ hb hv hb.1.two.2)
  ·
    have E : fX8_goOn σ = gfX8_goOn 9 σ 4 1 ((σ.1 0) - 2) := j_ig c0 rfl
    rw [E]
    exact (mv_gfX8_goOn 9 σ _ _ _ hb hv hb.1.two.2)
theorem mv_fX8_plainRun {K : Nat} {σ : St} {x1 : Int32} (hb : mB σ) (hv : mV K σ) : mV K (fX8_plainRun σ x1) := by
  by_cases c0 : ((σ.2 0) x1.toNatClampNeg) = 0
  ·
    by_cases c1 : (fX8_writes (ar (ar (ar (ar σ 17 (upd (σ.2 17) (0 : Int32).toNatClampNeg 0)) 18 (upd (σ.2 18) (0 : Int32).toNatClampNeg (fX8_modulo ((σ.2 12) ((σ.2 2) x1.toNatClampNeg).toNatClampNeg) 64))) 19 (upd (σ.2 19) (0 : Int32).toNatClampNeg (-1))) 17 (upd (upd (σ.2 17) (0 : Int32).toNatClampNeg 0) (0 : Int32).toNatClampNeg ((((σ.2 12) ((σ.2 2) x1.toNatClampNeg).toNatClampNeg) + ((σ.2 12) ((σ.2 3) x1.toNatClampNeg).toNatClampNeg)) + ((σ.2 4) x1.toNatClampNeg)))) x1) = 0
    ·
      have E : fX8_plainRun σ x1 = (ar (ar (ar (ar σ 17 (upd (σ.2 17) (0 : Int32).toNatClampNeg 0)) 18 (upd (σ.2 18) (0 : Int32).toNatClampNeg (fX8_modulo ((σ.2 12) ((σ.2 2) x1.toNatClampNeg).toNatClampNeg) 64))) 19 (upd (σ.2 19) (0 : Int32).toNatClampNeg (-1))) 17 (upd (upd (σ.2 17) (0 : Int32).toNatClampNeg 0) (0 : Int32).toNatClampNeg ((((σ.2 12) ((σ.2 2) x1.toNatClampNeg).toNatClampNeg) + ((σ.2 12) ((σ.2 3) x1.toNatClampNeg).toNatClampNeg)) + ((σ.2 4) x1.toNatClampNeg)))) := j_ip c0 (j_ip c1 rfl)
      rw [E]
      exact (mV_ar (mV_ar (mV_place (mV_ar hv (by decide)) (mP_upd hv.2.1 (m_mod64 _))) (by decide)) (by decide))
    ·
      have E : fX8_plainRun σ x1 = (ar (ar (ar (ar (ar σ 17 (upd (σ.2 17) (0 : Int32).toNatClampNeg 0)) 18 (upd (σ.2 18) (0 : Int32).toNatClampNeg (fX8_modulo ((σ.2 12) ((σ.2 2) x1.toNatClampNeg).toNatClampNeg) 64))) 19 (upd (σ.2 19) (0 : Int32).toNatClampNeg (-1))) 17 (upd (upd (σ.2 17) (0 : Int32).toNatClampNeg 0) (0 : Int32).toNatClampNeg ((((σ.2 12) ((σ.2 2) x1.toNatClampNeg).toNatClampNeg) + ((σ.2 12) ((σ.2 3) x1.toNatClampNeg).toNatClampNeg)) + ((σ.2 4) x1.toNatClampNeg)))) 12 (upd (σ.2 12) ((σ.2 1) x1.toNatClampNeg).toNatClampNeg ((((σ.2 12) ((σ.2 2) x1.toNatClampNeg).toNatClampNeg) + ((σ.2 12) ((σ.2 3) x1.toNatClampNeg).toNatClampNeg)) + ((σ.2 4) x1.toNatClampNeg)))) := j_ip c0 (j_ig c1 rfl)
      rw [E]
      exact (mV_ar (mV_ar (mV_ar (mV_place (mV_ar hv (by decide)) (mP_upd hv.2.1 (m_mod64 _))) (by decide)) (by decide)) (by decide))
  ·
    by_cases c1 : ((σ.2 0) x1.toNatClampNeg) = 1
    ·
      by_cases c2 : (fX8_writes (ar (ar (ar (ar σ 17 (upd (σ.2 17) (0 : Int32).toNatClampNeg 0)) 18 (upd (σ.2 18) (0 : Int32).toNatClampNeg (fX8_modulo ((σ.2 12) ((σ.2 2) x1.toNatClampNeg).toNatClampNeg) 64))) 19 (upd (σ.2 19) (0 : Int32).toNatClampNeg (-1))) 17 (upd (upd (σ.2 17) (0 : Int32).toNatClampNeg 0) (0 : Int32).toNatClampNeg ((σ.2 13) (fX8_modulo ((σ.2 12) ((σ.2 2) x1.toNatClampNeg).toNatClampNeg) 64).toNatClampNeg))) x1) = 0
      ·
        have E : fX8_plainRun σ x1 = (ar (ar (ar (ar σ 17 (upd (σ.2 17) (0 : Int32).toNatClampNeg 0)) 18 (upd (σ.2 18) (0 : Int32).toNatClampNeg (fX8_modulo ((σ.2 12) ((σ.2 2) x1.toNatClampNeg).toNatClampNeg) 64))) 19 (upd (σ.2 19) (0 : Int32).toNatClampNeg (-1))) 17 (upd (upd (σ.2 17) (0 : Int32).toNatClampNeg 0) (0 : Int32).toNatClampNeg ((σ.2 13) (fX8_modulo ((σ.2 12) ((σ.2 2) x1.toNatClampNeg).toNatClampNeg) 64).toNatClampNeg))) := j_ig c0 (j_ip c1 (j_ip c2 rfl))
        rw [E]
        exact (mV_ar (mV_ar (mV_place (mV_ar hv (by decide)) (mP_upd hv.2.1 (m_mod64 _))) (by decide)) (by decide))
      ·
        have E : fX8_plainRun σ x1 = (ar (ar (ar (ar (ar σ 17 (upd (σ.2 17) (0 : Int32).toNatClampNeg 0)) 18 (upd (σ.2 18) (0 : Int32).toNatClampNeg (fX8_modulo ((σ.2 12) ((σ.2 2) x1.toNatClampNeg).toNatClampNeg) 64))) 19 (upd (σ.2 19) (0 : Int32).toNatClampNeg (-1))) 17 (upd (upd (σ.2 17) (0 : Int32).toNatClampNeg 0) (0 : Int32).toNatClampNeg ((σ.2 13) (fX8_modulo ((σ.2 12) ((σ.2 2) x1.toNatClampNeg).toNatClampNeg) 64).toNatClampNeg))) 12 (upd (σ.2 12) ((σ.2 1) x1.toNatClampNeg).toNatClampNeg ((σ.2 13) (fX8_modulo ((σ.2 12) ((σ.2 2) x1.toNatClampNeg).toNatClampNeg) 64).toNatClampNeg))) := j_ig c0 (j_ip c1 (j_ig c2 rfl))
        rw [E]
        exact (mV_ar (mV_ar (mV_ar (mV_place (mV_ar hv (by decide)) (mP_upd hv.2.1 (m_mod64 _))) (by decide)) (by decide)) (by decide))
    ·
      by_cases c2 : ((σ.2 0) x1.toNatClampNeg) = 3
      ·
        by_cases c3 : (fX8_writes (ar (ar (ar (ar σ 17 (upd (σ.2 17) (0 : Int32).toNatClampNeg 0)) 18 (upd (σ.2 18) (0 : Int32).toNatClampNeg (fX8_modulo ((σ.2 12) ((σ.2 2) x1.toNatClampNeg).toNatClampNeg) 64))) 19 (upd (σ.2 19) (0 : Int32).toNatClampNeg (-1))) 17 (upd (upd (σ.2 17) (0 : Int32).toNatClampNeg 0) (0 : Int32).toNatClampNeg (((σ.2 12) ((σ.2 2) x1.toNatClampNeg).toNatClampNeg) * ((σ.2 12) ((σ.2 3) x1.toNatClampNeg).toNatClampNeg)))) x1) = 0
        ·
          have E : fX8_plainRun σ x1 = (ar (ar (ar (ar σ 17 (upd (σ.2 17) (0 : Int32).toNatClampNeg 0)) 18 (upd (σ.2 18) (0 : Int32).toNatClampNeg (fX8_modulo ((σ.2 12) ((σ.2 2) x1.toNatClampNeg).toNatClampNeg) 64))) 19 (upd (σ.2 19) (0 : Int32).toNatClampNeg (-1))) 17 (upd (upd (σ.2 17) (0 : Int32).toNatClampNeg 0) (0 : Int32).toNatClampNeg (((σ.2 12) ((σ.2 2) x1.toNatClampNeg).toNatClampNeg) * ((σ.2 12) ((σ.2 3) x1.toNatClampNeg).toNatClampNeg)))) := j_ig c0 (j_ig c1 (j_ip c2 (j_ip c3 rfl)))
          rw [E]
          exact (mV_ar (mV_ar (mV_place (mV_ar hv (by decide)) (mP_upd hv.2.1 (m_mod64 _))) (by decide)) (by decide))
        ·
          have E : fX8_plainRun σ x1 = (ar (ar (ar (ar (ar σ 17 (upd (σ.2 17) (0 : Int32).toNatClampNeg 0)) 18 (upd (σ.2 18) (0 : Int32).toNatClampNeg (fX8_modulo ((σ.2 12) ((σ.2 2) x1.toNatClampNeg).toNatClampNeg) 64))) 19 (upd (σ.2 19) (0 : Int32).toNatClampNeg (-1))) 17 (upd (upd (σ.2 17) (0 : Int32).toNatClampNeg 0) (0 : Int32).toNatClampNeg (((σ.2 12) ((σ.2 2) x1.toNatClampNeg).toNatClampNeg) * ((σ.2 12) ((σ.2 3) x1.toNatClampNeg).toNatClampNeg)))) 12 (upd (σ.2 12) ((σ.2 1) x1.toNatClampNeg).toNatClampNeg (((σ.2 12) ((σ.2 2) x1.toNatClampNeg).toNatClampNeg) * ((σ.2 12) ((σ.2 3) x1.toNatClampNeg).toNatClampNeg)))) := j_ig c0 (j_ig c1 (j_ip c2 (j_ig c3 rfl)))
          rw [E]
          exact (mV_ar (mV_ar (mV_ar (mV_place (mV_ar hv (by decide)) (mP_upd hv.2.1 (m_mod64 _))) (by decide)) (by decide)) (by decide))
      ·
        by_cases c3 : ((σ.2 0) x1.toNatClampNeg) = 7
        ·
          by_cases c4 : (fX8_writes (ar (ar (ar (ar σ 17 (upd (σ.2 17) (0 : Int32).toNatClampNeg 0)) 18 (upd (σ.2 18) (0 : Int32).toNatClampNeg (fX8_modulo ((σ.2 12) ((σ.2 2) x1.toNatClampNeg).toNatClampNeg) 64))) 19 (upd (σ.2 19) (0 : Int32).toNatClampNeg (-1))) 17 (upd (upd (σ.2 17) (0 : Int32).toNatClampNeg 0) (0 : Int32).toNatClampNeg ((σ.2 4) x1.toNatClampNeg))) x1) = 0
          ·
            have E : fX8_plainRun σ x1 = (ar (ar (ar (ar σ 17 (upd (σ.2 17) (0 : Int32).toNatClampNeg 0)) 18 (upd (σ.2 18) (0 : Int32).toNatClampNeg (fX8_modulo ((σ.2 12) ((σ.2 2) x1.toNatClampNeg).toNatClampNeg) 64))) 19 (upd (σ.2 19) (0 : Int32).toNatClampNeg (-1))) 17 (upd (upd (σ.2 17) (0 : Int32).toNatClampNeg 0) (0 : Int32).toNatClampNeg ((σ.2 4) x1.toNatClampNeg))) := j_ig c0 (j_ig c1 (j_ig c2 (j_ip c3 (j_ip c4 rfl))))
            rw [E]
            exact (mV_ar (mV_ar (mV_place (mV_ar hv (by decide)) (mP_upd hv.2.1 (m_mod64 _))) (by decide)) (by decide))
          ·
            have E : fX8_plainRun σ x1 = (ar (ar (ar (ar (ar σ 17 (upd (σ.2 17) (0 : Int32).toNatClampNeg 0)) 18 (upd (σ.2 18) (0 : Int32).toNatClampNeg (fX8_modulo ((σ.2 12) ((σ.2 2) x1.toNatClampNeg).toNatClampNeg) 64))) 19 (upd (σ.2 19) (0 : Int32).toNatClampNeg (-1))) 17 (upd (upd (σ.2 17) (0 : Int32).toNatClampNeg 0) (0 : Int32).toNatClampNeg ((σ.2 4) x1.toNatClampNeg))) 12 (upd (σ.2 12) ((σ.2 1) x1.toNatClampNeg).toNatClampNeg ((σ.2 4) x1.toNatClampNeg))) := j_ig c0 (j_ig c1 (j_ig c2 (j_ip c3 (j_ig c4 rfl))))
            rw [E]
            exact (mV_ar (mV_ar (mV_ar (mV_place (mV_ar hv (by decide)) (mP_upd hv.2.1 (m_mod64 _))) (by decide)) (by decide)) (by decide))
        ·
          by_cases c4 : ((σ.2 0) x1.toNatClampNeg) = 2
          ·
            by_cases c5 : (fX8_writes (ar (ar (ar (ar (ar σ 17 (upd (σ.2 17) (0 : Int32).toNatClampNeg 0)) 18 (upd (σ.2 18) (0 : Int32).toNatClampNeg (fX8_modulo ((σ.2 12) ((σ.2 2) x1.toNatClampNeg).toNatClampNeg) 64))) 19 (upd (σ.2 19) (0 : Int32).toNatClampNeg (-1))) 17 (upd (upd (σ.2 17) (0 : Int32).toNatClampNeg 0) (0 : Int32).toNatClampNeg ((σ.2 12) ((σ.2 3) x1.toNatClampNeg).toNatClampNeg))) 13 (upd (σ.2 13) (fX8_modulo ((σ.2 12) ((σ.2 2) x1.toNatClampNeg).toNatClampNeg) 64).toNatClampNeg ((σ.2 12) ((σ.2 3) x1.toNatClampNeg).toNatClampNeg))) x1) = 0
            ·
              have E : fX8_plainRun σ x1 = (ar (ar (ar (ar (ar σ 17 (upd (σ.2 17) (0 : Int32).toNatClampNeg 0)) 18 (upd (σ.2 18) (0 : Int32).toNatClampNeg (fX8_modulo ((σ.2 12) ((σ.2 2) x1.toNatClampNeg).toNatClampNeg) 64))) 19 (upd (σ.2 19) (0 : Int32).toNatClampNeg (-1))) 17 (upd (upd (σ.2 17) (0 : Int32).toNatClampNeg 0) (0 : Int32).toNatClampNeg ((σ.2 12) ((σ.2 3) x1.toNatClampNeg).toNatClampNeg))) 13 (upd (σ.2 13) (fX8_modulo ((σ.2 12) ((σ.2 2) x1.toNatClampNeg).toNatClampNeg) 64).toNatClampNeg ((σ.2 12) ((σ.2 3) x1.toNatClampNeg).toNatClampNeg))) := j_ig c0 (j_ig c1 (j_ig c2 (j_ig c3 (j_ip c4 (j_ip c5 rfl)))))
              rw [E]
              exact (mV_ar (mV_ar (mV_ar (mV_place (mV_ar hv (by decide)) (mP_upd hv.2.1 (m_mod64 _))) (by decide)) (by decide)) (by decide))
            ·
              have E : fX8_plainRun σ x1 = (ar (ar (ar (ar (ar (ar σ 17 (upd (σ.2 17) (0 : Int32).toNatClampNeg 0)) 18 (upd (σ.2 18) (0 : Int32).toNatClampNeg (fX8_modulo ((σ.2 12) ((σ.2 2) x1.toNatClampNeg).toNatClampNeg) 64))) 19 (upd (σ.2 19) (0 : Int32).toNatClampNeg (-1))) 17 (upd (upd (σ.2 17) (0 : Int32).toNatClampNeg 0) (0 : Int32).toNatClampNeg ((σ.2 12) ((σ.2 3) x1.toNatClampNeg).toNatClampNeg))) 13 (upd (σ.2 13) (fX8_modulo ((σ.2 12) ((σ.2 2) x1.toNatClampNeg).toNatClampNeg) 64).toNatClampNeg ((σ.2 12) ((σ.2 3) x1.toNatClampNeg).toNatClampNeg))) 12 (upd (σ.2 12) ((σ.2 1) x1.toNatClampNeg).toNatClampNeg ((σ.2 12) ((σ.2 3) x1.toNatClampNeg).toNatClampNeg))) := j_ig c0 (j_ig c1 (j_ig c2 (j_ig c3 (j_ip c4 (j_ig c5 rfl)))))
              rw [E]
              exact (mV_ar (mV_ar (mV_ar (mV_ar (mV_place (mV_ar hv (by decide)) (mP_upd hv.2.1 (m_mod64 _))) (by decide)) (by decide)) (by decide)) (by decide))
          ·
            by_cases c5 : (fX8_writes (ar (ar (ar σ 17 (upd (σ.2 17) (0 : Int32).toNatClampNeg 0)) 18 (upd (σ.2 18) (0 : Int32).toNatClampNeg (fX8_modulo ((σ.2 12) ((σ.2 2) x1.toNatClampNeg).toNatClampNeg) 64))) 19 (upd (σ.2 19) (0 : Int32).toNatClampNeg (-1))) x1) = 0
            ·
              by_cases c6 : ((σ.2 0) x1.toNatClampNeg) = 4
              ·
                by_cases c7 : ((σ.2 12) ((σ.2 2) x1.toNatClampNeg).toNatClampNeg) = 0
                ·
                  have E : fX8_plainRun σ x1 = (ar (ar (ar σ 17 (upd (σ.2 17) (0 : Int32).toNatClampNeg 0)) 18 (upd (σ.2 18) (0 : Int32).toNatClampNeg (fX8_modulo ((σ.2 12) ((σ.2 2) x1.toNatClampNeg).toNatClampNeg) 64))) 19 (upd (σ.2 19) (0 : Int32).toNatClampNeg (-1))) := j_ig c0 (j_ig c1 (j_ig c2 (j_ig c3 (j_ig c4 (j_ip c5 (j_ip c6 (j_ip c7 rfl)))))))
                  rw [E]
                  exact (mV_ar (mV_place (mV_ar hv (by decide)) (mP_upd hv.2.1 (m_mod64 _))) (by decide))
                ·
                  by_cases c8 : (fX8_modulo ((σ.2 4) x1.toNatClampNeg) (σ.1 6)) < 0
                  ·
                    have E : fX8_plainRun σ x1 = (ar (ar (ar (ar σ 17 (upd (σ.2 17) (0 : Int32).toNatClampNeg 0)) 18 (upd (σ.2 18) (0 : Int32).toNatClampNeg (fX8_modulo ((σ.2 12) ((σ.2 2) x1.toNatClampNeg).toNatClampNeg) 64))) 19 (upd (σ.2 19) (0 : Int32).toNatClampNeg (-1))) 19 (upd (upd (σ.2 19) (0 : Int32).toNatClampNeg (-1)) (0 : Int32).toNatClampNeg (fX8_modulo ((σ.2 4) x1.toNatClampNeg) (σ.1 6)))) := j_ig c0 (j_ig c1 (j_ig c2 (j_ig c3 (j_ig c4 (j_ip c5 (j_ip c6 (j_ig c7 (j_ip c8 rfl))))))))
                    rw [E]
                    exact (mV_ar (mV_ar (mV_place (mV_ar hv (by decide)) (mP_upd hv.2.1 (m_mod64 _))) (by decide)) (by decide))
                  ·
                    have E : fX8_plainRun σ x1 = (sg (ar (ar (ar (ar σ 17 (upd (σ.2 17) (0 : Int32).toNatClampNeg 0)) 18 (upd (σ.2 18) (0 : Int32).toNatClampNeg (fX8_modulo ((σ.2 12) ((σ.2 2) x1.toNatClampNeg).toNatClampNeg) 64))) 19 (upd (σ.2 19) (0 : Int32).toNatClampNeg (-1))) 19 (upd (upd (σ.2 19) (0 : Int32).toNatClampNeg (-1)) (0 : Int32).toNatClampNeg (fX8_modulo ((σ.2 4) x1.toNatClampNeg) (σ.1 6)))) 19 1) := j_ig c0 (j_ig c1 (j_ig c2 (j_ig c3 (j_ig c4 (j_ip c5 (j_ip c6 (j_ig c7 (j_ig c8 rfl))))))))
                    rw [E]
                    exact (mV_sg (mV_ar (mV_ar (mV_place (mV_ar hv (by decide)) (mP_upd hv.2.1 (m_mod64 _))) (by decide)) (by decide)) (by decide))
              ·
                by_cases c7 : ((σ.2 0) x1.toNatClampNeg) = 6
                ·
                  have E : fX8_plainRun σ x1 = (sg (ar (ar (ar σ 17 (upd (σ.2 17) (0 : Int32).toNatClampNeg 0)) 18 (upd (σ.2 18) (0 : Int32).toNatClampNeg (fX8_modulo ((σ.2 12) ((σ.2 2) x1.toNatClampNeg).toNatClampNeg) 64))) 19 (upd (σ.2 19) (0 : Int32).toNatClampNeg (-1))) 20 1) := j_ig c0 (j_ig c1 (j_ig c2 (j_ig c3 (j_ig c4 (j_ip c5 (j_ig c6 (j_ip c7 rfl)))))))
                  rw [E]
                  exact (mV_sg (mV_ar (mV_place (mV_ar hv (by decide)) (mP_upd hv.2.1 (m_mod64 _))) (by decide)) (by decide))
                ·
                  by_cases c8 : ((σ.2 0) x1.toNatClampNeg) = 5
                  ·
                    have E : fX8_plainRun σ x1 = (sg (ar (ar (ar σ 17 (upd (σ.2 17) (0 : Int32).toNatClampNeg 0)) 18 (upd (σ.2 18) (0 : Int32).toNatClampNeg (fX8_modulo ((σ.2 12) ((σ.2 2) x1.toNatClampNeg).toNatClampNeg) 64))) 19 (upd (σ.2 19) (0 : Int32).toNatClampNeg (-1))) 19 1) := j_ig c0 (j_ig c1 (j_ig c2 (j_ig c3 (j_ig c4 (j_ip c5 (j_ig c6 (j_ig c7 (j_ip c8 rfl))))))))
                    rw [E]
                    exact (mV_sg (mV_ar (mV_place (mV_ar hv (by decide)) (mP_upd hv.2.1 (m_mod64 _))) (by decide)) (by decide))
                  ·
                    have E : fX8_plainRun σ x1 = (ar (ar (ar σ 17 (upd (σ.2 17) (0 : Int32).toNatClampNeg 0)) 18 (upd (σ.2 18) (0 : Int32).toNatClampNeg (fX8_modulo ((σ.2 12) ((σ.2 2) x1.toNatClampNeg).toNatClampNeg) 64))) 19 (upd (σ.2 19) (0 : Int32).toNatClampNeg (-1))) := j_ig c0 (j_ig c1 (j_ig c2 (j_ig c3 (j_ig c4 (j_ip c5 (j_ig c6 (j_ig c7 (j_ig c8 rfl))))))))
                    rw [E]
                    exact (mV_ar (mV_place (mV_ar hv (by decide)) (mP_upd hv.2.1 (m_mod64 _))) (by decide))
            ·
              by_cases c6 : ((σ.2 0) x1.toNatClampNeg) = 4
              ·
                by_cases c7 : ((σ.2 12) ((σ.2 2) x1.toNatClampNeg).toNatClampNeg) = 0
                ·
                  have E : fX8_plainRun σ x1 = (ar (ar (ar (ar σ 17 (upd (σ.2 17) (0 : Int32).toNatClampNeg 0)) 18 (upd (σ.2 18) (0 : Int32).toNatClampNeg (fX8_modulo ((σ.2 12) ((σ.2 2) x1.toNatClampNeg).toNatClampNeg) 64))) 19 (upd (σ.2 19) (0 : Int32).toNatClampNeg (-1))) 12 (upd (σ.2 12) ((σ.2 1) x1.toNatClampNeg).toNatClampNeg 0)) := j_ig c0 (j_ig c1 (j_ig c2 (j_ig c3 (j_ig c4 (j_ig c5 (j_ip c6 (j_ip c7 rfl)))))))
                  rw [E]
                  exact (mV_ar (mV_ar (mV_place (mV_ar hv (by decide)) (mP_upd hv.2.1 (m_mod64 _))) (by decide)) (by decide))
                ·
                  by_cases c8 : (fX8_modulo ((σ.2 4) x1.toNatClampNeg) (σ.1 6)) < 0
                  ·
                    have E : fX8_plainRun σ x1 = (ar (ar (ar (ar (ar σ 17 (upd (σ.2 17) (0 : Int32).toNatClampNeg 0)) 18 (upd (σ.2 18) (0 : Int32).toNatClampNeg (fX8_modulo ((σ.2 12) ((σ.2 2) x1.toNatClampNeg).toNatClampNeg) 64))) 19 (upd (σ.2 19) (0 : Int32).toNatClampNeg (-1))) 12 (upd (σ.2 12) ((σ.2 1) x1.toNatClampNeg).toNatClampNeg 0)) 19 (upd (upd (σ.2 19) (0 : Int32).toNatClampNeg (-1)) (0 : Int32).toNatClampNeg (fX8_modulo ((σ.2 4) x1.toNatClampNeg) (σ.1 6)))) := j_ig c0 (j_ig c1 (j_ig c2 (j_ig c3 (j_ig c4 (j_ig c5 (j_ip c6 (j_ig c7 (j_ip c8 rfl))))))))
                    rw [E]
                    exact (mV_ar (mV_ar (mV_ar (mV_place (mV_ar hv (by decide)) (mP_upd hv.2.1 (m_mod64 _))) (by decide)) (by decide)) (by decide))
                  ·
                    have E : fX8_plainRun σ x1 = (sg (ar (ar (ar (ar (ar σ 17 (upd (σ.2 17) (0 : Int32).toNatClampNeg 0)) 18 (upd (σ.2 18) (0 : Int32).toNatClampNeg (fX8_modulo ((σ.2 12) ((σ.2 2) x1.toNatClampNeg).toNatClampNeg) 64))) 19 (upd (σ.2 19) (0 : Int32).toNatClampNeg (-1))) 12 (upd (σ.2 12) ((σ.2 1) x1.toNatClampNeg).toNatClampNeg 0)) 19 (upd (upd (σ.2 19) (0 : Int32).toNatClampNeg (-1)) (0 : Int32).toNatClampNeg (fX8_modulo ((σ.2 4) x1.toNatClampNeg) (σ.1 6)))) 19 1) := j_ig c0 (j_ig c1 (j_ig c2 (j_ig c3 (j_ig c4 (j_ig c5 (j_ip c6 (j_ig c7 (j_ig c8 rfl))))))))
                    rw [E]
                    exact (mV_sg (mV_ar (mV_ar (mV_ar (mV_place (mV_ar hv (by decide)) (mP_upd hv.2.1 (m_mod64 _))) (by decide)) (by decide)) (by decide)) (by decide))
              ·
                by_cases c7 : ((σ.2 0) x1.toNatClampNeg) = 6
                ·
                  have E : fX8_plainRun σ x1 = (sg (ar (ar (ar (ar σ 17 (upd (σ.2 17) (0 : Int32).toNatClampNeg 0)) 18 (upd (σ.2 18) (0 : Int32).toNatClampNeg (fX8_modulo ((σ.2 12) ((σ.2 2) x1.toNatClampNeg).toNatClampNeg) 64))) 19 (upd (σ.2 19) (0 : Int32).toNatClampNeg (-1))) 12 (upd (σ.2 12) ((σ.2 1) x1.toNatClampNeg).toNatClampNeg 0)) 20 1) := j_ig c0 (j_ig c1 (j_ig c2 (j_ig c3 (j_ig c4 (j_ig c5 (j_ig c6 (j_ip c7 rfl)))))))
                  rw [E]
                  exact (mV_sg (mV_ar (mV_ar (mV_place (mV_ar hv (by decide)) (mP_upd hv.2.1 (m_mod64 _))) (by decide)) (by decide)) (by decide))
                ·
                  by_cases c8 : ((σ.2 0) x1.toNatClampNeg) = 5
                  ·
                    have E : fX8_plainRun σ x1 = (sg (ar (ar (ar (ar σ 17 (upd (σ.2 17) (0 : Int32).toNatClampNeg 0)) 18 (upd (σ.2 18) (0 : Int32).toNatClampNeg (fX8_modulo ((σ.2 12) ((σ.2 2) x1.toNatClampNeg).toNatClampNeg) 64))) 19 (upd (σ.2 19) (0 : Int32).toNatClampNeg (-1))) 12 (upd (σ.2 12) ((σ.2 1) x1.toNatClampNeg).toNatClampNeg 0)) 19 1) := j_ig c0 (j_ig c1 (j_ig c2 (j_ig c3 (j_ig c4 (j_ig c5 (j_ig c6 (j_ig c7 (j_ip c8 rfl))))))))
                    rw [E]
                    exact (mV_sg (mV_ar (mV_ar (mV_place (mV_ar hv (by decide)) (mP_upd hv.2.1 (m_mod64 _))) (by decide)) (by decide)) (by decide))
                  ·
                    have E : fX8_plainRun σ x1 = (ar (ar (ar (ar σ 17 (upd (σ.2 17) (0 : Int32).toNatClampNeg 0)) 18 (upd (σ.2 18) (0 : Int32).toNatClampNeg (fX8_modulo ((σ.2 12) ((σ.2 2) x1.toNatClampNeg).toNatClampNeg) 64))) 19 (upd (σ.2 19) (0 : Int32).toNatClampNeg (-1))) 12 (upd (σ.2 12) ((σ.2 1) x1.toNatClampNeg).toNatClampNeg 0)) := j_ig c0 (j_ig c1 (j_ig c2 (j_ig c3 (j_ig c4 (j_ig c5 (j_ig c6 (j_ig c7 (j_ig c8 rfl))))))))
                    rw [E]
                    exact (mV_ar (mV_ar (mV_place (mV_ar hv (by decide)) (mP_upd hv.2.1 (m_mod64 _))) (by decide)) (by decide))
theorem mv_fX8_fetch {K : Nat} {σ : St} (hb : mB σ) (hv : mV K σ) : mV K (fX8_fetch σ) := by
  by_cases c0 : (σ.1 21) = 0
  ·
    have E : fX8_fetch σ = σ := j_ip c0 rfl
    rw [E]
    exact hv
  ·
    by_cases c1 : 0 ≤ ((σ.2 5) (0 : Int32).toNatClampNeg)
    ·
      have E : fX8_fetch σ = σ := j_ig c0 (j_ip c1 rfl)
      rw [E]
      exact hv
    ·
      by_cases c2 : (σ.1 20) = 0
      ·
        by_cases c3 : (σ.1 19) = 0
        ·
          have E : fX8_fetch σ = (fX8_plainRun (ar (ar (ar (ar (sg (sg σ 18 (((σ.1 18) + 1) - ((σ.1 18) + 1) / (σ.1 6) * (σ.1 6))) 11 ((σ.1 11) + 1)) 5 (upd (σ.2 5) (0 : Int32).toNatClampNeg (σ.1 18))) 6 (upd (σ.2 6) (0 : Int32).toNatClampNeg (vp_nar .boolean 1))) 7 (upd (σ.2 7) (0 : Int32).toNatClampNeg (vp_nar .boolean 0))) 16 (upd (σ.2 16) (0 : Int32).toNatClampNeg 0)) (σ.1 18)) := j_ig c0 (j_ig c1 (j_ip c2 (j_ip c3 rfl)))
          rw [E]
          exact (mv_fX8_plainRun (mB.fq (mB.fq (mB.fq (mB.fq (mB.fq (mB.fq hb (Fq.sg (by decide))) (Fq.sg (by decide))) (Fq.ar (by decide))) (Fq.ar (by decide))) (Fq.ar (by decide))) (Fq.ar (by decide))) (mV_ar (mV_ar (mV_ar (mV_word (mV_sg (mV_next hv (m_rem (m_n1 hv) hb.2.2.1 hb.2.2.2.1)) (by decide)) (mW_upd hv.1 (m_nx hv))) (by decide)) (by decide)) (by decide)))
        ·
          have E : fX8_fetch σ = (ar (ar (ar (ar (sg (sg σ 18 (((σ.1 18) + 1) - ((σ.1 18) + 1) / (σ.1 6) * (σ.1 6))) 11 ((σ.1 11) + 1)) 5 (upd (σ.2 5) (0 : Int32).toNatClampNeg (σ.1 18))) 6 (upd (σ.2 6) (0 : Int32).toNatClampNeg (vp_nar .boolean 0))) 7 (upd (σ.2 7) (0 : Int32).toNatClampNeg (vp_nar .boolean 0))) 16 (upd (σ.2 16) (0 : Int32).toNatClampNeg 0)) := j_ig c0 (j_ig c1 (j_ip c2 (j_ig c3 rfl)))
          rw [E]
          exact (mV_ar (mV_ar (mV_ar (mV_word (mV_sg (mV_next hv (m_rem (m_n1 hv) hb.2.2.1 hb.2.2.2.1)) (by decide)) (mW_upd hv.1 (m_nx hv))) (by decide)) (by decide)) (by decide))
      ·
        have E : fX8_fetch σ = σ := j_ig c0 (j_ig c1 (j_ig c2 rfl))
        rw [E]
        exact hv
theorem leave_r (σ : St) : vp_in (fX8_leave σ).1 5 := by
  by_cases c0 : 0 ≤ ((σ.2 5) ((σ.1 0) - 1).toNatClampNeg)
  ·
    by_cases c1 : ((σ.2 0) ((σ.2 5) ((σ.1 0) - 1).toNatClampNeg).toNatClampNeg) = 5
    ·
      have E : fX8_leave σ = (1, (fX8_squash (sg (ar σ 5 (upd (σ.2 5) ((σ.1 0) - 1).toNatClampNeg (-1))) 13 ((σ.1 13) + 1)) (σ.1 0) (σ.1 17))) := j_ip c0 (j_ip c1 rfl)
      rw [E]
      exact (show vp_in 1 5 from vp_in_nI (n := 1) (by decide) (by decide))
    ·
      by_cases c2 : (((fX8_commit σ ((σ.1 0) - 1)).2 0) ((σ.2 5) ((σ.1 0) - 1).toNatClampNeg).toNatClampNeg) = 6
      ·
        have E : fX8_leave σ = (0, (sg (ar (fX8_commit σ ((σ.1 0) - 1)) 5 (upd ((fX8_commit σ ((σ.1 0) - 1)).2 5) ((σ.1 0) - 1).toNatClampNeg (-1))) 15 1)) := j_ip c0 (j_ig c1 (j_ip c2 rfl))
        rw [E]
        exact (show vp_in 0 5 from vp_in_nI (n := 0) (by decide) (by decide))
      ·
        by_cases c3 : ((fX8_commit σ ((σ.1 0) - 1)).1 4) = ((σ.1 0) - 1)
        ·
          by_cases c4 : (((fX8_commit σ ((σ.1 0) - 1)).2 6) ((σ.1 0) - 1).toNatClampNeg) = 0
          ·
            have E : fX8_leave σ = (0, (ar (fX8_commit σ ((σ.1 0) - 1)) 5 (upd ((fX8_commit σ ((σ.1 0) - 1)).2 5) ((σ.1 0) - 1).toNatClampNeg (-1)))) := j_ip c0 (j_ig c1 (j_ig c2 (j_ip c3 (j_ip c4 rfl))))
            rw [E]
            exact (show vp_in 0 5 from vp_in_nI (n := 0) (by decide) (by decide))
          ·
            by_cases c5 : (((fX8_commit σ ((σ.1 0) - 1)).2 0) ((σ.2 5) ((σ.1 0) - 1).toNatClampNeg).toNatClampNeg) = 4
            ·
              have E : fX8_leave σ = (0, (fX8_know (ar (fX8_commit σ ((σ.1 0) - 1)) 5 (upd ((fX8_commit σ ((σ.1 0) - 1)).2 5) ((σ.1 0) - 1).toNatClampNeg (-1))) ((σ.1 0) - 1) (((fX8_commit σ ((σ.1 0) - 1)).2 19) ((σ.1 0) - 1).toNatClampNeg))) := j_ip c0 (j_ig c1 (j_ig c2 (j_ip c3 (j_ig c4 (j_ip c5 rfl)))))
              rw [E]
              exact (show vp_in 0 5 from vp_in_nI (n := 0) (by decide) (by decide))
            ·
              have E : fX8_leave σ = (0, (ar (fX8_commit σ ((σ.1 0) - 1)) 5 (upd ((fX8_commit σ ((σ.1 0) - 1)).2 5) ((σ.1 0) - 1).toNatClampNeg (-1)))) := j_ip c0 (j_ig c1 (j_ig c2 (j_ip c3 (j_ig c4 (j_ig c5 rfl)))))
              rw [E]
              exact (show vp_in 0 5 from vp_in_nI (n := 0) (by decide) (by decide))
        ·
          have E : fX8_leave σ = (0, (ar (fX8_commit σ ((σ.1 0) - 1)) 5 (upd ((fX8_commit σ ((σ.1 0) - 1)).2 5) ((σ.1 0) - 1).toNatClampNeg (-1)))) := j_ip c0 (j_ig c1 (j_ig c2 (j_ig c3 rfl)))
          rw [E]
          exact (show vp_in 0 5 from vp_in_nI (n := 0) (by decide) (by decide))
  ·
    have E : fX8_leave σ = (4, σ) := j_ig c0 rfl
    rw [E]
    exact (show vp_in 4 5 from vp_in_nI (n := 4) (by decide) (by decide))
theorem work_r (σ : St) : vp_in (fX8_work σ).1 5 := by
  by_cases c0 : ((σ.2 7) (σ.1 1).toNatClampNeg) = 0
  ·
    by_cases c1 : (fX8_isReady σ ((σ.2 5) (σ.1 1).toNatClampNeg)) = 0
    ·
      have E : fX8_work σ = (2, σ) := j_ip c0 (j_ip c1 rfl)
      rw [E]
      exact (show vp_in 2 5 from vp_in_nI (n := 2) (by decide) (by decide))
    ·
      by_cases c2 : (fX8_cyclesOf (ar (ar σ 7 (upd (σ.2 7) (σ.1 1).toNatClampNeg (vp_nar .boolean 1))) 16 (upd (σ.2 16) (σ.1 1).toNatClampNeg (((σ.2 16) (σ.1 1).toNatClampNeg) + 1))) ((σ.2 5) (σ.1 1).toNatClampNeg)) ≤ (((σ.2 16) (σ.1 1).toNatClampNeg) + 1)
      ·
        have E : fX8_work σ = (4, (ar (ar σ 7 (upd (σ.2 7) (σ.1 1).toNatClampNeg (vp_nar .boolean 1))) 16 (upd (σ.2 16) (σ.1 1).toNatClampNeg (((σ.2 16) (σ.1 1).toNatClampNeg) + 1)))) := j_ip c0 (j_ig c1 (j_ip c2 rfl))
        rw [E]
        exact (show vp_in 4 5 from vp_in_nI (n := 4) (by decide) (by decide))
      ·
        have E : fX8_work σ = (3, (ar (ar σ 7 (upd (σ.2 7) (σ.1 1).toNatClampNeg (vp_nar .boolean 1))) 16 (upd (σ.2 16) (σ.1 1).toNatClampNeg (((σ.2 16) (σ.1 1).toNatClampNeg) + 1)))) := j_ip c0 (j_ig c1 (j_ig c2 rfl))
        rw [E]
        exact (show vp_in 3 5 from vp_in_nI (n := 3) (by decide) (by decide))
  ·
    by_cases c1 : (fX8_cyclesOf (ar (ar σ 7 (upd (σ.2 7) (σ.1 1).toNatClampNeg (vp_nar .boolean 1))) 16 (upd (σ.2 16) (σ.1 1).toNatClampNeg (((σ.2 16) (σ.1 1).toNatClampNeg) + 1))) ((σ.2 5) (σ.1 1).toNatClampNeg)) ≤ (((σ.2 16) (σ.1 1).toNatClampNeg) + 1)
    ·
      have E : fX8_work σ = (4, (ar (ar σ 7 (upd (σ.2 7) (σ.1 1).toNatClampNeg (vp_nar .boolean 1))) 16 (upd (σ.2 16) (σ.1 1).toNatClampNeg (((σ.2 16) (σ.1 1).toNatClampNeg) + 1)))) := j_ig c0 (j_ip c1 rfl)
      rw [E]
      exact (show vp_in 4 5 from vp_in_nI (n := 4) (by decide) (by decide))
    ·
      have E : fX8_work σ = (3, (ar (ar σ 7 (upd (σ.2 7) (σ.1 1).toNatClampNeg (vp_nar .boolean 1))) 16 (upd (σ.2 16) (σ.1 1).toNatClampNeg (((σ.2 16) (σ.1 1).toNatClampNeg) + 1)))) := j_ig c0 (j_ig c1 rfl)
      rw [E]
      exact (show vp_in 3 5 from vp_in_nI (n := 3) (by decide) (by decide))
theorem goOn_rl : ∀ (n : Nat) (σ : St) (x1 x2 x3 : Int32), vp_in x1 5 → vp_in (gfX8_goOn n σ x1 x2 x3).1 5 := by
  intro n
  induction n with
  | zero => intro σ x1 x2 x3 h1; exact vp_in_nI (n := 0) (by decide) (by decide)
  | succ n ih =>
    intro σ x1 x2 x3 h1
    by_cases c0 : x3 < 0
    ·
      have E : gfX8_goOn (n + 1) σ x1 x2 x3 = (x1, σ) := j_ip c0 rfl
      rw [E]
      exact h1
    ·
      by_cases c1 : x3 = (σ.1 1)
      ·
        by_cases c2 : x2 = 0
        ·
          by_cases c3 : (fX8_mayGo σ x3) = 0
          ·
            have E : gfX8_goOn (n + 1) σ x1 x2 x3 = gfX8_goOn n σ x1 x2 (x3 + (-1)) := j_ig c0 (j_ip c1 (j_ip c2 (j_ip c3 rfl)))
            rw [E]
            exact (ih _ _ _ _ h1)
          ·
            by_cases c4 : x3 = (σ.1 4)
            ·
              by_cases c5 : ((σ.2 6) x3.toNatClampNeg) = 0
              ·
                have E : gfX8_goOn (n + 1) σ x1 x2 x3 = gfX8_goOn n (fX8_moveOn σ x3) x1 x2 (x3 + (-1)) := j_ig c0 (j_ip c1 (j_ip c2 (j_ig c3 (j_ip c4 (j_ip c5 rfl)))))
                rw [E]
                exact (ih _ _ _ _ h1)
              ·
                by_cases c6 : ((σ.2 0) ((σ.2 5) x3.toNatClampNeg).toNatClampNeg) = 4
                ·
                  have E : gfX8_goOn (n + 1) σ x1 x2 x3 = gfX8_goOn n (fX8_know (fX8_moveOn σ x3) x3 (((fX8_moveOn σ x3).2 19) (x3 + 1).toNatClampNeg)) x1 x2 (x3 + (-1)) := j_ig c0 (j_ip c1 (j_ip c2 (j_ig c3 (j_ip c4 (j_ig c5 (j_ip c6 rfl))))))
                  rw [E]
                  exact (ih _ _ _ _ h1)
                ·
                  have E : gfX8_goOn (n + 1) σ x1 x2 x3 = gfX8_goOn n (fX8_moveOn σ x3) x1 x2 (x3 + (-1)) := j_ig c0 (j_ip c1 (j_ip c2 (j_ig c3 (j_ip c4 (j_ig c5 (j_ig c6 rfl))))))
                  rw [E]
                  exact (ih _ _ _ _ h1)
            ·
              have E : gfX8_goOn (n + 1) σ x1 x2 x3 = gfX8_goOn n (fX8_moveOn σ x3) x1 x2 (x3 + (-1)) := j_ig c0 (j_ip c1 (j_ip c2 (j_ig c3 (j_ig c4 rfl))))
              rw [E]
              exact (ih _ _ _ _ h1)
        ·
          by_cases c3 : ((σ.2 5) x3.toNatClampNeg) < 0
          ·
            by_cases c4 : (fX8_mayGo σ x3) = 0
            ·
              have E : gfX8_goOn (n + 1) σ x1 x2 x3 = gfX8_goOn n σ x1 x2 (x3 + (-1)) := j_ig c0 (j_ip c1 (j_ig c2 (j_ip c3 (j_ip c4 rfl))))
              rw [E]
              exact (ih _ _ _ _ h1)
            ·
              by_cases c5 : x3 = (σ.1 4)
              ·
                by_cases c6 : ((σ.2 6) x3.toNatClampNeg) = 0
                ·
                  have E : gfX8_goOn (n + 1) σ x1 x2 x3 = gfX8_goOn n (fX8_moveOn σ x3) x1 x2 (x3 + (-1)) := j_ig c0 (j_ip c1 (j_ig c2 (j_ip c3 (j_ig c4 (j_ip c5 (j_ip c6 rfl))))))
                  rw [E]
                  exact (ih _ _ _ _ h1)
                ·
                  by_cases c7 : ((σ.2 0) ((σ.2 5) x3.toNatClampNeg).toNatClampNeg) = 4
                  ·
                    have E : gfX8_goOn (n + 1) σ x1 x2 x3 = gfX8_goOn n (fX8_know (fX8_moveOn σ x3) x3 (((fX8_moveOn σ x3).2 19) (x3 + 1).toNatClampNeg)) x1 x2 (x3 + (-1)) := j_ig c0 (j_ip c1 (j_ig c2 (j_ip c3 (j_ig c4 (j_ip c5 (j_ig c6 (j_ip c7 rfl)))))))
                    rw [E]
                    exact (ih _ _ _ _ h1)
                  ·
                    have E : gfX8_goOn (n + 1) σ x1 x2 x3 = gfX8_goOn n (fX8_moveOn σ x3) x1 x2 (x3 + (-1)) := j_ig c0 (j_ip c1 (j_ig c2 (j_ip c3 (j_ig c4 (j_ip c5 (j_ig c6 (j_ig c7 rfl)))))))
                    rw [E]
                    exact (ih _ _ _ _ h1)
              ·
                have E : gfX8_goOn (n + 1) σ x1 x2 x3 = gfX8_goOn n (fX8_moveOn σ x3) x1 x2 (x3 + (-1)) := j_ig c0 (j_ip c1 (j_ig c2 (j_ip c3 (j_ig c4 (j_ig c5 rfl)))))
                rw [E]
                exact (ih _ _ _ _ h1)
          ·
            by_cases c4 : (fX8_mayGo (fX8_work σ).2 x3) = 0
            ·
              have E : gfX8_goOn (n + 1) σ x1 x2 x3 = gfX8_goOn n (fX8_work σ).2 (fX8_work σ).1 x2 (x3 + (-1)) := j_ig c0 (j_ip c1 (j_ig c2 (j_ig c3 (j_ip c4 rfl))))
              rw [E]
              exact (ih _ _ _ _ (work_r _))
            ·
              by_cases c5 : x3 = ((fX8_work σ).2.1 4)
              ·
                by_cases c6 : (((fX8_work σ).2.2 6) x3.toNatClampNeg) = 0
                ·
                  have E : gfX8_goOn (n + 1) σ x1 x2 x3 = gfX8_goOn n (fX8_moveOn (fX8_work σ).2 x3) (fX8_work σ).1 x2 (x3 + (-1)) := j_ig c0 (j_ip c1 (j_ig c2 (j_ig c3 (j_ig c4 (j_ip c5 (j_ip c6 rfl))))))
                  rw [E]
                  exact (ih _ _ _ _ (work_r _))
                ·
                  by_cases c7 : (((fX8_work σ).2.2 0) (((fX8_work σ).2.2 5) x3.toNatClampNeg).toNatClampNeg) = 4
                  ·
                    have E : gfX8_goOn (n + 1) σ x1 x2 x3 = gfX8_goOn n (fX8_know (fX8_moveOn (fX8_work σ).2 x3) x3 (((fX8_moveOn (fX8_work σ).2 x3).2 19) (x3 + 1).toNatClampNeg)) (fX8_work σ).1 x2 (x3 + (-1)) := j_ig c0 (j_ip c1 (j_ig c2 (j_ig c3 (j_ig c4 (j_ip c5 (j_ig c6 (j_ip c7 rfl)))))))
                    rw [E]
                    exact (ih _ _ _ _ (work_r _))
                  ·
                    have E : gfX8_goOn (n + 1) σ x1 x2 x3 = gfX8_goOn n (fX8_moveOn (fX8_work σ).2 x3) (fX8_work σ).1 x2 (x3 + (-1)) := j_ig c0 (j_ip c1 (j_ig c2 (j_ig c3 (j_ig c4 (j_ip c5 (j_ig c6 (j_ig c7 rfl)))))))
                    rw [E]
                    exact (ih _ _ _ _ (work_r _))
              ·
                have E : gfX8_goOn (n + 1) σ x1 x2 x3 = gfX8_goOn n (fX8_moveOn (fX8_work σ).2 x3) (fX8_work σ).1 x2 (x3 + (-1)) := j_ig c0 (j_ip c1 (j_ig c2 (j_ig c3 (j_ig c4 (j_ig c5 rfl)))))
                rw [E]
                exact (ih _ _ _ _ (work_r _))
      ·
        by_cases c2 : (fX8_mayGo σ x3) = 0
        ·
          have E : gfX8_goOn (n + 1) σ x1 x2 x3 = gfX8_goOn n σ x1 x2 (x3 + (-1)) := j_ig c0 (j_ig c1 (j_ip c2 rfl))
          rw [E]
          exact (ih _ _ _ _ h1)
        ·
          by_cases c3 : x3 = (σ.1 4)
          ·
            by_cases c4 : ((σ.2 6) x3.toNatClampNeg) = 0
            ·
              have E : gfX8_goOn (n + 1) σ x1 x2 x3 = gfX8_goOn n (fX8_moveOn σ x3) x1 x2 (x3 + (-1)) := j_ig c0 (j_ig c1 (j_ig c2 (j_ip c3 (j_ip c4 rfl))))
              rw [E]
              exact (ih _ _ _ _ h1)
            ·
              by_cases c5 : ((σ.2 0) ((σ.2 5) x3.toNatClampNeg).toNatClampNeg) = 4
              ·
                have E : gfX8_goOn (n + 1) σ x1 x2 x3 = gfX8_goOn n (fX8_know (fX8_moveOn σ x3) x3 (((fX8_moveOn σ x3).2 19) (x3 + 1).toNatClampNeg)) x1 x2 (x3 + (-1)) := j_ig c0 (j_ig c1 (j_ig c2 (j_ip c3 (j_ig c4 (j_ip c5 rfl)))))
                rw [E]
                exact (ih _ _ _ _ h1)
              ·
                have E : gfX8_goOn (n + 1) σ x1 x2 x3 = gfX8_goOn n (fX8_moveOn σ x3) x1 x2 (x3 + (-1)) := j_ig c0 (j_ig c1 (j_ig c2 (j_ip c3 (j_ig c4 (j_ig c5 rfl)))))
                rw [E]
                exact (ih _ _ _ _ h1)
          ·
            have E : gfX8_goOn (n + 1) σ x1 x2 x3 = gfX8_goOn n (fX8_moveOn σ x3) x1 x2 (x3 + (-1)) := j_ig c0 (j_ig c1 (j_ig c2 (j_ig c3 rfl)))
            rw [E]
            exact (ih _ _ _ _ h1)
theorem goOn_r (σ : St) : vp_in (fX8_goOn σ).1 5 := by
  by_cases c0 : ((σ.2 5) (σ.1 1).toNatClampNeg) < 0
  ·
    have E : fX8_goOn σ = gfX8_goOn 9 σ 4 0 ((σ.1 0) - 2) := j_ip c0 rfl
    rw [E]
    exact (goOn_rl _ _ _ _ _ (vp_in_nI (n := 4) (by decide) (by decide)))
  ·
    have E : fX8_goOn σ = gfX8_goOn 9 σ 4 1 ((σ.1 0) - 2) := j_ig c0 rfl
    rw [E]
    exact (goOn_rl _ _ _ _ _ (vp_in_nI (n := 4) (by decide) (by decide)))
theorem mv_fX8_cycle {K : Nat} {σ : St} (hb : mB σ) (hv : mV K σ) (hK : K < 2 ^ 30) : mV (K + 1) (fX8_cycle σ) := by
  by_cases c0 : ((fX8_leave (sg (sg σ 9 ((σ.1 9) + 1)) 21 1)).2.1 15) = 0
  ·
    by_cases c1 : 4 ≤ (fX8_leave (sg (sg σ 9 ((σ.1 9) + 1)) 21 1)).1
    ·
      have E : fX8_cycle σ = (ar (fX8_fetch (fX8_goOn (fX8_leave (sg (sg σ 9 ((σ.1 9) + 1)) 21 1)).2).2) 11 (upd ((fX8_fetch (fX8_goOn (fX8_leave (sg (sg σ 9 ((σ.1 9) + 1)) 21 1)).2).2).2 11) (fX8_goOn (fX8_leave (sg (sg σ 9 ((σ.1 9) + 1)) 21 1)).2).1.toNatClampNeg ((((fX8_fetch (fX8_goOn (fX8_leave (sg (sg σ 9 ((σ.1 9) + 1)) 21 1)).2).2).2 11) (fX8_goOn (fX8_leave (sg (sg σ 9 ((σ.1 9) + 1)) 21 1)).2).1.toNatClampNeg) + 1))) := j_ip c0 (j_ip c1 rfl)
      rw [E]
      exact (mV_ar (mv_fX8_fetch (mB.fq (mB.fq (mB.fq (mB.fq hb (Fq.sg (by decide))) (Fq.sg (by decide))) (fr_fX8_leave _)) (fr_fX8_goOn _)) (mv_fX8_goOn (mB.fq (mB.fq (mB.fq hb (Fq.sg (by decide))) (Fq.sg (by decide))) (fr_fX8_leave _)) (mv_fX8_leave (mB.fq (mB.fq hb (Fq.sg (by decide))) (Fq.sg (by decide))) (mV_sg (mV_sg hv (by decide)) (by decide)) hK))) (by decide))
    ·
      have E : fX8_cycle σ = (ar (fX8_fetch (fX8_goOn (fX8_leave (sg (sg σ 9 ((σ.1 9) + 1)) 21 1)).2).2) 11 (upd ((fX8_fetch (fX8_goOn (fX8_leave (sg (sg σ 9 ((σ.1 9) + 1)) 21 1)).2).2).2 11) (fX8_leave (sg (sg σ 9 ((σ.1 9) + 1)) 21 1)).1.toNatClampNeg ((((fX8_fetch (fX8_goOn (fX8_leave (sg (sg σ 9 ((σ.1 9) + 1)) 21 1)).2).2).2 11) (fX8_leave (sg (sg σ 9 ((σ.1 9) + 1)) 21 1)).1.toNatClampNeg) + 1))) := j_ip c0 (j_ig c1 rfl)
      rw [E]
      exact (mV_ar (mv_fX8_fetch (mB.fq (mB.fq (mB.fq (mB.fq hb (Fq.sg (by decide))) (Fq.sg (by decide))) (fr_fX8_leave _)) (fr_fX8_goOn _)) (mv_fX8_goOn (mB.fq (mB.fq (mB.fq hb (Fq.sg (by decide))) (Fq.sg (by decide))) (fr_fX8_leave _)) (mv_fX8_leave (mB.fq (mB.fq hb (Fq.sg (by decide))) (Fq.sg (by decide))) (mV_sg (mV_sg hv (by decide)) (by decide)) hK))) (by decide))
  ·
    have E : fX8_cycle σ = (ar (fX8_leave (sg (sg σ 9 ((σ.1 9) + 1)) 21 1)).2 11 (upd ((fX8_leave (sg (sg σ 9 ((σ.1 9) + 1)) 21 1)).2.2 11) (fX8_leave (sg (sg σ 9 ((σ.1 9) + 1)) 21 1)).1.toNatClampNeg ((((fX8_leave (sg (sg σ 9 ((σ.1 9) + 1)) 21 1)).2.2 11) (fX8_leave (sg (sg σ 9 ((σ.1 9) + 1)) 21 1)).1.toNatClampNeg) + 1))) := j_ig c0 rfl
    rw [E]
    exact (mV_ar (mv_fX8_leave (mB.fq (mB.fq hb (Fq.sg (by decide))) (Fq.sg (by decide))) (mV_sg (mV_sg hv (by decide)) (by decide)) hK) (by decide))
