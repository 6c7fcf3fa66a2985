section
/-! numbers: an index in range out of two tests; the rest that is not below 0; if out of its test -/
theorem j_ip {α : Type} {c : Prop} [Decidable c] {t e r : α} (h : c) (k : t = r) : ite c t e = r := by rw [if_pos h]; exact k
theorem j_ig {α : Type} {c : Prop} [Decidable c] {t e r : α} (h : ¬ c) (k : e = r) : ite c t e = r := by rw [if_neg h]; exact k
theorem j_lo1 {x : Int32} (h : ¬ x < 0) : 0 ≤ x := by
  rw [Int32.lt_iff_toInt_lt] at h
  rw [Int32.le_iff_toInt_le]
  omega
theorem j_hi1 {x y : Int32} (h : ¬ y ≤ x) : x < y := by
  rw [Int32.le_iff_toInt_le] at h
  rw [Int32.lt_iff_toInt_lt]
  omega
theorem j_in (n : Nat) {x y : Int32} (hy : y.toInt = n) (h0 : 0 ≤ x) (h : x < y) : vp_in x n := by
  rw [Int32.le_iff_toInt_le] at h0
  rw [Int32.lt_iff_toInt_lt, hy] at h
  rw [vp_in_iff]
  exact ⟨h0, h⟩
theorem j_in64 {x : Int32} (h0 : 0 ≤ x) (h : x < 64) : vp_in x 64 := j_in 64 (by decide) h0 h
theorem j_in8 {x : Int32} (h0 : 0 ≤ x) (h : x < 8) : vp_in x 8 := j_in 8 (by decide) h0 h
theorem j_in5 {x : Int32} (h0 : 0 ≤ x) (h : x < 5) : vp_in x 5 := j_in 5 (by decide) h0 h
def fm (x y : Int32) : Int32 := if 0 ≤ (x ^^^ y) then x - x / y * y else if (x - x / y * y) = 0 then x - x / y * y else x - x / y * y + y
theorem fm_rem (x : Int32) {k : Nat} (h0 : 0 < k) (hk : k < 2 ^ 31) : (x - x / nI k * nI k).toInt = x.toInt.tmod k := by
  rw [Int32.toInt_sub, Int32.toInt_mul, Int32.toInt_div, nI_toInt hk, Int.bmod_mul_bmod, Int.sub_bmod_bmod]
  have e : x.toInt - x.toInt.tdiv k * k = x.toInt.tmod k := by rw [Int.tmod_def, Int.mul_comm]
  rw [e]
  have h1 := Int.tmod_lt_of_pos x.toInt (b := (k : Int)) (by omega)
  have h2 := Int.lt_tmod_of_pos x.toInt (b := (k : Int)) (by omega)
  exact Int.bmod_eq_of_le_mul_two (by omega) (by omega)
theorem fm_xor (x : Int32) {k : Nat} (hk : k < 2 ^ 31) : 0 ≤ (x ^^^ nI k) ↔ 0 ≤ x := by
  have hy : (nI k).toBitVec.msb = false := by
    have h1 : (nI k).toInt = k := nI_toInt hk
    rw [BitVec.msb_eq_toInt]
    have h2 : (nI k).toBitVec.toInt = (k : Int) := h1
    rw [h2]
    simp
  have hx : (x ^^^ nI k).toBitVec.msb = x.toBitVec.msb := by
    rw [Int32.toBitVec_xor, BitVec.msb_xor, hy, Bool.xor_false]
  rw [BitVec.msb_eq_toInt, BitVec.msb_eq_toInt] at hx
  have e1 : (x ^^^ nI k).toInt = (x ^^^ nI k).toBitVec.toInt := rfl
  have e2 : x.toInt = x.toBitVec.toInt := rfl
  have e3 : (0 : Int32).toInt = 0 := by decide
  rw [Int32.le_iff_toInt_le, Int32.le_iff_toInt_le, e1, e2, e3]
  have := decide_eq_decide.mp hx
  omega
theorem fm_toInt (x : Int32) {k : Nat} (h0 : 0 < k) (hk : k < 2 ^ 30) : (fm x (nI k)).toInt = x.toInt % (k : Int) := by
  have hr := fm_rem x h0 (show k < 2 ^ 31 by omega)
  have h1 := Int.tmod_lt_of_pos x.toInt (b := (k : Int)) (by omega)
  have h2 := Int.lt_tmod_of_pos x.toInt (b := (k : Int)) (by omega)
  have e3 : (0 : Int32).toInt = 0 := by decide
  have e := Int.mul_tdiv_add_tmod x.toInt k
  have e2 : x.toInt % (k : Int) = x.toInt.tmod k % (k : Int) := by
    conv => lhs; rw [← e]
    rw [Int.mul_add_emod_self_left]
  unfold fm
  by_cases c1 : 0 ≤ (x ^^^ nI k)
  · rw [if_pos c1, hr, e2]
    have c2 := (fm_xor _ (show k < 2 ^ 31 by omega)).mp c1
    rw [Int32.le_iff_toInt_le, e3] at c2
    exact (Int.emod_eq_of_lt (Int.tmod_nonneg _ c2) h1).symm
  · rw [if_neg c1]
    have c2 : ¬ 0 ≤ x := fun z => c1 ((fm_xor _ (show k < 2 ^ 31 by omega)).mpr z)
    rw [Int32.le_iff_toInt_le, e3] at c2
    have h3 : x.toInt.tmod k ≤ 0 := by
      have := Int.tmod_nonneg (a := -x.toInt) (k : Int) (by omega)
      rw [Int.neg_tmod] at this
      omega
    by_cases c3 : (x - x / nI k * nI k) = 0
    · rw [if_pos c3, hr, e2]
      rw [c3, e3] at hr
      rw [← hr]
      simp
    · rw [if_neg c3, Int32.toInt_add, hr, nI_toInt (by omega), e2]
      have h4 : x.toInt.tmod k ≠ 0 := fun z => c3 (by rw [← Int32.toInt_inj, hr, e3, z])
      rw [Int.bmod_eq_of_le_mul_two (by omega) (by omega)]
      rw [← Int.emod_eq_of_lt (a := x.toInt.tmod k + k) (b := k) (by omega) (by omega), Int.add_emod_right]
theorem fm_nat (x : Int32) {k : Nat} (h0 : 0 < k) (hk : k < 2 ^ 30) : ∃ j : Nat, j < k ∧ fm x (nI k) = nI j ∧ (j : Int) = x.toInt % (k : Int) := by
  have h := fm_toInt x h0 hk
  have h1 := Int.emod_nonneg x.toInt (b := (k : Int)) (by omega)
  have h2 := Int.emod_lt_of_pos x.toInt (b := (k : Int)) (by omega)
  refine ⟨(x.toInt % (k : Int)).toNat, by omega, ?_, by omega⟩
  rw [← Int32.toInt_inj, h, nI_toInt (by omega)]
  omega
theorem fm_in (x : Int32) {k : Nat} (h0 : 0 < k) (hk : k < 2 ^ 30) : vp_in (fm x (nI k)) k := by
  rw [vp_in_iff, fm_toInt x h0 hk]
  exact ⟨Int.emod_nonneg _ (by omega), Int.emod_lt_of_pos _ (by omega)⟩
theorem fm_in64 (x : Int32) : vp_in (fm x 64) 64 := fm_in x (k := 64) (by decide) (by decide)
theorem fm_in400 (x : Int32) : vp_in (fm x 400) 400 := fm_in x (k := 400) (by decide) (by decide)
/-! the state: numbers by their place, arrays by theirs -/
abbrev St : Type := (Nat → Int32) × (Nat → Nat → Int32)
def sg (σ : St) (k : Nat) (x : Int32) : St := (upd σ.1 k x, σ.2)
def ar (σ : St) (k : Nat) (f : Nat → Int32) : St := (σ.1, va_up σ.2 k f)
theorem j_inc {x y : Int32} (h : x < y) : (x + 1).toInt = x.toInt + 1 := by
  rw [Int32.lt_iff_toInt_lt] at h
  have h1 := x.le_toInt
  have h2 := y.toInt_lt
  rw [Int32.toInt_add, show (1 : Int32).toInt = 1 by decide]
  exact Int.bmod_eq_of_le_mul_two (by omega) (by omega)
theorem j_dec {x : Int32} (h : ¬ x < 0) : (x + (-1)).toInt = x.toInt - 1 := by
  have h0 := j_lo1 h
  rw [Int32.le_iff_toInt_le, show (0 : Int32).toInt = 0 by decide] at h0
  have h2 := x.toInt_lt
  rw [Int32.toInt_add, show (-1 : Int32).toInt = -1 by decide]
  exact Int.bmod_eq_of_le_mul_two (by omega) (by omega)
theorem j_toLt {x y : Int32} (h : ¬ y ≤ x) : x.toInt < y.toInt := by
  rw [Int32.le_iff_toInt_le] at h
  omega
theorem j_toGe {x : Int32} (h : ¬ x < 0) : 0 ≤ x.toInt := by
  rw [Int32.lt_iff_toInt_lt, show (0 : Int32).toInt = 0 by decide] at h
  omega
theorem j_lo0 {x : Int32} (h : 0 ≤ x.toInt) : 0 ≤ x := by
  rw [Int32.le_iff_toInt_le, show (0 : Int32).toInt = 0 by decide]
  exact h
theorem j_ne0 {y : Int32} (h : ¬ y ≤ 0) : ¬ y = 0 := fun z => h (by rw [z]; decide)
theorem j_ne1 {y : Int32} (h : 0 < y) : ¬ y = 0 := fun z => absurd h (by rw [z]; decide)
/-- the core's own numbers: N and R -/
def shp (σ : St) : Prop := ∃ N R : Nat, 3 ≤ N ∧ N ≤ 8 ∧ 1 ≤ R ∧ R + 2 ≤ N ∧ σ.1 0 = nI N ∧ σ.1 1 = nI R
/-- the core's own numbers stay -/
def Fr (τ σ : St) : Prop := ∀ k, k < 6 → τ.1 k = σ.1 k
theorem Fr.rf (σ : St) : Fr σ σ := fun _ _ => rfl
theorem Fr.tr {τ ρ σ : St} (h : Fr τ ρ) (h2 : Fr ρ σ) : Fr τ σ := fun k hk => (h k hk).trans (h2 k hk)
theorem Fr.sg {σ : St} {k : Nat} {x : Int32} (hk : 6 ≤ k) : Fr (sg σ k x) σ := fun j hj => by
  show upd σ.1 k x j = σ.1 j
  unfold upd
  rw [if_neg (by omega)]
theorem Fr.ar {σ : St} {k : Nat} {f : Nat → Int32} : Fr (ar σ k f) σ := fun _ _ => rfl
theorem shp.fr {τ σ : St} (h : shp σ) (f : Fr τ σ) : shp τ := by
  obtain ⟨N, R, h1, h2, h3, h4, h5, h6⟩ := h
  exact ⟨N, R, h1, h2, h3, h4, (f 0 (by decide)).trans h5, (f 1 (by decide)).trans h6⟩
theorem shp.there {σ : St} (h : shp σ) : ((σ.1 1) + 1).toInt ≤ (σ.1 0).toInt ∧ (σ.1 0).toInt < ((σ.1 1) + 1).toInt + 9 ∧ 0 ≤ ((σ.1 1) + 1).toInt := by
  obtain ⟨N, R, h1, h2, h3, h4, h5, h6⟩ := h
  rw [h5, h6, nI_1, nI_toInt (by omega), nI_toInt (by omega)]
  omega
theorem shp.last {σ : St} (h : shp σ) : -1 ≤ (((σ.1 0) - 1) - 1).toInt ∧ (((σ.1 0) - 1) - 1).toInt + 1 < 9 := by
  obtain ⟨N, R, h1, h2, h3, h4, h5, h6⟩ := h
  obtain ⟨k, rfl⟩ : ∃ k, N = k + 1 + 1 := ⟨N - 2, by omega⟩
  rw [h5, nI_pred, nI_pred, nI_toInt (by omega)]
  omega
end
section
-- ===== PART A: goes FIRST, ahead of the names: the tables' words, and 'selects' of the private methods out of them =====
/-- a private method of a class that the tables say can be made, by its rows of tables_1 -/
def lw_okq (q : MethodName × Nat) : Prop := (q.1.cls ≠ "java/lang/invoke/MethodHandle" ∧ q.1.cls ≠ "java/lang/invoke/VarHandle") ∧ Cond.instantiable q.1.cls q.2 ∈ tables_1 ∧ Cond.privateMethod q.1 ∈ tables_1 ∧ Cond.instanceMethod q.1 ∈ tables_1
theorem lw_p0 : lw_okq (⟨"java/lang/Throwable", "fillInStackTrace", "(I)Ljava/lang/Throwable;"⟩, 6) := ⟨⟨by decide +kernel, by decide +kernel⟩, List.mem_of_getElem? (i := 363) (by decide +kernel), List.mem_of_getElem? (i := 361) (by decide +kernel), List.mem_of_getElem? (i := 362) (by decide +kernel)⟩
theorem lw_p1 : lw_okq (⟨"StageCycles$Line", "leave", "()I"⟩, 14) := ⟨⟨by decide +kernel, by decide +kernel⟩, List.mem_of_getElem? (i := 94) (by decide +kernel), List.mem_of_getElem? (i := 460) (by decide +kernel), List.mem_of_getElem? (i := 461) (by decide +kernel)⟩
theorem lw_p2 : lw_okq (⟨"StageCycles$Line", "squashAndGoTo", "(II)V"⟩, 14) := ⟨⟨by decide +kernel, by decide +kernel⟩, List.mem_of_getElem? (i := 94) (by decide +kernel), List.mem_of_getElem? (i := 484) (by decide +kernel), List.mem_of_getElem? (i := 485) (by decide +kernel)⟩
theorem lw_p3 : lw_okq (⟨"StageCycles$Line", "commit", "(I)V"⟩, 14) := ⟨⟨by decide +kernel, by decide +kernel⟩, List.mem_of_getElem? (i := 94) (by decide +kernel), List.mem_of_getElem? (i := 494) (by decide +kernel), List.mem_of_getElem? (i := 495) (by decide +kernel)⟩
theorem lw_p4 : lw_okq (⟨"StageCycles$PlainRun", "write", "(II)I"⟩, 3) := ⟨⟨by decide +kernel, by decide +kernel⟩, List.mem_of_getElem? (i := 187) (by decide +kernel), List.mem_of_getElem? (i := 523) (by decide +kernel), List.mem_of_getElem? (i := 524) (by decide +kernel)⟩
theorem lw_p5 : lw_okq (⟨"StageCycles$PlainRun", "store", "(II)I"⟩, 3) := ⟨⟨by decide +kernel, by decide +kernel⟩, List.mem_of_getElem? (i := 187) (by decide +kernel), List.mem_of_getElem? (i := 532) (by decide +kernel), List.mem_of_getElem? (i := 533) (by decide +kernel)⟩
theorem lw_p6 : lw_okq (⟨"StageCycles$Line", "takeBranch", "(II)V"⟩, 14) := ⟨⟨by decide +kernel, by decide +kernel⟩, List.mem_of_getElem? (i := 94) (by decide +kernel), List.mem_of_getElem? (i := 541) (by decide +kernel), List.mem_of_getElem? (i := 542) (by decide +kernel)⟩
theorem lw_p7 : lw_okq (⟨"StageCycles$Line", "goOn", "()I"⟩, 14) := ⟨⟨by decide +kernel, by decide +kernel⟩, List.mem_of_getElem? (i := 94) (by decide +kernel), List.mem_of_getElem? (i := 546) (by decide +kernel), List.mem_of_getElem? (i := 547) (by decide +kernel)⟩
theorem lw_p8 : lw_okq (⟨"StageCycles$Line", "work", "(I)I"⟩, 14) := ⟨⟨by decide +kernel, by decide +kernel⟩, List.mem_of_getElem? (i := 94) (by decide +kernel), List.mem_of_getElem? (i := 550) (by decide +kernel), List.mem_of_getElem? (i := 551) (by decide +kernel)⟩
theorem lw_p9 : lw_okq (⟨"StageCycles$Line", "isReady", "(I)Z"⟩, 14) := ⟨⟨by decide +kernel, by decide +kernel⟩, List.mem_of_getElem? (i := 94) (by decide +kernel), List.mem_of_getElem? (i := 554) (by decide +kernel), List.mem_of_getElem? (i := 555) (by decide +kernel)⟩
theorem lw_p10 : lw_okq (⟨"StageCycles$Line", "isThere", "(I)Z"⟩, 14) := ⟨⟨by decide +kernel, by decide +kernel⟩, List.mem_of_getElem? (i := 94) (by decide +kernel), List.mem_of_getElem? (i := 559) (by decide +kernel), List.mem_of_getElem? (i := 560) (by decide +kernel)⟩
theorem lw_p11 : lw_okq (⟨"StageCycles$Line", "fetch", "()V"⟩, 14) := ⟨⟨by decide +kernel, by decide +kernel⟩, List.mem_of_getElem? (i := 94) (by decide +kernel), List.mem_of_getElem? (i := 584) (by decide +kernel), List.mem_of_getElem? (i := 585) (by decide +kernel)⟩
theorem lw_p12 : lw_okq (⟨"StageCyclesModel", "begin", "()V"⟩, 41) := ⟨⟨by decide +kernel, by decide +kernel⟩, List.mem_of_getElem? (i := 672) (by decide +kernel), List.mem_of_getElem? (i := 681) (by decide +kernel), List.mem_of_getElem? (i := 682) (by decide +kernel)⟩
theorem lw_p13 : lw_okq (⟨"StageCyclesModel", "fail", "(I)I"⟩, 41) := ⟨⟨by decide +kernel, by decide +kernel⟩, List.mem_of_getElem? (i := 672) (by decide +kernel), List.mem_of_getElem? (i := 823) (by decide +kernel), List.mem_of_getElem? (i := 824) (by decide +kernel)⟩
theorem lw_p14 : lw_okq (⟨"StageCyclesModel", "cycle", "()V"⟩, 41) := ⟨⟨by decide +kernel, by decide +kernel⟩, List.mem_of_getElem? (i := 672) (by decide +kernel), List.mem_of_getElem? (i := 839) (by decide +kernel), List.mem_of_getElem? (i := 840) (by decide +kernel)⟩
theorem lw_p15 : lw_okq (⟨"StageCyclesModel", "leave", "()I"⟩, 41) := ⟨⟨by decide +kernel, by decide +kernel⟩, List.mem_of_getElem? (i := 672) (by decide +kernel), List.mem_of_getElem? (i := 843) (by decide +kernel), List.mem_of_getElem? (i := 844) (by decide +kernel)⟩
def lw_privs_1 : List (MethodName × Nat) := [(⟨"java/lang/Throwable", "fillInStackTrace", "(I)Ljava/lang/Throwable;"⟩, 6), (⟨"StageCycles$Line", "leave", "()I"⟩, 14), (⟨"StageCycles$Line", "squashAndGoTo", "(II)V"⟩, 14), (⟨"StageCycles$Line", "commit", "(I)V"⟩, 14), (⟨"StageCycles$PlainRun", "write", "(II)I"⟩, 3), (⟨"StageCycles$PlainRun", "store", "(II)I"⟩, 3), (⟨"StageCycles$Line", "takeBranch", "(II)V"⟩, 14), (⟨"StageCycles$Line", "goOn", "()I"⟩, 14), (⟨"StageCycles$Line", "work", "(I)I"⟩, 14), (⟨"StageCycles$Line", "isReady", "(I)Z"⟩, 14), (⟨"StageCycles$Line", "isThere", "(I)Z"⟩, 14), (⟨"StageCycles$Line", "fetch", "()V"⟩, 14), (⟨"StageCyclesModel", "begin", "()V"⟩, 41), (⟨"StageCyclesModel", "fail", "(I)I"⟩, 41), (⟨"StageCyclesModel", "cycle", "()V"⟩, 41), (⟨"StageCyclesModel", "leave", "()I"⟩, 41)]
theorem lw_r1 : ∀ q ∈ lw_privs_1, lw_okq q := List.forall_mem_cons.mpr ⟨lw_p0, List.forall_mem_cons.mpr ⟨lw_p1, List.forall_mem_cons.mpr ⟨lw_p2, List.forall_mem_cons.mpr ⟨lw_p3, List.forall_mem_cons.mpr ⟨lw_p4, List.forall_mem_cons.mpr ⟨lw_p5, List.forall_mem_cons.mpr ⟨lw_p6, List.forall_mem_cons.mpr ⟨lw_p7, List.forall_mem_cons.mpr ⟨lw_p8, List.forall_mem_cons.mpr ⟨lw_p9, List.forall_mem_cons.mpr ⟨lw_p10, List.forall_mem_cons.mpr ⟨lw_p11, List.forall_mem_cons.mpr ⟨lw_p12, List.forall_mem_cons.mpr ⟨lw_p13, List.forall_mem_cons.mpr ⟨lw_p14, List.forall_mem_cons.mpr ⟨lw_p15, fun _ h => absurd h List.not_mem_nil⟩⟩⟩⟩⟩⟩⟩⟩⟩⟩⟩⟩⟩⟩⟩⟩
theorem lw_p16 : lw_okq (⟨"StageCyclesModel", "squash", "(II)V"⟩, 41) := ⟨⟨by decide +kernel, by decide +kernel⟩, List.mem_of_getElem? (i := 672) (by decide +kernel), List.mem_of_getElem? (i := 847) (by decide +kernel), List.mem_of_getElem? (i := 848) (by decide +kernel)⟩
theorem lw_p17 : lw_okq (⟨"StageCyclesModel", "commit", "(I)V"⟩, 41) := ⟨⟨by decide +kernel, by decide +kernel⟩, List.mem_of_getElem? (i := 672) (by decide +kernel), List.mem_of_getElem? (i := 851) (by decide +kernel), List.mem_of_getElem? (i := 852) (by decide +kernel)⟩
theorem lw_p18 : lw_okq (⟨"StageCyclesModel", "writes", "(I)Z"⟩, 41) := ⟨⟨by decide +kernel, by decide +kernel⟩, List.mem_of_getElem? (i := 672) (by decide +kernel), List.mem_of_getElem? (i := 855) (by decide +kernel), List.mem_of_getElem? (i := 856) (by decide +kernel)⟩
theorem lw_p19 : lw_okq (⟨"StageCyclesModel", "know", "(II)V"⟩, 41) := ⟨⟨by decide +kernel, by decide +kernel⟩, List.mem_of_getElem? (i := 672) (by decide +kernel), List.mem_of_getElem? (i := 859) (by decide +kernel), List.mem_of_getElem? (i := 860) (by decide +kernel)⟩
theorem lw_p20 : lw_okq (⟨"StageCyclesModel", "goOn", "()I"⟩, 41) := ⟨⟨by decide +kernel, by decide +kernel⟩, List.mem_of_getElem? (i := 672) (by decide +kernel), List.mem_of_getElem? (i := 863) (by decide +kernel), List.mem_of_getElem? (i := 864) (by decide +kernel)⟩
theorem lw_p21 : lw_okq (⟨"StageCyclesModel", "work", "()I"⟩, 41) := ⟨⟨by decide +kernel, by decide +kernel⟩, List.mem_of_getElem? (i := 672) (by decide +kernel), List.mem_of_getElem? (i := 867) (by decide +kernel), List.mem_of_getElem? (i := 868) (by decide +kernel)⟩
theorem lw_p22 : lw_okq (⟨"StageCyclesModel", "isReady", "(I)Z"⟩, 41) := ⟨⟨by decide +kernel, by decide +kernel⟩, List.mem_of_getElem? (i := 672) (by decide +kernel), List.mem_of_getElem? (i := 871) (by decide +kernel), List.mem_of_getElem? (i := 872) (by decide +kernel)⟩
theorem lw_p23 : lw_okq (⟨"StageCyclesModel", "readsA", "(I)Z"⟩, 41) := ⟨⟨by decide +kernel, by decide +kernel⟩, List.mem_of_getElem? (i := 672) (by decide +kernel), List.mem_of_getElem? (i := 875) (by decide +kernel), List.mem_of_getElem? (i := 876) (by decide +kernel)⟩
theorem lw_p24 : lw_okq (⟨"StageCyclesModel", "isThere", "(I)Z"⟩, 41) := ⟨⟨by decide +kernel, by decide +kernel⟩, List.mem_of_getElem? (i := 672) (by decide +kernel), List.mem_of_getElem? (i := 879) (by decide +kernel), List.mem_of_getElem? (i := 880) (by decide +kernel)⟩
theorem lw_p25 : lw_okq (⟨"StageCyclesModel", "readsB", "(I)Z"⟩, 41) := ⟨⟨by decide +kernel, by decide +kernel⟩, List.mem_of_getElem? (i := 672) (by decide +kernel), List.mem_of_getElem? (i := 883) (by decide +kernel), List.mem_of_getElem? (i := 884) (by decide +kernel)⟩
theorem lw_p26 : lw_okq (⟨"StageCyclesModel", "cyclesOf", "(I)I"⟩, 41) := ⟨⟨by decide +kernel, by decide +kernel⟩, List.mem_of_getElem? (i := 672) (by decide +kernel), List.mem_of_getElem? (i := 887) (by decide +kernel), List.mem_of_getElem? (i := 888) (by decide +kernel)⟩
theorem lw_p27 : lw_okq (⟨"StageCyclesModel", "mayGo", "(I)Z"⟩, 41) := ⟨⟨by decide +kernel, by decide +kernel⟩, List.mem_of_getElem? (i := 672) (by decide +kernel), List.mem_of_getElem? (i := 891) (by decide +kernel), List.mem_of_getElem? (i := 892) (by decide +kernel)⟩
theorem lw_p28 : lw_okq (⟨"StageCyclesModel", "moveOn", "(I)V"⟩, 41) := ⟨⟨by decide +kernel, by decide +kernel⟩, List.mem_of_getElem? (i := 672) (by decide +kernel), List.mem_of_getElem? (i := 895) (by decide +kernel), List.mem_of_getElem? (i := 896) (by decide +kernel)⟩
theorem lw_p29 : lw_okq (⟨"StageCyclesModel", "fetch", "()V"⟩, 41) := ⟨⟨by decide +kernel, by decide +kernel⟩, List.mem_of_getElem? (i := 672) (by decide +kernel), List.mem_of_getElem? (i := 899) (by decide +kernel), List.mem_of_getElem? (i := 900) (by decide +kernel)⟩
theorem lw_p30 : lw_okq (⟨"StageCyclesModel", "plainRun", "(I)V"⟩, 41) := ⟨⟨by decide +kernel, by decide +kernel⟩, List.mem_of_getElem? (i := 672) (by decide +kernel), List.mem_of_getElem? (i := 903) (by decide +kernel), List.mem_of_getElem? (i := 904) (by decide +kernel)⟩
def lw_privs_2 : List (MethodName × Nat) := [(⟨"StageCyclesModel", "squash", "(II)V"⟩, 41), (⟨"StageCyclesModel", "commit", "(I)V"⟩, 41), (⟨"StageCyclesModel", "writes", "(I)Z"⟩, 41), (⟨"StageCyclesModel", "know", "(II)V"⟩, 41), (⟨"StageCyclesModel", "goOn", "()I"⟩, 41), (⟨"StageCyclesModel", "work", "()I"⟩, 41), (⟨"StageCyclesModel", "isReady", "(I)Z"⟩, 41), (⟨"StageCyclesModel", "readsA", "(I)Z"⟩, 41), (⟨"StageCyclesModel", "isThere", "(I)Z"⟩, 41), (⟨"StageCyclesModel", "readsB", "(I)Z"⟩, 41), (⟨"StageCyclesModel", "cyclesOf", "(I)I"⟩, 41), (⟨"StageCyclesModel", "mayGo", "(I)Z"⟩, 41), (⟨"StageCyclesModel", "moveOn", "(I)V"⟩, 41), (⟨"StageCyclesModel", "fetch", "()V"⟩, 41), (⟨"StageCyclesModel", "plainRun", "(I)V"⟩, 41)]
theorem lw_r2 : ∀ q ∈ lw_privs_2, lw_okq q := List.forall_mem_cons.mpr ⟨lw_p16, List.forall_mem_cons.mpr ⟨lw_p17, List.forall_mem_cons.mpr ⟨lw_p18, List.forall_mem_cons.mpr ⟨lw_p19, List.forall_mem_cons.mpr ⟨lw_p20, List.forall_mem_cons.mpr ⟨lw_p21, List.forall_mem_cons.mpr ⟨lw_p22, List.forall_mem_cons.mpr ⟨lw_p23, List.forall_mem_cons.mpr ⟨lw_p24, List.forall_mem_cons.mpr ⟨lw_p25, List.forall_mem_cons.mpr ⟨lw_p26, List.forall_mem_cons.mpr ⟨lw_p27, List.forall_mem_cons.mpr ⟨lw_p28, List.forall_mem_cons.mpr ⟨lw_p29, List.forall_mem_cons.mpr ⟨lw_p30, fun _ h => absurd h List.not_mem_nil⟩⟩⟩⟩⟩⟩⟩⟩⟩⟩⟩⟩⟩⟩⟩
def lw_privs : List (MethodName × Nat) := lw_privs_1 ++ (lw_privs_2)
def lw_tbl : List Cond := k2_sels lw_privs ++ tables_1
theorem lw_privs_ok : ∀ q ∈ lw_privs, lw_okq q := by
  show ∀ q ∈ lw_privs_1 ++ (lw_privs_2), lw_okq q
  exact List.forall_mem_append.mpr ⟨lw_r1, lw_r2⟩
/-- the tables' words that keep: one list for every method -/
def TB : List Cond := lw_tbl.filter goodWord
theorem TBg : GoodIn TB TB := fun w hw => ⟨hw, good_of_word (List.mem_filter.mp hw).2⟩
theorem TBin : ∀ w ∈ TB, w ∈ lw_tbl := fun w hw => (List.mem_filter.mp hw).1
theorem inTB1 (i : Nat) {w : Cond} (h : tables_1_1[i]? = some w) (g : goodWord w = true) : w ∈ TB := List.mem_filter.mpr ⟨List.mem_append_right _ (List.mem_append_left _ (List.mem_of_getElem? h)), g⟩
theorem inTB2 (i : Nat) {w : Cond} (h : tables_1_2[i]? = some w) (g : goodWord w = true) : w ∈ TB := List.mem_filter.mpr ⟨List.mem_append_right _ (List.mem_append_right _ (List.mem_append_left _ (List.mem_of_getElem? h))), g⟩
theorem inTB3 (i : Nat) {w : Cond} (h : tables_1_3[i]? = some w) (g : goodWord w = true) : w ∈ TB := List.mem_filter.mpr ⟨List.mem_append_right _ (List.mem_append_right _ (List.mem_append_right _ (List.mem_append_left _ (List.mem_of_getElem? h)))), g⟩
theorem inTB4 (i : Nat) {w : Cond} (h : tables_1_4[i]? = some w) (g : goodWord w = true) : w ∈ TB := List.mem_filter.mpr ⟨List.mem_append_right _ (List.mem_append_right _ (List.mem_append_right _ (List.mem_append_right _ (List.mem_of_getElem? h)))), g⟩
theorem inTP (i : Nat) {w : Cond} (h : (k2_sels lw_privs)[i]? = some w) (g : goodWord w = true) : w ∈ TB := List.mem_filter.mpr ⟨List.mem_append_left _ (List.mem_of_getElem? h), g⟩
end
section
theorem tb1_0 : (Jvm.Cond.initialized "StageCyclesLaw") ∈ TB := inTB1 0 (by decide +kernel) (by decide +kernel)
theorem tb1_1 : (Jvm.Cond.initialized "StageCycles") ∈ TB := inTB1 1 (by decide +kernel) (by decide +kernel)
theorem tb1_2 : (Jvm.Cond.initialized "StageCycles$Shape") ∈ TB := inTB1 2 (by decide +kernel) (by decide +kernel)
theorem tb1_3 : (Jvm.Cond.initialized "java/lang/Math") ∈ TB := inTB1 3 (by decide +kernel) (by decide +kernel)
theorem tb1_4 : (Jvm.Cond.initialized "StageCycles$Program") ∈ TB := inTB1 4 (by decide +kernel) (by decide +kernel)
theorem tb1_5 : (Jvm.Cond.initialized "StageCycles$Line") ∈ TB := inTB1 5 (by decide +kernel) (by decide +kernel)
theorem tb1_6 : (Jvm.Cond.initialized "StageCycles$Slots") ∈ TB := inTB1 6 (by decide +kernel) (by decide +kernel)
theorem tb1_7 : (Jvm.Cond.initialized "java/util/Arrays") ∈ TB := inTB1 7 (by decide +kernel) (by decide +kernel)
theorem tb1_8 : (Jvm.Cond.initialized "StageCycles$Journal") ∈ TB := inTB1 8 (by decide +kernel) (by decide +kernel)
theorem tb1_9 : (Jvm.Cond.initialized "StageCycles$Tally") ∈ TB := inTB1 9 (by decide +kernel) (by decide +kernel)
theorem tb1_10 : (Jvm.Cond.initialized "StageCycles$PlainRun") ∈ TB := inTB1 10 (by decide +kernel) (by decide +kernel)
theorem tb1_11 : (Jvm.Cond.initialized "StageCyclesModel") ∈ TB := inTB1 11 (by decide +kernel) (by decide +kernel)
theorem tb1_12 : (Jvm.Cond.initialized "java/lang/Throwable") ∈ TB := inTB1 12 (by decide +kernel) (by decide +kernel)
theorem tb1_13 : (Jvm.Cond.initialized "java/lang/Exception") ∈ TB := inTB1 13 (by decide +kernel) (by decide +kernel)
theorem tb1_14 : (Jvm.Cond.initialized "java/lang/RuntimeException") ∈ TB := inTB1 14 (by decide +kernel) (by decide +kernel)
theorem tb1_15 : (Jvm.Cond.initialized "java/lang/IllegalArgumentException") ∈ TB := inTB1 15 (by decide +kernel) (by decide +kernel)
theorem tb1_16 : (Jvm.Cond.initialized "java/lang/IllegalStateException") ∈ TB := inTB1 16 (by decide +kernel) (by decide +kernel)
theorem tb1_17 : (Jvm.Cond.initialized "java/lang/UnsupportedOperationException") ∈ TB := inTB1 17 (by decide +kernel) (by decide +kernel)
theorem tb1_18 : (Jvm.Cond.initialized "java/lang/IndexOutOfBoundsException") ∈ TB := inTB1 18 (by decide +kernel) (by decide +kernel)
theorem tb1_19 : (Jvm.Cond.classLink "StageCyclesLaw" (8 : Nat) "StageCycles") ∈ TB := inTB1 19 (by decide +kernel) (by decide +kernel)
theorem tb1_20 : (Jvm.Cond.instantiable "StageCycles" (3 : Nat)) ∈ TB := inTB1 20 (by decide +kernel) (by decide +kernel)
theorem tb1_21 : (Jvm.Cond.methodLink "StageCyclesLaw" (51 : Nat) ({ cls := "StageCycles", name := "<init>", desc := "(IIIIII)V" } : Jvm.MethodName)) ∈ TB := inTB1 21 (by decide +kernel) (by decide +kernel)
theorem tb1_22 : (Jvm.Cond.instanceMethod ({ cls := "StageCycles", name := "<init>", desc := "(IIIIII)V" } : Jvm.MethodName)) ∈ TB := inTB1 22 (by decide +kernel) (by decide +kernel)
theorem tb1_23 : (Jvm.Cond.code ({ cls := "StageCycles", name := "<init>", desc := "(IIIIII)V" } : Jvm.MethodName) prog_1_method_1_code (7 : Nat) (Option.none : Option Jvm.ClassFile.FieldType)) ∈ TB := inTB1 23 (by decide +kernel) (by decide +kernel)
theorem tb1_24 : (Jvm.Cond.methodLink "StageCycles" (1 : Nat) ({ cls := "java/lang/Object", name := "<init>", desc := "()V" } : Jvm.MethodName)) ∈ TB := inTB1 24 (by decide +kernel) (by decide +kernel)
theorem tb1_25 : (Jvm.Cond.instanceMethod ({ cls := "java/lang/Object", name := "<init>", desc := "()V" } : Jvm.MethodName)) ∈ TB := inTB1 25 (by decide +kernel) (by decide +kernel)
theorem tb1_26 : (Jvm.Cond.code ({ cls := "java/lang/Object", name := "<init>", desc := "()V" } : Jvm.MethodName) object_method_1_code (1 : Nat) (Option.none : Option Jvm.ClassFile.FieldType)) ∈ TB := inTB1 26 (by decide +kernel) (by decide +kernel)
theorem tb1_27 : (Jvm.Cond.classLink "StageCycles" (7 : Nat) "StageCycles$Shape") ∈ TB := inTB1 27 (by decide +kernel) (by decide +kernel)
theorem tb1_28 : (Jvm.Cond.instantiable "StageCycles$Shape" (6 : Nat)) ∈ TB := inTB1 28 (by decide +kernel) (by decide +kernel)
theorem tb1_29 : (Jvm.Cond.methodLink "StageCycles" (9 : Nat) ({ cls := "StageCycles$Shape", name := "<init>", desc := "(IIIIII)V" } : Jvm.MethodName)) ∈ TB := inTB1 29 (by decide +kernel) (by decide +kernel)
theorem tb1_30 : (Jvm.Cond.instanceMethod ({ cls := "StageCycles$Shape", name := "<init>", desc := "(IIIIII)V" } : Jvm.MethodName)) ∈ TB := inTB1 30 (by decide +kernel) (by decide +kernel)
theorem tb1_31 : (Jvm.Cond.code ({ cls := "StageCycles$Shape", name := "<init>", desc := "(IIIIII)V" } : Jvm.MethodName) prog_6_method_1_code (8 : Nat) (Option.none : Option Jvm.ClassFile.FieldType)) ∈ TB := inTB1 31 (by decide +kernel) (by decide +kernel)
theorem tb1_32 : (Jvm.Cond.methodLink "StageCycles$Shape" (3 : Nat) ({ cls := "java/lang/Object", name := "<init>", desc := "()V" } : Jvm.MethodName)) ∈ TB := inTB1 32 (by decide +kernel) (by decide +kernel)
theorem tb1_33 : (Jvm.Cond.methodLink "StageCycles$Shape" (9 : Nat) ({ cls := "StageCycles$Shape", name := "rest", desc := "(II)I" } : Jvm.MethodName)) ∈ TB := inTB1 33 (by decide +kernel) (by decide +kernel)
theorem tb1_34 : (Jvm.Cond.static ({ cls := "StageCycles$Shape", name := "rest", desc := "(II)I" } : Jvm.MethodName)) ∈ TB := inTB1 34 (by decide +kernel) (by decide +kernel)
theorem tb1_35 : (Jvm.Cond.code ({ cls := "StageCycles$Shape", name := "rest", desc := "(II)I" } : Jvm.MethodName) prog_6_method_2_code (2 : Nat) (Option.some Jvm.ClassFile.FieldType.int)) ∈ TB := inTB1 35 (by decide +kernel) (by decide +kernel)
theorem tb1_36 : (Jvm.Cond.methodLink "StageCycles$Shape" (34 : Nat) ({ cls := "java/lang/Math", name := "floorMod", desc := "(II)I" } : Jvm.MethodName)) ∈ TB := inTB1 36 (by decide +kernel) (by decide +kernel)
theorem tb1_37 : (Jvm.Cond.static ({ cls := "java/lang/Math", name := "floorMod", desc := "(II)I" } : Jvm.MethodName)) ∈ TB := inTB1 37 (by decide +kernel) (by decide +kernel)
theorem tb1_38 : (Jvm.Cond.code ({ cls := "java/lang/Math", name := "floorMod", desc := "(II)I" } : Jvm.MethodName) prog_15_method_50_code (3 : Nat) (Option.some Jvm.ClassFile.FieldType.int)) ∈ TB := inTB1 38 (by decide +kernel) (by decide +kernel)
theorem tb1_39 : (Jvm.Cond.fieldLink "StageCycles$Shape" (15 : Nat) "StageCycles$Shape" "stages" "I") ∈ TB := inTB1 39 (by decide +kernel) (by decide +kernel)
theorem tb1_40 : (Jvm.Cond.fieldLink "StageCycles" (100 : Nat) "StageCycles$Shape" "stages" "I") ∈ TB := inTB1 40 (by decide +kernel) (by decide +kernel)
theorem tb1_41 : (Jvm.Cond.fieldLink "StageCycles$Line" (187 : Nat) "StageCycles$Shape" "stages" "I") ∈ TB := inTB1 41 (by decide +kernel) (by decide +kernel)
theorem tb1_42 : (Jvm.Cond.fieldLink "StageCycles$Shape" (19 : Nat) "StageCycles$Shape" "reading" "I") ∈ TB := inTB1 42 (by decide +kernel) (by decide +kernel)
theorem tb1_43 : (Jvm.Cond.fieldLink "StageCycles$Line" (163 : Nat) "StageCycles$Shape" "reading" "I") ∈ TB := inTB1 43 (by decide +kernel) (by decide +kernel)
theorem tb1_44 : (Jvm.Cond.fieldLink "StageCycles" (166 : Nat) "StageCycles$Shape" "reading" "I") ∈ TB := inTB1 44 (by decide +kernel) (by decide +kernel)
theorem tb1_45 : (Jvm.Cond.fieldLink "StageCycles$Shape" (22 : Nat) "StageCycles$Shape" "behindAlu" "I") ∈ TB := inTB1 45 (by decide +kernel) (by decide +kernel)
theorem tb1_46 : (Jvm.Cond.fieldLink "StageCycles" (169 : Nat) "StageCycles$Shape" "behindAlu" "I") ∈ TB := inTB1 46 (by decide +kernel) (by decide +kernel)
theorem tb1_47 : (Jvm.Cond.fieldLink "StageCycles$Shape" (25 : Nat) "StageCycles$Shape" "behindLoad" "I") ∈ TB := inTB1 47 (by decide +kernel) (by decide +kernel)
theorem tb1_48 : (Jvm.Cond.fieldLink "StageCycles" (172 : Nat) "StageCycles$Shape" "behindLoad" "I") ∈ TB := inTB1 48 (by decide +kernel) (by decide +kernel)
theorem tb1_49 : (Jvm.Cond.fieldLink "StageCycles$Shape" (28 : Nat) "StageCycles$Shape" "behindBranch" "I") ∈ TB := inTB1 49 (by decide +kernel) (by decide +kernel)
theorem tb1_50 : (Jvm.Cond.fieldLink "StageCycles$Line" (132 : Nat) "StageCycles$Shape" "behindBranch" "I") ∈ TB := inTB1 50 (by decide +kernel) (by decide +kernel)
theorem tb1_51 : (Jvm.Cond.fieldLink "StageCycles" (175 : Nat) "StageCycles$Shape" "behindBranch" "I") ∈ TB := inTB1 51 (by decide +kernel) (by decide +kernel)
theorem tb1_52 : (Jvm.Cond.fieldLink "StageCycles$Shape" (31 : Nat) "StageCycles$Shape" "mulCycles" "I") ∈ TB := inTB1 52 (by decide +kernel) (by decide +kernel)
theorem tb1_53 : (Jvm.Cond.fieldLink "StageCycles" (178 : Nat) "StageCycles$Shape" "mulCycles" "I") ∈ TB := inTB1 53 (by decide +kernel) (by decide +kernel)
theorem tb1_67 : (Jvm.Cond.classLink "StageCycles" (18 : Nat) "StageCycles$Program") ∈ TB := inTB1 67 (by decide +kernel) (by decide +kernel)
theorem tb1_68 : (Jvm.Cond.instantiable "StageCycles$Program" (6 : Nat)) ∈ TB := inTB1 68 (by decide +kernel) (by decide +kernel)
theorem tb1_70 : (Jvm.Cond.instanceMethod ({ cls := "StageCycles$Program", name := "<init>", desc := "()V" } : Jvm.MethodName)) ∈ TB := inTB1 70 (by decide +kernel) (by decide +kernel)
theorem tb1_71 : (Jvm.Cond.code ({ cls := "StageCycles$Program", name := "<init>", desc := "()V" } : Jvm.MethodName) prog_5_method_1_code (1 : Nat) (Option.none : Option Jvm.ClassFile.FieldType)) ∈ TB := inTB1 71 (by decide +kernel) (by decide +kernel)
theorem tb1_72 : (Jvm.Cond.methodLink "StageCycles$Program" (3 : Nat) ({ cls := "java/lang/Object", name := "<init>", desc := "()V" } : Jvm.MethodName)) ∈ TB := inTB1 72 (by decide +kernel) (by decide +kernel)
theorem tb1_73 : (Jvm.Cond.fieldLink "StageCycles$Program" (9 : Nat) "StageCycles$Program" "kinds" "[I") ∈ TB := inTB1 73 (by decide +kernel) (by decide +kernel)
theorem tb1_74 : (Jvm.Cond.fieldLink "StageCycles$Program" (15 : Nat) "StageCycles$Program" "writes" "[I") ∈ TB := inTB1 74 (by decide +kernel) (by decide +kernel)
theorem tb1_75 : (Jvm.Cond.fieldLink "StageCycles$Program" (18 : Nat) "StageCycles$Program" "firsts" "[I") ∈ TB := inTB1 75 (by decide +kernel) (by decide +kernel)
theorem tb1_76 : (Jvm.Cond.fieldLink "StageCycles$Program" (21 : Nat) "StageCycles$Program" "seconds" "[I") ∈ TB := inTB1 76 (by decide +kernel) (by decide +kernel)
theorem tb1_77 : (Jvm.Cond.fieldLink "StageCycles$Program" (24 : Nat) "StageCycles$Program" "numbers" "[I") ∈ TB := inTB1 77 (by decide +kernel) (by decide +kernel)
theorem tb1_78 : (Jvm.Cond.fieldLink "StageCycles$Program" (27 : Nat) "StageCycles$Program" "words" "I") ∈ TB := inTB1 78 (by decide +kernel) (by decide +kernel)
theorem tb1_92 : (Jvm.Cond.arrayClass Jvm.ClassFile.FieldType.int) ∈ TB := inTB1 92 (by decide +kernel) (by decide +kernel)
theorem tb1_93 : (Jvm.Cond.classLink "StageCycles" (25 : Nat) "StageCycles$Line") ∈ TB := inTB1 93 (by decide +kernel) (by decide +kernel)
theorem tb1_94 : (Jvm.Cond.instantiable "StageCycles$Line" (14 : Nat)) ∈ TB := inTB1 94 (by decide +kernel) (by decide +kernel)
theorem tb1_95 : (Jvm.Cond.methodLink "StageCycles" (27 : Nat) ({ cls := "StageCycles$Line", name := "<init>", desc := "(LStageCycles$Shape;LStageCycles$Program;)V" } : Jvm.MethodName)) ∈ TB := inTB1 95 (by decide +kernel) (by decide +kernel)
theorem tb1_96 : (Jvm.Cond.instanceMethod ({ cls := "StageCycles$Line", name := "<init>", desc := "(LStageCycles$Shape;LStageCycles$Program;)V" } : Jvm.MethodName)) ∈ TB := inTB1 96 (by decide +kernel) (by decide +kernel)
theorem tb1_97 : (Jvm.Cond.code ({ cls := "StageCycles$Line", name := "<init>", desc := "(LStageCycles$Shape;LStageCycles$Program;)V" } : Jvm.MethodName) prog_3_method_1_code (3 : Nat) (Option.none : Option Jvm.ClassFile.FieldType)) ∈ TB := inTB1 97 (by decide +kernel) (by decide +kernel)
theorem tb1_98 : (Jvm.Cond.methodLink "StageCycles$Line" (3 : Nat) ({ cls := "java/lang/Object", name := "<init>", desc := "()V" } : Jvm.MethodName)) ∈ TB := inTB1 98 (by decide +kernel) (by decide +kernel)
theorem tb1_99 : (Jvm.Cond.classLink "StageCycles$Line" (9 : Nat) "StageCycles$Slots") ∈ TB := inTB1 99 (by decide +kernel) (by decide +kernel)
theorem tb1_100 : (Jvm.Cond.instantiable "StageCycles$Slots" (3 : Nat)) ∈ TB := inTB1 100 (by decide +kernel) (by decide +kernel)
theorem tb1_101 : (Jvm.Cond.methodLink "StageCycles$Line" (11 : Nat) ({ cls := "StageCycles$Slots", name := "<init>", desc := "()V" } : Jvm.MethodName)) ∈ TB := inTB1 101 (by decide +kernel) (by decide +kernel)
theorem tb1_102 : (Jvm.Cond.instanceMethod ({ cls := "StageCycles$Slots", name := "<init>", desc := "()V" } : Jvm.MethodName)) ∈ TB := inTB1 102 (by decide +kernel) (by decide +kernel)
theorem tb1_103 : (Jvm.Cond.code ({ cls := "StageCycles$Slots", name := "<init>", desc := "()V" } : Jvm.MethodName) prog_7_method_1_code (1 : Nat) (Option.none : Option Jvm.ClassFile.FieldType)) ∈ TB := inTB1 103 (by decide +kernel) (by decide +kernel)
theorem tb1_104 : (Jvm.Cond.methodLink "StageCycles$Slots" (3 : Nat) ({ cls := "java/lang/Object", name := "<init>", desc := "()V" } : Jvm.MethodName)) ∈ TB := inTB1 104 (by decide +kernel) (by decide +kernel)
theorem tb1_105 : (Jvm.Cond.methodLink "StageCycles$Slots" (22 : Nat) ({ cls := "java/util/Arrays", name := "fill", desc := "([II)V" } : Jvm.MethodName)) ∈ TB := inTB1 105 (by decide +kernel) (by decide +kernel)
theorem tb1_106 : (Jvm.Cond.static ({ cls := "java/util/Arrays", name := "fill", desc := "([II)V" } : Jvm.MethodName)) ∈ TB := inTB1 106 (by decide +kernel) (by decide +kernel)
theorem tb1_107 : (Jvm.Cond.code ({ cls := "java/util/Arrays", name := "fill", desc := "([II)V" } : Jvm.MethodName) prog_20_method_103_code (4 : Nat) (Option.none : Option Jvm.ClassFile.FieldType)) ∈ TB := inTB1 107 (by decide +kernel) (by decide +kernel)
theorem tb1_108 : (Jvm.Cond.fieldLink "StageCycles$Slots" (9 : Nat) "StageCycles$Slots" "words" "[I") ∈ TB := inTB1 108 (by decide +kernel) (by decide +kernel)
theorem tb1_109 : (Jvm.Cond.fieldLink "StageCycles$Slots" (15 : Nat) "StageCycles$Slots" "onTheWay" "[Z") ∈ TB := inTB1 109 (by decide +kernel) (by decide +kernel)
theorem tb1_110 : (Jvm.Cond.fieldLink "StageCycles$Slots" (19 : Nat) "StageCycles$Slots" "going" "[Z") ∈ TB := inTB1 110 (by decide +kernel) (by decide +kernel)
theorem tb1_118 : (Jvm.Cond.arrayClass Jvm.ClassFile.FieldType.boolean) ∈ TB := inTB1 118 (by decide +kernel) (by decide +kernel)
theorem tb1_119 : (Jvm.Cond.classLink "StageCycles$Line" (18 : Nat) "StageCycles$Journal") ∈ TB := inTB1 119 (by decide +kernel) (by decide +kernel)
theorem tb1_120 : (Jvm.Cond.instantiable "StageCycles$Journal" (5 : Nat)) ∈ TB := inTB1 120 (by decide +kernel) (by decide +kernel)
theorem tb1_122 : (Jvm.Cond.instanceMethod ({ cls := "StageCycles$Journal", name := "<init>", desc := "()V" } : Jvm.MethodName)) ∈ TB := inTB1 122 (by decide +kernel) (by decide +kernel)
theorem tb1_123 : (Jvm.Cond.code ({ cls := "StageCycles$Journal", name := "<init>", desc := "()V" } : Jvm.MethodName) prog_2_method_1_code (1 : Nat) (Option.none : Option Jvm.ClassFile.FieldType)) ∈ TB := inTB1 123 (by decide +kernel) (by decide +kernel)
theorem tb1_124 : (Jvm.Cond.methodLink "StageCycles$Journal" (3 : Nat) ({ cls := "java/lang/Object", name := "<init>", desc := "()V" } : Jvm.MethodName)) ∈ TB := inTB1 124 (by decide +kernel) (by decide +kernel)
theorem tb1_125 : (Jvm.Cond.fieldLink "StageCycles$Journal" (9 : Nat) "StageCycles$Journal" "words" "[I") ∈ TB := inTB1 125 (by decide +kernel) (by decide +kernel)
theorem tb1_126 : (Jvm.Cond.fieldLink "StageCycles$Journal" (15 : Nat) "StageCycles$Journal" "cycles" "[I") ∈ TB := inTB1 126 (by decide +kernel) (by decide +kernel)
theorem tb1_127 : (Jvm.Cond.fieldLink "StageCycles$Journal" (18 : Nat) "StageCycles$Journal" "values" "[I") ∈ TB := inTB1 127 (by decide +kernel) (by decide +kernel)
theorem tb1_128 : (Jvm.Cond.fieldLink "StageCycles$Journal" (21 : Nat) "StageCycles$Journal" "oldest" "I") ∈ TB := inTB1 128 (by decide +kernel) (by decide +kernel)
theorem tb1_129 : (Jvm.Cond.fieldLink "StageCycles$Journal" (25 : Nat) "StageCycles$Journal" "kept" "I") ∈ TB := inTB1 129 (by decide +kernel) (by decide +kernel)
theorem tb1_141 : (Jvm.Cond.classLink "StageCycles$Line" (25 : Nat) "StageCycles$Tally") ∈ TB := inTB1 141 (by decide +kernel) (by decide +kernel)
theorem tb1_142 : (Jvm.Cond.instantiable "StageCycles$Tally" (8 : Nat)) ∈ TB := inTB1 142 (by decide +kernel) (by decide +kernel)
theorem tb1_144 : (Jvm.Cond.instanceMethod ({ cls := "StageCycles$Tally", name := "<init>", desc := "()V" } : Jvm.MethodName)) ∈ TB := inTB1 144 (by decide +kernel) (by decide +kernel)
theorem tb1_145 : (Jvm.Cond.code ({ cls := "StageCycles$Tally", name := "<init>", desc := "()V" } : Jvm.MethodName) prog_8_method_1_code (1 : Nat) (Option.none : Option Jvm.ClassFile.FieldType)) ∈ TB := inTB1 145 (by decide +kernel) (by decide +kernel)
theorem tb1_146 : (Jvm.Cond.methodLink "StageCycles$Tally" (3 : Nat) ({ cls := "java/lang/Object", name := "<init>", desc := "()V" } : Jvm.MethodName)) ∈ TB := inTB1 146 (by decide +kernel) (by decide +kernel)
theorem tb1_147 : (Jvm.Cond.fieldLink "StageCycles$Tally" (9 : Nat) "StageCycles$Tally" "causes" "[I") ∈ TB := inTB1 147 (by decide +kernel) (by decide +kernel)
theorem tb1_148 : (Jvm.Cond.fieldLink "StageCycles$Tally" (21 : Nat) "StageCycles$Tally" "cycles" "I") ∈ TB := inTB1 148 (by decide +kernel) (by decide +kernel)
theorem tb1_149 : (Jvm.Cond.fieldLink "StageCycles" (51 : Nat) "StageCycles$Tally" "cycles" "I") ∈ TB := inTB1 149 (by decide +kernel) (by decide +kernel)
theorem tb1_150 : (Jvm.Cond.fieldLink "StageCycles$Line" (78 : Nat) "StageCycles$Tally" "cycles" "I") ∈ TB := inTB1 150 (by decide +kernel) (by decide +kernel)
theorem tb1_151 : (Jvm.Cond.fieldLink "StageCycles$Tally" (25 : Nat) "StageCycles$Tally" "commits" "I") ∈ TB := inTB1 151 (by decide +kernel) (by decide +kernel)
theorem tb1_152 : (Jvm.Cond.fieldLink "StageCycles$Line" (141 : Nat) "StageCycles$Tally" "commits" "I") ∈ TB := inTB1 152 (by decide +kernel) (by decide +kernel)
theorem tb1_153 : (Jvm.Cond.fieldLink "StageCycles" (154 : Nat) "StageCycles$Tally" "commits" "I") ∈ TB := inTB1 153 (by decide +kernel) (by decide +kernel)
theorem tb1_154 : (Jvm.Cond.fieldLink "StageCycles$Tally" (28 : Nat) "StageCycles$Tally" "fetched" "I") ∈ TB := inTB1 154 (by decide +kernel) (by decide +kernel)
theorem tb1_155 : (Jvm.Cond.fieldLink "StageCycles" (157 : Nat) "StageCycles$Tally" "fetched" "I") ∈ TB := inTB1 155 (by decide +kernel) (by decide +kernel)
theorem tb1_156 : (Jvm.Cond.fieldLink "StageCycles$Line" (203 : Nat) "StageCycles$Tally" "fetched" "I") ∈ TB := inTB1 156 (by decide +kernel) (by decide +kernel)
theorem tb1_157 : (Jvm.Cond.fieldLink "StageCycles$Tally" (31 : Nat) "StageCycles$Tally" "squashed" "I") ∈ TB := inTB1 157 (by decide +kernel) (by decide +kernel)
theorem tb1_158 : (Jvm.Cond.fieldLink "StageCycles$Line" (154 : Nat) "StageCycles$Tally" "squashed" "I") ∈ TB := inTB1 158 (by decide +kernel) (by decide +kernel)
theorem tb1_159 : (Jvm.Cond.fieldLink "StageCycles" (160 : Nat) "StageCycles$Tally" "squashed" "I") ∈ TB := inTB1 159 (by decide +kernel) (by decide +kernel)
theorem tb1_160 : (Jvm.Cond.fieldLink "StageCycles$Tally" (34 : Nat) "StageCycles$Tally" "faults" "I") ∈ TB := inTB1 160 (by decide +kernel) (by decide +kernel)
theorem tb1_161 : (Jvm.Cond.fieldLink "StageCycles$Line" (119 : Nat) "StageCycles$Tally" "faults" "I") ∈ TB := inTB1 161 (by decide +kernel) (by decide +kernel)
theorem tb1_162 : (Jvm.Cond.fieldLink "StageCycles" (163 : Nat) "StageCycles$Tally" "faults" "I") ∈ TB := inTB1 162 (by decide +kernel) (by decide +kernel)
theorem tb1_163 : (Jvm.Cond.fieldLink "StageCycles$Tally" (37 : Nat) "StageCycles$Tally" "went" "I") ∈ TB := inTB1 163 (by decide +kernel) (by decide +kernel)
theorem tb1_164 : (Jvm.Cond.fieldLink "StageCycles$Line" (148 : Nat) "StageCycles$Tally" "went" "I") ∈ TB := inTB1 164 (by decide +kernel) (by decide +kernel)
theorem tb1_165 : (Jvm.Cond.fieldLink "StageCycles" (181 : Nat) "StageCycles$Tally" "went" "I") ∈ TB := inTB1 165 (by decide +kernel) (by decide +kernel)
theorem tb1_166 : (Jvm.Cond.fieldLink "StageCycles$Tally" (40 : Nat) "StageCycles$Tally" "stopped" "Z") ∈ TB := inTB1 166 (by decide +kernel) (by decide +kernel)
theorem tb1_167 : (Jvm.Cond.fieldLink "StageCycles$Line" (85 : Nat) "StageCycles$Tally" "stopped" "Z") ∈ TB := inTB1 167 (by decide +kernel) (by decide +kernel)
theorem tb1_168 : (Jvm.Cond.fieldLink "StageCycles" (94 : Nat) "StageCycles$Tally" "stopped" "Z") ∈ TB := inTB1 168 (by decide +kernel) (by decide +kernel)
theorem tb1_186 : (Jvm.Cond.classLink "StageCycles$Line" (44 : Nat) "StageCycles$PlainRun") ∈ TB := inTB1 186 (by decide +kernel) (by decide +kernel)
theorem tb1_187 : (Jvm.Cond.instantiable "StageCycles$PlainRun" (3 : Nat)) ∈ TB := inTB1 187 (by decide +kernel) (by decide +kernel)
theorem tb1_188 : (Jvm.Cond.methodLink "StageCycles$Line" (46 : Nat) ({ cls := "StageCycles$PlainRun", name := "<init>", desc := "(LStageCycles$Program;)V" } : Jvm.MethodName)) ∈ TB := inTB1 188 (by decide +kernel) (by decide +kernel)
theorem tb1_189 : (Jvm.Cond.instanceMethod ({ cls := "StageCycles$PlainRun", name := "<init>", desc := "(LStageCycles$Program;)V" } : Jvm.MethodName)) ∈ TB := inTB1 189 (by decide +kernel) (by decide +kernel)
theorem tb1_190 : (Jvm.Cond.code ({ cls := "StageCycles$PlainRun", name := "<init>", desc := "(LStageCycles$Program;)V" } : Jvm.MethodName) prog_4_method_1_code (2 : Nat) (Option.none : Option Jvm.ClassFile.FieldType)) ∈ TB := inTB1 190 (by decide +kernel) (by decide +kernel)
theorem tb1_191 : (Jvm.Cond.methodLink "StageCycles$PlainRun" (3 : Nat) ({ cls := "java/lang/Object", name := "<init>", desc := "()V" } : Jvm.MethodName)) ∈ TB := inTB1 191 (by decide +kernel) (by decide +kernel)
theorem tb1_192 : (Jvm.Cond.fieldLink "StageCycles$PlainRun" (18 : Nat) "StageCycles$PlainRun" "program" "LStageCycles$Program;") ∈ TB := inTB1 192 (by decide +kernel) (by decide +kernel)
theorem tb1_193 : (Jvm.Cond.fieldLink "StageCycles$PlainRun" (9 : Nat) "StageCycles$PlainRun" "registers" "[I") ∈ TB := inTB1 193 (by decide +kernel) (by decide +kernel)
theorem tb1_194 : (Jvm.Cond.fieldLink "StageCycles$PlainRun" (15 : Nat) "StageCycles$PlainRun" "places" "[I") ∈ TB := inTB1 194 (by decide +kernel) (by decide +kernel)
theorem tb1_202 : (Jvm.Cond.fieldLink "StageCycles$Line" (36 : Nat) "StageCycles$Line" "shape" "LStageCycles$Shape;") ∈ TB := inTB1 202 (by decide +kernel) (by decide +kernel)
theorem tb1_203 : (Jvm.Cond.fieldLink "StageCycles$Line" (40 : Nat) "StageCycles$Line" "program" "LStageCycles$Program;") ∈ TB := inTB1 203 (by decide +kernel) (by decide +kernel)
theorem tb1_204 : (Jvm.Cond.fieldLink "StageCycles$Line" (12 : Nat) "StageCycles$Line" "slots" "LStageCycles$Slots;") ∈ TB := inTB1 204 (by decide +kernel) (by decide +kernel)
theorem tb1_205 : (Jvm.Cond.fieldLink "StageCycles" (108 : Nat) "StageCycles$Line" "slots" "LStageCycles$Slots;") ∈ TB := inTB1 205 (by decide +kernel) (by decide +kernel)
theorem tb1_206 : (Jvm.Cond.fieldLink "StageCycles$Line" (21 : Nat) "StageCycles$Line" "journal" "LStageCycles$Journal;") ∈ TB := inTB1 206 (by decide +kernel) (by decide +kernel)
theorem tb1_207 : (Jvm.Cond.fieldLink "StageCycles" (122 : Nat) "StageCycles$Line" "journal" "LStageCycles$Journal;") ∈ TB := inTB1 207 (by decide +kernel) (by decide +kernel)
theorem tb1_208 : (Jvm.Cond.fieldLink "StageCycles$Line" (28 : Nat) "StageCycles$Line" "tally" "LStageCycles$Tally;") ∈ TB := inTB1 208 (by decide +kernel) (by decide +kernel)
theorem tb1_209 : (Jvm.Cond.fieldLink "StageCycles" (47 : Nat) "StageCycles$Line" "tally" "LStageCycles$Tally;") ∈ TB := inTB1 209 (by decide +kernel) (by decide +kernel)
theorem tb1_210 : (Jvm.Cond.fieldLink "StageCycles$Line" (49 : Nat) "StageCycles$Line" "ahead" "LStageCycles$PlainRun;") ∈ TB := inTB1 210 (by decide +kernel) (by decide +kernel)
theorem tb1_211 : (Jvm.Cond.fieldLink "StageCycles$Line" (53 : Nat) "StageCycles$Line" "left" "LStageCycles$PlainRun;") ∈ TB := inTB1 211 (by decide +kernel) (by decide +kernel)
theorem tb1_212 : (Jvm.Cond.fieldLink "StageCycles" (135 : Nat) "StageCycles$Line" "left" "LStageCycles$PlainRun;") ∈ TB := inTB1 212 (by decide +kernel) (by decide +kernel)
theorem tb1_213 : (Jvm.Cond.fieldLink "StageCycles$Line" (32 : Nat) "StageCycles$Line" "forward" "Z") ∈ TB := inTB1 213 (by decide +kernel) (by decide +kernel)
theorem tb1_214 : (Jvm.Cond.fieldLink "StageCycles" (77 : Nat) "StageCycles$Line" "forward" "Z") ∈ TB := inTB1 214 (by decide +kernel) (by decide +kernel)
theorem tb1_215 : (Jvm.Cond.fieldLink "StageCycles" (81 : Nat) "StageCycles$Line" "handler" "I") ∈ TB := inTB1 215 (by decide +kernel) (by decide +kernel)
theorem tb1_216 : (Jvm.Cond.fieldLink "StageCycles$Line" (122 : Nat) "StageCycles$Line" "handler" "I") ∈ TB := inTB1 216 (by decide +kernel) (by decide +kernel)
theorem tb1_217 : (Jvm.Cond.fieldLink "StageCycles$Line" (62 : Nat) "StageCycles$Line" "next" "I") ∈ TB := inTB1 217 (by decide +kernel) (by decide +kernel)
theorem tb1_218 : (Jvm.Cond.fieldLink "StageCycles$Line" (66 : Nat) "StageCycles$Line" "astray" "Z") ∈ TB := inTB1 218 (by decide +kernel) (by decide +kernel)
theorem tb1_219 : (Jvm.Cond.fieldLink "StageCycles$Line" (69 : Nat) "StageCycles$Line" "stopFetched" "Z") ∈ TB := inTB1 219 (by decide +kernel) (by decide +kernel)
theorem tb1_220 : (Jvm.Cond.fieldLink "StageCycles$Line" (72 : Nat) "StageCycles$Line" "redirected" "Z") ∈ TB := inTB1 220 (by decide +kernel) (by decide +kernel)
theorem tb1_221 : (Jvm.Cond.fieldLink "StageCycles$Line" (75 : Nat) "StageCycles$Line" "worked" "I") ∈ TB := inTB1 221 (by decide +kernel) (by decide +kernel)
theorem tb2_11 : (Jvm.Cond.fieldLink "StageCycles" (12 : Nat) "StageCycles" "shape" "LStageCycles$Shape;") ∈ TB := inTB2 11 (by decide +kernel) (by decide +kernel)
theorem tb2_12 : (Jvm.Cond.fieldLink "StageCycles" (21 : Nat) "StageCycles" "program" "LStageCycles$Program;") ∈ TB := inTB2 12 (by decide +kernel) (by decide +kernel)
theorem tb2_13 : (Jvm.Cond.fieldLink "StageCycles" (30 : Nat) "StageCycles" "line" "LStageCycles$Line;") ∈ TB := inTB2 13 (by decide +kernel) (by decide +kernel)
theorem tb2_21 : (Jvm.Cond.methodLink "StageCyclesLaw" (69 : Nat) ({ cls := "StageCycles", name := "clear", desc := "()I" } : Jvm.MethodName)) ∈ TB := inTB2 21 (by decide +kernel) (by decide +kernel)
theorem tb2_22 : (Jvm.Cond.instanceMethod ({ cls := "StageCycles", name := "clear", desc := "()I" } : Jvm.MethodName)) ∈ TB := inTB2 22 (by decide +kernel) (by decide +kernel)
theorem tb2_23 : (Jvm.Cond.selects "StageCycles" ({ cls := "StageCycles", name := "clear", desc := "()I" } : Jvm.MethodName) ({ cls := "StageCycles", name := "clear", desc := "()I" } : Jvm.MethodName)) ∈ TB := inTB2 23 (by decide +kernel) (by decide +kernel)
theorem tb2_24 : (Jvm.Cond.code ({ cls := "StageCycles", name := "clear", desc := "()I" } : Jvm.MethodName) prog_1_method_4_code (2 : Nat) (Option.some Jvm.ClassFile.FieldType.int)) ∈ TB := inTB2 24 (by decide +kernel) (by decide +kernel)
theorem tb2_25 : (Jvm.Cond.methodLink "StageCycles" (84 : Nat) ({ cls := "StageCycles$Program", name := "forget", desc := "()V" } : Jvm.MethodName)) ∈ TB := inTB2 25 (by decide +kernel) (by decide +kernel)
theorem tb2_26 : (Jvm.Cond.instanceMethod ({ cls := "StageCycles$Program", name := "forget", desc := "()V" } : Jvm.MethodName)) ∈ TB := inTB2 26 (by decide +kernel) (by decide +kernel)
theorem tb2_27 : (Jvm.Cond.selects "StageCycles$Program" ({ cls := "StageCycles$Program", name := "forget", desc := "()V" } : Jvm.MethodName) ({ cls := "StageCycles$Program", name := "forget", desc := "()V" } : Jvm.MethodName)) ∈ TB := inTB2 27 (by decide +kernel) (by decide +kernel)
theorem tb2_28 : (Jvm.Cond.code ({ cls := "StageCycles$Program", name := "forget", desc := "()V" } : Jvm.MethodName) prog_5_method_6_code (1 : Nat) (Option.none : Option Jvm.ClassFile.FieldType)) ∈ TB := inTB2 28 (by decide +kernel) (by decide +kernel)
theorem tb2_29 : (Jvm.Cond.methodLink "StageCycles" (87 : Nat) ({ cls := "StageCycles$Line", name := "beginAnew", desc := "()V" } : Jvm.MethodName)) ∈ TB := inTB2 29 (by decide +kernel) (by decide +kernel)
theorem tb2_30 : (Jvm.Cond.instanceMethod ({ cls := "StageCycles$Line", name := "beginAnew", desc := "()V" } : Jvm.MethodName)) ∈ TB := inTB2 30 (by decide +kernel) (by decide +kernel)
theorem tb2_31 : (Jvm.Cond.selects "StageCycles$Line" ({ cls := "StageCycles$Line", name := "beginAnew", desc := "()V" } : Jvm.MethodName) ({ cls := "StageCycles$Line", name := "beginAnew", desc := "()V" } : Jvm.MethodName)) ∈ TB := inTB2 31 (by decide +kernel) (by decide +kernel)
theorem tb2_32 : (Jvm.Cond.code ({ cls := "StageCycles$Line", name := "beginAnew", desc := "()V" } : Jvm.MethodName) prog_3_method_2_code (1 : Nat) (Option.none : Option Jvm.ClassFile.FieldType)) ∈ TB := inTB2 32 (by decide +kernel) (by decide +kernel)
theorem tb2_33 : (Jvm.Cond.methodLink "StageCycles$Line" (56 : Nat) ({ cls := "StageCycles$Slots", name := "beginAnew", desc := "()V" } : Jvm.MethodName)) ∈ TB := inTB2 33 (by decide +kernel) (by decide +kernel)
theorem tb2_34 : (Jvm.Cond.instanceMethod ({ cls := "StageCycles$Slots", name := "beginAnew", desc := "()V" } : Jvm.MethodName)) ∈ TB := inTB2 34 (by decide +kernel) (by decide +kernel)
theorem tb2_35 : (Jvm.Cond.selects "StageCycles$Slots" ({ cls := "StageCycles$Slots", name := "beginAnew", desc := "()V" } : Jvm.MethodName) ({ cls := "StageCycles$Slots", name := "beginAnew", desc := "()V" } : Jvm.MethodName)) ∈ TB := inTB2 35 (by decide +kernel) (by decide +kernel)
theorem tb2_36 : (Jvm.Cond.code ({ cls := "StageCycles$Slots", name := "beginAnew", desc := "()V" } : Jvm.MethodName) prog_7_method_9_code (1 : Nat) (Option.none : Option Jvm.ClassFile.FieldType)) ∈ TB := inTB2 36 (by decide +kernel) (by decide +kernel)
theorem tb2_37 : (Jvm.Cond.methodLink "StageCycles$Slots" (47 : Nat) ({ cls := "StageCycles$Slots", name := "squashBelow", desc := "(I)I" } : Jvm.MethodName)) ∈ TB := inTB2 37 (by decide +kernel) (by decide +kernel)
theorem tb2_38 : (Jvm.Cond.instanceMethod ({ cls := "StageCycles$Slots", name := "squashBelow", desc := "(I)I" } : Jvm.MethodName)) ∈ TB := inTB2 38 (by decide +kernel) (by decide +kernel)
theorem tb2_39 : (Jvm.Cond.selects "StageCycles$Slots" ({ cls := "StageCycles$Slots", name := "squashBelow", desc := "(I)I" } : Jvm.MethodName) ({ cls := "StageCycles$Slots", name := "squashBelow", desc := "(I)I" } : Jvm.MethodName)) ∈ TB := inTB2 39 (by decide +kernel) (by decide +kernel)
theorem tb2_40 : (Jvm.Cond.code ({ cls := "StageCycles$Slots", name := "squashBelow", desc := "(I)I" } : Jvm.MethodName) prog_7_method_8_code (4 : Nat) (Option.some Jvm.ClassFile.FieldType.int)) ∈ TB := inTB2 40 (by decide +kernel) (by decide +kernel)
theorem tb2_41 : (Jvm.Cond.methodLink "StageCycles$Slots" (28 : Nat) ({ cls := "StageCycles$Slots", name := "put", desc := "(IIZZ)V" } : Jvm.MethodName)) ∈ TB := inTB2 41 (by decide +kernel) (by decide +kernel)
theorem tb2_42 : (Jvm.Cond.instanceMethod ({ cls := "StageCycles$Slots", name := "put", desc := "(IIZZ)V" } : Jvm.MethodName)) ∈ TB := inTB2 42 (by decide +kernel) (by decide +kernel)
theorem tb2_43 : (Jvm.Cond.selects "StageCycles$Slots" ({ cls := "StageCycles$Slots", name := "put", desc := "(IIZZ)V" } : Jvm.MethodName) ({ cls := "StageCycles$Slots", name := "put", desc := "(IIZZ)V" } : Jvm.MethodName)) ∈ TB := inTB2 43 (by decide +kernel) (by decide +kernel)
theorem tb2_44 : (Jvm.Cond.code ({ cls := "StageCycles$Slots", name := "put", desc := "(IIZZ)V" } : Jvm.MethodName) prog_7_method_5_code (5 : Nat) (Option.none : Option Jvm.ClassFile.FieldType)) ∈ TB := inTB2 44 (by decide +kernel) (by decide +kernel)
theorem tb2_45 : (Jvm.Cond.methodLink "StageCycles$Line" (59 : Nat) ({ cls := "StageCycles$Journal", name := "beginAnew", desc := "()V" } : Jvm.MethodName)) ∈ TB := inTB2 45 (by decide +kernel) (by decide +kernel)
theorem tb2_46 : (Jvm.Cond.instanceMethod ({ cls := "StageCycles$Journal", name := "beginAnew", desc := "()V" } : Jvm.MethodName)) ∈ TB := inTB2 46 (by decide +kernel) (by decide +kernel)
theorem tb2_47 : (Jvm.Cond.selects "StageCycles$Journal" ({ cls := "StageCycles$Journal", name := "beginAnew", desc := "()V" } : Jvm.MethodName) ({ cls := "StageCycles$Journal", name := "beginAnew", desc := "()V" } : Jvm.MethodName)) ∈ TB := inTB2 47 (by decide +kernel) (by decide +kernel)
theorem tb2_48 : (Jvm.Cond.code ({ cls := "StageCycles$Journal", name := "beginAnew", desc := "()V" } : Jvm.MethodName) prog_2_method_2_code (1 : Nat) (Option.none : Option Jvm.ClassFile.FieldType)) ∈ TB := inTB2 48 (by decide +kernel) (by decide +kernel)
theorem tb2_49 : (Jvm.Cond.methodLink "StageCycles$Line" (60 : Nat) ({ cls := "StageCycles$Tally", name := "beginAnew", desc := "()V" } : Jvm.MethodName)) ∈ TB := inTB2 49 (by decide +kernel) (by decide +kernel)
theorem tb2_50 : (Jvm.Cond.instanceMethod ({ cls := "StageCycles$Tally", name := "beginAnew", desc := "()V" } : Jvm.MethodName)) ∈ TB := inTB2 50 (by decide +kernel) (by decide +kernel)
theorem tb2_51 : (Jvm.Cond.selects "StageCycles$Tally" ({ cls := "StageCycles$Tally", name := "beginAnew", desc := "()V" } : Jvm.MethodName) ({ cls := "StageCycles$Tally", name := "beginAnew", desc := "()V" } : Jvm.MethodName)) ∈ TB := inTB2 51 (by decide +kernel) (by decide +kernel)
theorem tb2_52 : (Jvm.Cond.code ({ cls := "StageCycles$Tally", name := "beginAnew", desc := "()V" } : Jvm.MethodName) prog_8_method_2_code (1 : Nat) (Option.none : Option Jvm.ClassFile.FieldType)) ∈ TB := inTB2 52 (by decide +kernel) (by decide +kernel)
theorem tb2_53 : (Jvm.Cond.methodLink "StageCycles$Tally" (15 : Nat) ({ cls := "java/util/Arrays", name := "fill", desc := "([II)V" } : Jvm.MethodName)) ∈ TB := inTB2 53 (by decide +kernel) (by decide +kernel)
theorem tb2_54 : (Jvm.Cond.methodLink "StageCycles$Line" (61 : Nat) ({ cls := "StageCycles$PlainRun", name := "beginAnew", desc := "()V" } : Jvm.MethodName)) ∈ TB := inTB2 54 (by decide +kernel) (by decide +kernel)
theorem tb2_55 : (Jvm.Cond.instanceMethod ({ cls := "StageCycles$PlainRun", name := "beginAnew", desc := "()V" } : Jvm.MethodName)) ∈ TB := inTB2 55 (by decide +kernel) (by decide +kernel)
theorem tb2_56 : (Jvm.Cond.selects "StageCycles$PlainRun" ({ cls := "StageCycles$PlainRun", name := "beginAnew", desc := "()V" } : Jvm.MethodName) ({ cls := "StageCycles$PlainRun", name := "beginAnew", desc := "()V" } : Jvm.MethodName)) ∈ TB := inTB2 56 (by decide +kernel) (by decide +kernel)
theorem tb2_57 : (Jvm.Cond.code ({ cls := "StageCycles$PlainRun", name := "beginAnew", desc := "()V" } : Jvm.MethodName) prog_4_method_2_code (1 : Nat) (Option.none : Option Jvm.ClassFile.FieldType)) ∈ TB := inTB2 57 (by decide +kernel) (by decide +kernel)
theorem tb2_58 : (Jvm.Cond.methodLink "StageCycles$PlainRun" (22 : Nat) ({ cls := "java/util/Arrays", name := "fill", desc := "([II)V" } : Jvm.MethodName)) ∈ TB := inTB2 58 (by decide +kernel) (by decide +kernel)
theorem tb2_59 : (Jvm.Cond.methodLink "StageCyclesLaw" (93 : Nat) ({ cls := "StageCycles", name := "count", desc := "(I)I" } : Jvm.MethodName)) ∈ TB := inTB2 59 (by decide +kernel) (by decide +kernel)
theorem tb2_60 : (Jvm.Cond.instanceMethod ({ cls := "StageCycles", name := "count", desc := "(I)I" } : Jvm.MethodName)) ∈ TB := inTB2 60 (by decide +kernel) (by decide +kernel)
theorem tb2_61 : (Jvm.Cond.selects "StageCycles" ({ cls := "StageCycles", name := "count", desc := "(I)I" } : Jvm.MethodName) ({ cls := "StageCycles", name := "count", desc := "(I)I" } : Jvm.MethodName)) ∈ TB := inTB2 61 (by decide +kernel) (by decide +kernel)
theorem tb2_62 : (Jvm.Cond.code ({ cls := "StageCycles", name := "count", desc := "(I)I" } : Jvm.MethodName) prog_1_method_11_code (2 : Nat) (Option.some Jvm.ClassFile.FieldType.int)) ∈ TB := inTB2 62 (by decide +kernel) (by decide +kernel)
theorem tb2_63 : (Jvm.Cond.methodLink "StageCycles" (62 : Nat) ({ cls := "StageCycles$Program", name := "size", desc := "()I" } : Jvm.MethodName)) ∈ TB := inTB2 63 (by decide +kernel) (by decide +kernel)
theorem tb2_64 : (Jvm.Cond.instanceMethod ({ cls := "StageCycles$Program", name := "size", desc := "()I" } : Jvm.MethodName)) ∈ TB := inTB2 64 (by decide +kernel) (by decide +kernel)
theorem tb2_65 : (Jvm.Cond.selects "StageCycles$Program" ({ cls := "StageCycles$Program", name := "size", desc := "()I" } : Jvm.MethodName) ({ cls := "StageCycles$Program", name := "size", desc := "()I" } : Jvm.MethodName)) ∈ TB := inTB2 65 (by decide +kernel) (by decide +kernel)
theorem tb2_66 : (Jvm.Cond.code ({ cls := "StageCycles$Program", name := "size", desc := "()I" } : Jvm.MethodName) prog_5_method_7_code (1 : Nat) (Option.some Jvm.ClassFile.FieldType.int)) ∈ TB := inTB2 66 (by decide +kernel) (by decide +kernel)
theorem tb2_67 : (Jvm.Cond.methodLink "StageCyclesLaw" (45 : Nat) ({ cls := "StageCyclesLaw", name := "cell", desc := "([II)I" } : Jvm.MethodName)) ∈ TB := inTB2 67 (by decide +kernel) (by decide +kernel)
theorem tb2_68 : (Jvm.Cond.static ({ cls := "StageCyclesLaw", name := "cell", desc := "([II)I" } : Jvm.MethodName)) ∈ TB := inTB2 68 (by decide +kernel) (by decide +kernel)
theorem tb2_69 : (Jvm.Cond.code ({ cls := "StageCyclesLaw", name := "cell", desc := "([II)I" } : Jvm.MethodName) method_2_code (2 : Nat) (Option.some Jvm.ClassFile.FieldType.int)) ∈ TB := inTB2 69 (by decide +kernel) (by decide +kernel)
theorem tb2_70 : (Jvm.Cond.methodLink "StageCyclesLaw" (57 : Nat) ({ cls := "StageCyclesLaw", name := "word", desc := "(LStageCycles;IIIII[J)I" } : Jvm.MethodName)) ∈ TB := inTB2 70 (by decide +kernel) (by decide +kernel)
theorem tb2_71 : (Jvm.Cond.static ({ cls := "StageCyclesLaw", name := "word", desc := "(LStageCycles;IIIII[J)I" } : Jvm.MethodName)) ∈ TB := inTB2 71 (by decide +kernel) (by decide +kernel)
theorem tb2_72 : (Jvm.Cond.codeWith ({ cls := "StageCyclesLaw", name := "word", desc := "(LStageCycles;IIIII[J)I" } : Jvm.MethodName) method_3_code (8 : Nat) (Option.some Jvm.ClassFile.FieldType.int) [((0 : Nat), (16 : Nat), (19 : Nat), (13 : Nat)), ((0 : Nat), (16 : Nat), (23 : Nat), (15 : Nat)), ((0 : Nat), (16 : Nat), (27 : Nat), (17 : Nat))]) ∈ TB := inTB2 72 (by decide +kernel) (by decide +kernel)
theorem tb2_73 : (Jvm.Cond.classLink "StageCyclesLaw" (13 : Nat) "java/lang/IllegalArgumentException") ∈ TB := inTB2 73 (by decide +kernel) (by decide +kernel)
theorem tb2_74 : (Jvm.Cond.classLink "StageCyclesLaw" (15 : Nat) "java/lang/IllegalStateException") ∈ TB := inTB2 74 (by decide +kernel) (by decide +kernel)
theorem tb2_75 : (Jvm.Cond.classLink "StageCyclesLaw" (17 : Nat) "java/lang/UnsupportedOperationException") ∈ TB := inTB2 75 (by decide +kernel) (by decide +kernel)
theorem tb2_76 : (Jvm.Cond.methodLink "StageCyclesLaw" (7 : Nat) ({ cls := "StageCycles", name := "word", desc := "(IIIII)I" } : Jvm.MethodName)) ∈ TB := inTB2 76 (by decide +kernel) (by decide +kernel)
theorem tb2_77 : (Jvm.Cond.instanceMethod ({ cls := "StageCycles", name := "word", desc := "(IIIII)I" } : Jvm.MethodName)) ∈ TB := inTB2 77 (by decide +kernel) (by decide +kernel)
theorem tb2_78 : (Jvm.Cond.selects "StageCycles" ({ cls := "StageCycles", name := "word", desc := "(IIIII)I" } : Jvm.MethodName) ({ cls := "StageCycles", name := "word", desc := "(IIIII)I" } : Jvm.MethodName)) ∈ TB := inTB2 78 (by decide +kernel) (by decide +kernel)
theorem tb2_79 : (Jvm.Cond.code ({ cls := "StageCycles", name := "word", desc := "(IIIII)I" } : Jvm.MethodName) prog_1_method_2_code (6 : Nat) (Option.some Jvm.ClassFile.FieldType.int)) ∈ TB := inTB2 79 (by decide +kernel) (by decide +kernel)
theorem tb2_80 : (Jvm.Cond.methodLink "StageCycles" (34 : Nat) ({ cls := "StageCycles", name := "isBelow", desc := "(II)Z" } : Jvm.MethodName)) ∈ TB := inTB2 80 (by decide +kernel) (by decide +kernel)
theorem tb2_81 : (Jvm.Cond.static ({ cls := "StageCycles", name := "isBelow", desc := "(II)Z" } : Jvm.MethodName)) ∈ TB := inTB2 81 (by decide +kernel) (by decide +kernel)
theorem tb2_82 : (Jvm.Cond.code ({ cls := "StageCycles", name := "isBelow", desc := "(II)Z" } : Jvm.MethodName) prog_1_method_12_code (2 : Nat) (Option.some Jvm.ClassFile.FieldType.boolean)) ∈ TB := inTB2 82 (by decide +kernel) (by decide +kernel)
theorem tb2_83 : (Jvm.Cond.classLink "StageCycles" (38 : Nat) "java/lang/IllegalArgumentException") ∈ TB := inTB2 83 (by decide +kernel) (by decide +kernel)
theorem tb2_84 : (Jvm.Cond.instantiable "java/lang/IllegalArgumentException" (6 : Nat)) ∈ TB := inTB2 84 (by decide +kernel) (by decide +kernel)
theorem tb2_92 : (Jvm.Cond.selects "java/lang/IllegalArgumentException" ({ cls := "java/lang/Throwable", name := "fillInStackTrace", desc := "(I)Ljava/lang/Throwable;" } : Jvm.MethodName) ({ cls := "java/lang/Throwable", name := "fillInStackTrace", desc := "(I)Ljava/lang/Throwable;" } : Jvm.MethodName)) ∈ TB := inTB2 92 (by decide +kernel) (by decide +kernel)
theorem tb2_93 : (Jvm.Cond.selects "java/lang/IllegalArgumentException" ({ cls := "java/lang/Throwable", name := "fillInStackTrace", desc := "()Ljava/lang/Throwable;" } : Jvm.MethodName) ({ cls := "java/lang/Throwable", name := "fillInStackTrace", desc := "()Ljava/lang/Throwable;" } : Jvm.MethodName)) ∈ TB := inTB2 93 (by decide +kernel) (by decide +kernel)
theorem tb2_104 : (Jvm.Cond.fieldLink "java/lang/Throwable" (198 : Nat) "java/lang/Throwable" "backtrace" "Ljava/lang/Object;") ∈ TB := inTB2 104 (by decide +kernel) (by decide +kernel)
theorem tb2_106 : (Jvm.Cond.instanceMethod ({ cls := "java/lang/Throwable", name := "<init>", desc := "()V" } : Jvm.MethodName)) ∈ TB := inTB2 106 (by decide +kernel) (by decide +kernel)
theorem tb2_107 : (Jvm.Cond.code ({ cls := "java/lang/Throwable", name := "<init>", desc := "()V" } : Jvm.MethodName) prog_18_method_1_code (1 : Nat) (Option.none : Option Jvm.ClassFile.FieldType)) ∈ TB := inTB2 107 (by decide +kernel) (by decide +kernel)
theorem tb2_108 : (Jvm.Cond.methodLink "java/lang/Throwable" (1 : Nat) ({ cls := "java/lang/Object", name := "<init>", desc := "()V" } : Jvm.MethodName)) ∈ TB := inTB2 108 (by decide +kernel) (by decide +kernel)
theorem tb2_109 : (Jvm.Cond.fieldLink "java/lang/Throwable" (13 : Nat) "java/lang/Throwable" "UNASSIGNED_STACK" "[Ljava/lang/StackTraceElement;") ∈ TB := inTB2 109 (by decide +kernel) (by decide +kernel)
theorem tb2_111 : (Jvm.Cond.fieldLink "java/lang/Throwable" (20 : Nat) "java/lang/Throwable" "SUPPRESSED_SENTINEL" "Ljava/util/List;") ∈ TB := inTB2 111 (by decide +kernel) (by decide +kernel)
theorem tb2_113 : (Jvm.Cond.methodLink "java/lang/Throwable" (27 : Nat) ({ cls := "java/lang/Throwable", name := "fillInStackTrace", desc := "()Ljava/lang/Throwable;" } : Jvm.MethodName)) ∈ TB := inTB2 113 (by decide +kernel) (by decide +kernel)
theorem tb2_114 : (Jvm.Cond.instanceMethod ({ cls := "java/lang/Throwable", name := "fillInStackTrace", desc := "()Ljava/lang/Throwable;" } : Jvm.MethodName)) ∈ TB := inTB2 114 (by decide +kernel) (by decide +kernel)
theorem tb2_116 : (Jvm.Cond.selects "java/lang/IllegalStateException" ({ cls := "java/lang/Throwable", name := "fillInStackTrace", desc := "()Ljava/lang/Throwable;" } : Jvm.MethodName) ({ cls := "java/lang/Throwable", name := "fillInStackTrace", desc := "()Ljava/lang/Throwable;" } : Jvm.MethodName)) ∈ TB := inTB2 116 (by decide +kernel) (by decide +kernel)
theorem tb2_117 : (Jvm.Cond.selects "java/lang/IndexOutOfBoundsException" ({ cls := "java/lang/Throwable", name := "fillInStackTrace", desc := "()Ljava/lang/Throwable;" } : Jvm.MethodName) ({ cls := "java/lang/Throwable", name := "fillInStackTrace", desc := "()Ljava/lang/Throwable;" } : Jvm.MethodName)) ∈ TB := inTB2 117 (by decide +kernel) (by decide +kernel)
theorem tb2_118 : (Jvm.Cond.selects "java/lang/UnsupportedOperationException" ({ cls := "java/lang/Throwable", name := "fillInStackTrace", desc := "()Ljava/lang/Throwable;" } : Jvm.MethodName) ({ cls := "java/lang/Throwable", name := "fillInStackTrace", desc := "()Ljava/lang/Throwable;" } : Jvm.MethodName)) ∈ TB := inTB2 118 (by decide +kernel) (by decide +kernel)
theorem tb2_120 : (Jvm.Cond.methodLink "java/lang/Throwable" (202 : Nat) ({ cls := "java/lang/Throwable", name := "fillInStackTrace", desc := "(I)Ljava/lang/Throwable;" } : Jvm.MethodName)) ∈ TB := inTB2 120 (by decide +kernel) (by decide +kernel)
theorem tb2_122 : (Jvm.Cond.instanceMethod ({ cls := "java/lang/Throwable", name := "fillInStackTrace", desc := "(I)Ljava/lang/Throwable;" } : Jvm.MethodName)) ∈ TB := inTB2 122 (by decide +kernel) (by decide +kernel)
theorem tb2_123 : (Jvm.Cond.instantiable "java/lang/Throwable" (6 : Nat)) ∈ TB := inTB2 123 (by decide +kernel) (by decide +kernel)
theorem tb2_126 : (Jvm.Cond.methodLink "StageCycles" (42 : Nat) ({ cls := "java/lang/IllegalArgumentException", name := "<init>", desc := "(Ljava/lang/String;)V" } : Jvm.MethodName)) ∈ TB := inTB2 126 (by decide +kernel) (by decide +kernel)
theorem tb2_127 : (Jvm.Cond.instanceMethod ({ cls := "java/lang/IllegalArgumentException", name := "<init>", desc := "(Ljava/lang/String;)V" } : Jvm.MethodName)) ∈ TB := inTB2 127 (by decide +kernel) (by decide +kernel)
theorem tb2_128 : (Jvm.Cond.code ({ cls := "java/lang/IllegalArgumentException", name := "<init>", desc := "(Ljava/lang/String;)V" } : Jvm.MethodName) prog_12_method_2_code (2 : Nat) (Option.none : Option Jvm.ClassFile.FieldType)) ∈ TB := inTB2 128 (by decide +kernel) (by decide +kernel)
theorem tb2_129 : (Jvm.Cond.methodLink "java/lang/IllegalArgumentException" (7 : Nat) ({ cls := "java/lang/RuntimeException", name := "<init>", desc := "(Ljava/lang/String;)V" } : Jvm.MethodName)) ∈ TB := inTB2 129 (by decide +kernel) (by decide +kernel)
theorem tb2_130 : (Jvm.Cond.instanceMethod ({ cls := "java/lang/RuntimeException", name := "<init>", desc := "(Ljava/lang/String;)V" } : Jvm.MethodName)) ∈ TB := inTB2 130 (by decide +kernel) (by decide +kernel)
theorem tb2_131 : (Jvm.Cond.code ({ cls := "java/lang/RuntimeException", name := "<init>", desc := "(Ljava/lang/String;)V" } : Jvm.MethodName) prog_16_method_2_code (2 : Nat) (Option.none : Option Jvm.ClassFile.FieldType)) ∈ TB := inTB2 131 (by decide +kernel) (by decide +kernel)
theorem tb2_132 : (Jvm.Cond.methodLink "java/lang/RuntimeException" (7 : Nat) ({ cls := "java/lang/Exception", name := "<init>", desc := "(Ljava/lang/String;)V" } : Jvm.MethodName)) ∈ TB := inTB2 132 (by decide +kernel) (by decide +kernel)
theorem tb2_133 : (Jvm.Cond.instanceMethod ({ cls := "java/lang/Exception", name := "<init>", desc := "(Ljava/lang/String;)V" } : Jvm.MethodName)) ∈ TB := inTB2 133 (by decide +kernel) (by decide +kernel)
theorem tb2_134 : (Jvm.Cond.code ({ cls := "java/lang/Exception", name := "<init>", desc := "(Ljava/lang/String;)V" } : Jvm.MethodName) prog_11_method_2_code (2 : Nat) (Option.none : Option Jvm.ClassFile.FieldType)) ∈ TB := inTB2 134 (by decide +kernel) (by decide +kernel)
theorem tb2_135 : (Jvm.Cond.methodLink "java/lang/Exception" (7 : Nat) ({ cls := "java/lang/Throwable", name := "<init>", desc := "(Ljava/lang/String;)V" } : Jvm.MethodName)) ∈ TB := inTB2 135 (by decide +kernel) (by decide +kernel)
theorem tb2_136 : (Jvm.Cond.instanceMethod ({ cls := "java/lang/Throwable", name := "<init>", desc := "(Ljava/lang/String;)V" } : Jvm.MethodName)) ∈ TB := inTB2 136 (by decide +kernel) (by decide +kernel)
theorem tb2_137 : (Jvm.Cond.code ({ cls := "java/lang/Throwable", name := "<init>", desc := "(Ljava/lang/String;)V" } : Jvm.MethodName) prog_18_method_2_code (2 : Nat) (Option.none : Option Jvm.ClassFile.FieldType)) ∈ TB := inTB2 137 (by decide +kernel) (by decide +kernel)
theorem tb2_138 : (Jvm.Cond.fieldLink "java/lang/Throwable" (198 : Nat) "java/lang/Throwable" "backtrace" "Ljava/lang/Object;") ∈ TB := inTB2 138 (by decide +kernel) (by decide +kernel)
theorem tb2_139 : (Jvm.Cond.fieldLink "java/lang/Throwable" (31 : Nat) "java/lang/Throwable" "detailMessage" "Ljava/lang/String;") ∈ TB := inTB2 139 (by decide +kernel) (by decide +kernel)
theorem tb2_140 : (Jvm.Cond.fieldLink "java/lang/Throwable" (7 : Nat) "java/lang/Throwable" "cause" "Ljava/lang/Throwable;") ∈ TB := inTB2 140 (by decide +kernel) (by decide +kernel)
theorem tb2_141 : (Jvm.Cond.fieldLink "java/lang/Throwable" (17 : Nat) "java/lang/Throwable" "stackTrace" "[Ljava/lang/StackTraceElement;") ∈ TB := inTB2 141 (by decide +kernel) (by decide +kernel)
theorem tb2_142 : (Jvm.Cond.fieldLink "java/lang/Throwable" (24 : Nat) "java/lang/Throwable" "suppressedExceptions" "Ljava/util/List;") ∈ TB := inTB2 142 (by decide +kernel) (by decide +kernel)
theorem tb2_151 : (Jvm.Cond.arrayClass Jvm.ClassFile.FieldType.byte) ∈ TB := inTB2 151 (by decide +kernel) (by decide +kernel)
theorem tb2_153 : (Jvm.Cond.classLink "StageCycles" (57 : Nat) "java/lang/IllegalStateException") ∈ TB := inTB2 153 (by decide +kernel) (by decide +kernel)
theorem tb2_154 : (Jvm.Cond.instantiable "java/lang/IllegalStateException" (6 : Nat)) ∈ TB := inTB2 154 (by decide +kernel) (by decide +kernel)
theorem tb2_156 : (Jvm.Cond.selects "java/lang/IllegalStateException" ({ cls := "java/lang/Throwable", name := "fillInStackTrace", desc := "(I)Ljava/lang/Throwable;" } : Jvm.MethodName) ({ cls := "java/lang/Throwable", name := "fillInStackTrace", desc := "(I)Ljava/lang/Throwable;" } : Jvm.MethodName)) ∈ TB := inTB2 156 (by decide +kernel) (by decide +kernel)
theorem tb2_163 : (Jvm.Cond.methodLink "StageCycles" (61 : Nat) ({ cls := "java/lang/IllegalStateException", name := "<init>", desc := "(Ljava/lang/String;)V" } : Jvm.MethodName)) ∈ TB := inTB2 163 (by decide +kernel) (by decide +kernel)
theorem tb2_164 : (Jvm.Cond.instanceMethod ({ cls := "java/lang/IllegalStateException", name := "<init>", desc := "(Ljava/lang/String;)V" } : Jvm.MethodName)) ∈ TB := inTB2 164 (by decide +kernel) (by decide +kernel)
theorem tb2_165 : (Jvm.Cond.code ({ cls := "java/lang/IllegalStateException", name := "<init>", desc := "(Ljava/lang/String;)V" } : Jvm.MethodName) prog_13_method_2_code (2 : Nat) (Option.none : Option Jvm.ClassFile.FieldType)) ∈ TB := inTB2 165 (by decide +kernel) (by decide +kernel)
theorem tb2_166 : (Jvm.Cond.methodLink "java/lang/IllegalStateException" (7 : Nat) ({ cls := "java/lang/RuntimeException", name := "<init>", desc := "(Ljava/lang/String;)V" } : Jvm.MethodName)) ∈ TB := inTB2 166 (by decide +kernel) (by decide +kernel)
theorem tb2_169 : (Jvm.Cond.classLink "StageCycles" (66 : Nat) "java/lang/UnsupportedOperationException") ∈ TB := inTB2 169 (by decide +kernel) (by decide +kernel)
theorem tb2_170 : (Jvm.Cond.instantiable "java/lang/UnsupportedOperationException" (6 : Nat)) ∈ TB := inTB2 170 (by decide +kernel) (by decide +kernel)
theorem tb2_172 : (Jvm.Cond.selects "java/lang/UnsupportedOperationException" ({ cls := "java/lang/Throwable", name := "fillInStackTrace", desc := "(I)Ljava/lang/Throwable;" } : Jvm.MethodName) ({ cls := "java/lang/Throwable", name := "fillInStackTrace", desc := "(I)Ljava/lang/Throwable;" } : Jvm.MethodName)) ∈ TB := inTB2 172 (by decide +kernel) (by decide +kernel)
theorem tb2_179 : (Jvm.Cond.methodLink "StageCycles" (70 : Nat) ({ cls := "java/lang/UnsupportedOperationException", name := "<init>", desc := "(Ljava/lang/String;)V" } : Jvm.MethodName)) ∈ TB := inTB2 179 (by decide +kernel) (by decide +kernel)
theorem tb2_180 : (Jvm.Cond.instanceMethod ({ cls := "java/lang/UnsupportedOperationException", name := "<init>", desc := "(Ljava/lang/String;)V" } : Jvm.MethodName)) ∈ TB := inTB2 180 (by decide +kernel) (by decide +kernel)
theorem tb2_181 : (Jvm.Cond.code ({ cls := "java/lang/UnsupportedOperationException", name := "<init>", desc := "(Ljava/lang/String;)V" } : Jvm.MethodName) prog_19_method_2_code (2 : Nat) (Option.none : Option Jvm.ClassFile.FieldType)) ∈ TB := inTB2 181 (by decide +kernel) (by decide +kernel)
theorem tb2_182 : (Jvm.Cond.methodLink "java/lang/UnsupportedOperationException" (7 : Nat) ({ cls := "java/lang/RuntimeException", name := "<init>", desc := "(Ljava/lang/String;)V" } : Jvm.MethodName)) ∈ TB := inTB2 182 (by decide +kernel) (by decide +kernel)
theorem tb2_185 : (Jvm.Cond.methodLink "StageCycles" (71 : Nat) ({ cls := "StageCycles$Program", name := "append", desc := "(IIIII)I" } : Jvm.MethodName)) ∈ TB := inTB2 185 (by decide +kernel) (by decide +kernel)
theorem tb2_186 : (Jvm.Cond.instanceMethod ({ cls := "StageCycles$Program", name := "append", desc := "(IIIII)I" } : Jvm.MethodName)) ∈ TB := inTB2 186 (by decide +kernel) (by decide +kernel)
theorem tb2_187 : (Jvm.Cond.selects "StageCycles$Program" ({ cls := "StageCycles$Program", name := "append", desc := "(IIIII)I" } : Jvm.MethodName) ({ cls := "StageCycles$Program", name := "append", desc := "(IIIII)I" } : Jvm.MethodName)) ∈ TB := inTB2 187 (by decide +kernel) (by decide +kernel)
theorem tb2_188 : (Jvm.Cond.code ({ cls := "StageCycles$Program", name := "append", desc := "(IIIII)I" } : Jvm.MethodName) prog_5_method_2_code (6 : Nat) (Option.some Jvm.ClassFile.FieldType.int)) ∈ TB := inTB2 188 (by decide +kernel) (by decide +kernel)
theorem tb2_189 : (Jvm.Cond.methodLink "StageCycles$Program" (31 : Nat) ({ cls := "StageCycles$Program", name := "hasTarget", desc := "(I)Z" } : Jvm.MethodName)) ∈ TB := inTB2 189 (by decide +kernel) (by decide +kernel)
theorem tb2_190 : (Jvm.Cond.static ({ cls := "StageCycles$Program", name := "hasTarget", desc := "(I)Z" } : Jvm.MethodName)) ∈ TB := inTB2 190 (by decide +kernel) (by decide +kernel)
theorem tb2_191 : (Jvm.Cond.code ({ cls := "StageCycles$Program", name := "hasTarget", desc := "(I)Z" } : Jvm.MethodName) prog_5_method_3_code (1 : Nat) (Option.some Jvm.ClassFile.FieldType.boolean)) ∈ TB := inTB2 191 (by decide +kernel) (by decide +kernel)
theorem tb2_192 : (Jvm.Cond.methodLink "StageCycles$Program" (35 : Nat) ({ cls := "StageCycles$Program", name := "readsFirst", desc := "(I)Z" } : Jvm.MethodName)) ∈ TB := inTB2 192 (by decide +kernel) (by decide +kernel)
theorem tb2_193 : (Jvm.Cond.static ({ cls := "StageCycles$Program", name := "readsFirst", desc := "(I)Z" } : Jvm.MethodName)) ∈ TB := inTB2 193 (by decide +kernel) (by decide +kernel)
theorem tb2_194 : (Jvm.Cond.code ({ cls := "StageCycles$Program", name := "readsFirst", desc := "(I)Z" } : Jvm.MethodName) prog_5_method_4_code (1 : Nat) (Option.some Jvm.ClassFile.FieldType.boolean)) ∈ TB := inTB2 194 (by decide +kernel) (by decide +kernel)
theorem tb2_195 : (Jvm.Cond.methodLink "StageCycles$Program" (38 : Nat) ({ cls := "StageCycles$Program", name := "readsSecond", desc := "(I)Z" } : Jvm.MethodName)) ∈ TB := inTB2 195 (by decide +kernel) (by decide +kernel)
theorem tb2_196 : (Jvm.Cond.static ({ cls := "StageCycles$Program", name := "readsSecond", desc := "(I)Z" } : Jvm.MethodName)) ∈ TB := inTB2 196 (by decide +kernel) (by decide +kernel)
theorem tb2_197 : (Jvm.Cond.code ({ cls := "StageCycles$Program", name := "readsSecond", desc := "(I)Z" } : Jvm.MethodName) prog_5_method_5_code (1 : Nat) (Option.some Jvm.ClassFile.FieldType.boolean)) ∈ TB := inTB2 197 (by decide +kernel) (by decide +kernel)
theorem tb2_198 : (Jvm.Cond.methodLink "StageCyclesLaw" (65 : Nat) ({ cls := "StageCyclesLaw", name := "set", desc := "(LStageCycles;ZI[J)I" } : Jvm.MethodName)) ∈ TB := inTB2 198 (by decide +kernel) (by decide +kernel)
theorem tb2_199 : (Jvm.Cond.static ({ cls := "StageCyclesLaw", name := "set", desc := "(LStageCycles;ZI[J)I" } : Jvm.MethodName)) ∈ TB := inTB2 199 (by decide +kernel) (by decide +kernel)
theorem tb2_200 : (Jvm.Cond.codeWith ({ cls := "StageCyclesLaw", name := "set", desc := "(LStageCycles;ZI[J)I" } : Jvm.MethodName) method_4_code (5 : Nat) (Option.some Jvm.ClassFile.FieldType.int) [((0 : Nat), (17 : Nat), (20 : Nat), (13 : Nat)), ((0 : Nat), (17 : Nat), (24 : Nat), (15 : Nat))]) ∈ TB := inTB2 200 (by decide +kernel) (by decide +kernel)
theorem tb2_201 : (Jvm.Cond.methodLink "StageCyclesLaw" (19 : Nat) ({ cls := "StageCycles", name := "set", desc := "(ZI)Z" } : Jvm.MethodName)) ∈ TB := inTB2 201 (by decide +kernel) (by decide +kernel)
theorem tb2_202 : (Jvm.Cond.instanceMethod ({ cls := "StageCycles", name := "set", desc := "(ZI)Z" } : Jvm.MethodName)) ∈ TB := inTB2 202 (by decide +kernel) (by decide +kernel)
theorem tb2_203 : (Jvm.Cond.selects "StageCycles" ({ cls := "StageCycles", name := "set", desc := "(ZI)Z" } : Jvm.MethodName) ({ cls := "StageCycles", name := "set", desc := "(ZI)Z" } : Jvm.MethodName)) ∈ TB := inTB2 203 (by decide +kernel) (by decide +kernel)
theorem tb2_204 : (Jvm.Cond.code ({ cls := "StageCycles", name := "set", desc := "(ZI)Z" } : Jvm.MethodName) prog_1_method_3_code (4 : Nat) (Option.some Jvm.ClassFile.FieldType.boolean)) ∈ TB := inTB2 204 (by decide +kernel) (by decide +kernel)
theorem tb2_206 : (Jvm.Cond.methodLink "StageCyclesLaw" (73 : Nat) ({ cls := "StageCyclesLaw", name := "run", desc := "(LStageCycles;I[J)I" } : Jvm.MethodName)) ∈ TB := inTB2 206 (by decide +kernel) (by decide +kernel)
theorem tb2_207 : (Jvm.Cond.static ({ cls := "StageCyclesLaw", name := "run", desc := "(LStageCycles;I[J)I" } : Jvm.MethodName)) ∈ TB := inTB2 207 (by decide +kernel) (by decide +kernel)
theorem tb2_208 : (Jvm.Cond.codeWith ({ cls := "StageCyclesLaw", name := "run", desc := "(LStageCycles;I[J)I" } : Jvm.MethodName) method_5_code (4 : Nat) (Option.some Jvm.ClassFile.FieldType.int) [((0 : Nat), (9 : Nat), (12 : Nat), (13 : Nat)), ((0 : Nat), (9 : Nat), (15 : Nat), (15 : Nat))]) ∈ TB := inTB2 208 (by decide +kernel) (by decide +kernel)
theorem tb2_209 : (Jvm.Cond.methodLink "StageCyclesLaw" (23 : Nat) ({ cls := "StageCycles", name := "run", desc := "(I)I" } : Jvm.MethodName)) ∈ TB := inTB2 209 (by decide +kernel) (by decide +kernel)
theorem tb2_210 : (Jvm.Cond.instanceMethod ({ cls := "StageCycles", name := "run", desc := "(I)I" } : Jvm.MethodName)) ∈ TB := inTB2 210 (by decide +kernel) (by decide +kernel)
theorem tb2_211 : (Jvm.Cond.selects "StageCycles" ({ cls := "StageCycles", name := "run", desc := "(I)I" } : Jvm.MethodName) ({ cls := "StageCycles", name := "run", desc := "(I)I" } : Jvm.MethodName)) ∈ TB := inTB2 211 (by decide +kernel) (by decide +kernel)
theorem tb2_212 : (Jvm.Cond.code ({ cls := "StageCycles", name := "run", desc := "(I)I" } : Jvm.MethodName) prog_1_method_5_code (3 : Nat) (Option.some Jvm.ClassFile.FieldType.int)) ∈ TB := inTB2 212 (by decide +kernel) (by decide +kernel)
theorem tb2_215 : (Jvm.Cond.methodLink "StageCycles" (97 : Nat) ({ cls := "StageCycles$Line", name := "doCycle", desc := "()V" } : Jvm.MethodName)) ∈ TB := inTB2 215 (by decide +kernel) (by decide +kernel)
theorem tb2_216 : (Jvm.Cond.instanceMethod ({ cls := "StageCycles$Line", name := "doCycle", desc := "()V" } : Jvm.MethodName)) ∈ TB := inTB2 216 (by decide +kernel) (by decide +kernel)
theorem tb2_217 : (Jvm.Cond.selects "StageCycles$Line" ({ cls := "StageCycles$Line", name := "doCycle", desc := "()V" } : Jvm.MethodName) ({ cls := "StageCycles$Line", name := "doCycle", desc := "()V" } : Jvm.MethodName)) ∈ TB := inTB2 217 (by decide +kernel) (by decide +kernel)
theorem tb2_218 : (Jvm.Cond.code ({ cls := "StageCycles$Line", name := "doCycle", desc := "()V" } : Jvm.MethodName) prog_3_method_3_code (3 : Nat) (Option.none : Option Jvm.ClassFile.FieldType)) ∈ TB := inTB2 218 (by decide +kernel) (by decide +kernel)
theorem tb2_219 : (Jvm.Cond.methodLink "StageCycles$Line" (81 : Nat) ({ cls := "StageCycles$Line", name := "leave", desc := "()I" } : Jvm.MethodName)) ∈ TB := inTB2 219 (by decide +kernel) (by decide +kernel)
theorem tb2_221 : (Jvm.Cond.instanceMethod ({ cls := "StageCycles$Line", name := "leave", desc := "()I" } : Jvm.MethodName)) ∈ TB := inTB2 221 (by decide +kernel) (by decide +kernel)
theorem tb2_222 : (Jvm.Cond.code ({ cls := "StageCycles$Line", name := "leave", desc := "()I" } : Jvm.MethodName) prog_3_method_4_code (4 : Nat) (Option.some Jvm.ClassFile.FieldType.int)) ∈ TB := inTB2 222 (by decide +kernel) (by decide +kernel)
theorem tb2_223 : (Jvm.Cond.methodLink "StageCycles$Line" (98 : Nat) ({ cls := "StageCycles$Shape", name := "last", desc := "()I" } : Jvm.MethodName)) ∈ TB := inTB2 223 (by decide +kernel) (by decide +kernel)
theorem tb2_224 : (Jvm.Cond.instanceMethod ({ cls := "StageCycles$Shape", name := "last", desc := "()I" } : Jvm.MethodName)) ∈ TB := inTB2 224 (by decide +kernel) (by decide +kernel)
theorem tb2_225 : (Jvm.Cond.selects "StageCycles$Shape" ({ cls := "StageCycles$Shape", name := "last", desc := "()I" } : Jvm.MethodName) ({ cls := "StageCycles$Shape", name := "last", desc := "()I" } : Jvm.MethodName)) ∈ TB := inTB2 225 (by decide +kernel) (by decide +kernel)
theorem tb2_226 : (Jvm.Cond.code ({ cls := "StageCycles$Shape", name := "last", desc := "()I" } : Jvm.MethodName) prog_6_method_3_code (1 : Nat) (Option.some Jvm.ClassFile.FieldType.int)) ∈ TB := inTB2 226 (by decide +kernel) (by decide +kernel)
theorem tb2_227 : (Jvm.Cond.methodLink "StageCycles$Line" (103 : Nat) ({ cls := "StageCycles$Slots", name := "wordIn", desc := "(I)I" } : Jvm.MethodName)) ∈ TB := inTB2 227 (by decide +kernel) (by decide +kernel)
theorem tb2_228 : (Jvm.Cond.instanceMethod ({ cls := "StageCycles$Slots", name := "wordIn", desc := "(I)I" } : Jvm.MethodName)) ∈ TB := inTB2 228 (by decide +kernel) (by decide +kernel)
theorem tb2_229 : (Jvm.Cond.selects "StageCycles$Slots" ({ cls := "StageCycles$Slots", name := "wordIn", desc := "(I)I" } : Jvm.MethodName) ({ cls := "StageCycles$Slots", name := "wordIn", desc := "(I)I" } : Jvm.MethodName)) ∈ TB := inTB2 229 (by decide +kernel) (by decide +kernel)
theorem tb2_230 : (Jvm.Cond.code ({ cls := "StageCycles$Slots", name := "wordIn", desc := "(I)I" } : Jvm.MethodName) prog_7_method_2_code (2 : Nat) (Option.some Jvm.ClassFile.FieldType.int)) ∈ TB := inTB2 230 (by decide +kernel) (by decide +kernel)
theorem tb2_231 : (Jvm.Cond.methodLink "StageCycles$Line" (107 : Nat) ({ cls := "StageCycles$Slots", name := "isGoing", desc := "(I)Z" } : Jvm.MethodName)) ∈ TB := inTB2 231 (by decide +kernel) (by decide +kernel)
theorem tb2_232 : (Jvm.Cond.instanceMethod ({ cls := "StageCycles$Slots", name := "isGoing", desc := "(I)Z" } : Jvm.MethodName)) ∈ TB := inTB2 232 (by decide +kernel) (by decide +kernel)
theorem tb2_233 : (Jvm.Cond.selects "StageCycles$Slots" ({ cls := "StageCycles$Slots", name := "isGoing", desc := "(I)Z" } : Jvm.MethodName) ({ cls := "StageCycles$Slots", name := "isGoing", desc := "(I)Z" } : Jvm.MethodName)) ∈ TB := inTB2 233 (by decide +kernel) (by decide +kernel)
theorem tb2_234 : (Jvm.Cond.code ({ cls := "StageCycles$Slots", name := "isGoing", desc := "(I)Z" } : Jvm.MethodName) prog_7_method_4_code (2 : Nat) (Option.some Jvm.ClassFile.FieldType.boolean)) ∈ TB := inTB2 234 (by decide +kernel) (by decide +kernel)
theorem tb2_235 : (Jvm.Cond.methodLink "StageCycles$Line" (111 : Nat) ({ cls := "StageCycles$Slots", name := "empty", desc := "(I)V" } : Jvm.MethodName)) ∈ TB := inTB2 235 (by decide +kernel) (by decide +kernel)
theorem tb2_236 : (Jvm.Cond.instanceMethod ({ cls := "StageCycles$Slots", name := "empty", desc := "(I)V" } : Jvm.MethodName)) ∈ TB := inTB2 236 (by decide +kernel) (by decide +kernel)
theorem tb2_237 : (Jvm.Cond.selects "StageCycles$Slots" ({ cls := "StageCycles$Slots", name := "empty", desc := "(I)V" } : Jvm.MethodName) ({ cls := "StageCycles$Slots", name := "empty", desc := "(I)V" } : Jvm.MethodName)) ∈ TB := inTB2 237 (by decide +kernel) (by decide +kernel)
theorem tb2_238 : (Jvm.Cond.code ({ cls := "StageCycles$Slots", name := "empty", desc := "(I)V" } : Jvm.MethodName) prog_7_method_6_code (2 : Nat) (Option.none : Option Jvm.ClassFile.FieldType)) ∈ TB := inTB2 238 (by decide +kernel) (by decide +kernel)
theorem tb2_239 : (Jvm.Cond.methodLink "StageCycles$Line" (114 : Nat) ({ cls := "StageCycles$Program", name := "kindOf", desc := "(I)I" } : Jvm.MethodName)) ∈ TB := inTB2 239 (by decide +kernel) (by decide +kernel)
theorem tb3_0 : (Jvm.Cond.instanceMethod ({ cls := "StageCycles$Program", name := "kindOf", desc := "(I)I" } : Jvm.MethodName)) ∈ TB := inTB3 0 (by decide +kernel) (by decide +kernel)
theorem tb3_1 : (Jvm.Cond.selects "StageCycles$Program" ({ cls := "StageCycles$Program", name := "kindOf", desc := "(I)I" } : Jvm.MethodName) ({ cls := "StageCycles$Program", name := "kindOf", desc := "(I)I" } : Jvm.MethodName)) ∈ TB := inTB3 1 (by decide +kernel) (by decide +kernel)
theorem tb3_2 : (Jvm.Cond.code ({ cls := "StageCycles$Program", name := "kindOf", desc := "(I)I" } : Jvm.MethodName) prog_5_method_8_code (2 : Nat) (Option.some Jvm.ClassFile.FieldType.int)) ∈ TB := inTB3 2 (by decide +kernel) (by decide +kernel)
theorem tb3_3 : (Jvm.Cond.methodLink "StageCycles$Line" (125 : Nat) ({ cls := "StageCycles$Line", name := "squashAndGoTo", desc := "(II)V" } : Jvm.MethodName)) ∈ TB := inTB3 3 (by decide +kernel) (by decide +kernel)
theorem tb3_5 : (Jvm.Cond.instanceMethod ({ cls := "StageCycles$Line", name := "squashAndGoTo", desc := "(II)V" } : Jvm.MethodName)) ∈ TB := inTB3 5 (by decide +kernel) (by decide +kernel)
theorem tb3_6 : (Jvm.Cond.code ({ cls := "StageCycles$Line", name := "squashAndGoTo", desc := "(II)V" } : Jvm.MethodName) prog_3_method_7_code (3 : Nat) (Option.none : Option Jvm.ClassFile.FieldType)) ∈ TB := inTB3 6 (by decide +kernel) (by decide +kernel)
theorem tb3_7 : (Jvm.Cond.methodLink "StageCycles$Line" (157 : Nat) ({ cls := "StageCycles$Slots", name := "squashBelow", desc := "(I)I" } : Jvm.MethodName)) ∈ TB := inTB3 7 (by decide +kernel) (by decide +kernel)
theorem tb3_8 : (Jvm.Cond.methodLink "StageCycles$Line" (160 : Nat) ({ cls := "StageCycles$Program", name := "wordAt", desc := "(I)I" } : Jvm.MethodName)) ∈ TB := inTB3 8 (by decide +kernel) (by decide +kernel)
theorem tb3_9 : (Jvm.Cond.instanceMethod ({ cls := "StageCycles$Program", name := "wordAt", desc := "(I)I" } : Jvm.MethodName)) ∈ TB := inTB3 9 (by decide +kernel) (by decide +kernel)
theorem tb3_10 : (Jvm.Cond.selects "StageCycles$Program" ({ cls := "StageCycles$Program", name := "wordAt", desc := "(I)I" } : Jvm.MethodName) ({ cls := "StageCycles$Program", name := "wordAt", desc := "(I)I" } : Jvm.MethodName)) ∈ TB := inTB3 10 (by decide +kernel) (by decide +kernel)
theorem tb3_11 : (Jvm.Cond.code ({ cls := "StageCycles$Program", name := "wordAt", desc := "(I)I" } : Jvm.MethodName) prog_5_method_14_code (2 : Nat) (Option.some Jvm.ClassFile.FieldType.int)) ∈ TB := inTB3 11 (by decide +kernel) (by decide +kernel)
theorem tb3_12 : (Jvm.Cond.methodLink "StageCycles$Program" (41 : Nat) ({ cls := "java/lang/Math", name := "floorMod", desc := "(II)I" } : Jvm.MethodName)) ∈ TB := inTB3 12 (by decide +kernel) (by decide +kernel)
theorem tb3_13 : (Jvm.Cond.methodLink "StageCycles$Line" (129 : Nat) ({ cls := "StageCycles$Line", name := "commit", desc := "(I)V" } : Jvm.MethodName)) ∈ TB := inTB3 13 (by decide +kernel) (by decide +kernel)
theorem tb3_15 : (Jvm.Cond.instanceMethod ({ cls := "StageCycles$Line", name := "commit", desc := "(I)V" } : Jvm.MethodName)) ∈ TB := inTB3 15 (by decide +kernel) (by decide +kernel)
theorem tb3_16 : (Jvm.Cond.code ({ cls := "StageCycles$Line", name := "commit", desc := "(I)V" } : Jvm.MethodName) prog_3_method_5_code (3 : Nat) (Option.none : Option Jvm.ClassFile.FieldType)) ∈ TB := inTB3 16 (by decide +kernel) (by decide +kernel)
theorem tb3_17 : (Jvm.Cond.methodLink "StageCycles$Line" (138 : Nat) ({ cls := "StageCycles$PlainRun", name := "perform", desc := "(I)I" } : Jvm.MethodName)) ∈ TB := inTB3 17 (by decide +kernel) (by decide +kernel)
theorem tb3_18 : (Jvm.Cond.instanceMethod ({ cls := "StageCycles$PlainRun", name := "perform", desc := "(I)I" } : Jvm.MethodName)) ∈ TB := inTB3 18 (by decide +kernel) (by decide +kernel)
theorem tb3_19 : (Jvm.Cond.selects "StageCycles$PlainRun" ({ cls := "StageCycles$PlainRun", name := "perform", desc := "(I)I" } : Jvm.MethodName) ({ cls := "StageCycles$PlainRun", name := "perform", desc := "(I)I" } : Jvm.MethodName)) ∈ TB := inTB3 19 (by decide +kernel) (by decide +kernel)
theorem tb3_20 : (Jvm.Cond.code ({ cls := "StageCycles$PlainRun", name := "perform", desc := "(I)I" } : Jvm.MethodName) prog_4_method_6_code (6 : Nat) (Option.some Jvm.ClassFile.FieldType.int)) ∈ TB := inTB3 20 (by decide +kernel) (by decide +kernel)
theorem tb3_21 : (Jvm.Cond.methodLink "StageCycles$PlainRun" (40 : Nat) ({ cls := "StageCycles$Program", name := "firstRead", desc := "(I)I" } : Jvm.MethodName)) ∈ TB := inTB3 21 (by decide +kernel) (by decide +kernel)
theorem tb3_22 : (Jvm.Cond.instanceMethod ({ cls := "StageCycles$Program", name := "firstRead", desc := "(I)I" } : Jvm.MethodName)) ∈ TB := inTB3 22 (by decide +kernel) (by decide +kernel)
theorem tb3_23 : (Jvm.Cond.selects "StageCycles$Program" ({ cls := "StageCycles$Program", name := "firstRead", desc := "(I)I" } : Jvm.MethodName) ({ cls := "StageCycles$Program", name := "firstRead", desc := "(I)I" } : Jvm.MethodName)) ∈ TB := inTB3 23 (by decide +kernel) (by decide +kernel)
theorem tb3_24 : (Jvm.Cond.code ({ cls := "StageCycles$Program", name := "firstRead", desc := "(I)I" } : Jvm.MethodName) prog_5_method_10_code (2 : Nat) (Option.some Jvm.ClassFile.FieldType.int)) ∈ TB := inTB3 24 (by decide +kernel) (by decide +kernel)
theorem tb3_25 : (Jvm.Cond.methodLink "StageCycles$PlainRun" (43 : Nat) ({ cls := "StageCycles$PlainRun", name := "valueOf", desc := "(I)I" } : Jvm.MethodName)) ∈ TB := inTB3 25 (by decide +kernel) (by decide +kernel)
theorem tb3_26 : (Jvm.Cond.instanceMethod ({ cls := "StageCycles$PlainRun", name := "valueOf", desc := "(I)I" } : Jvm.MethodName)) ∈ TB := inTB3 26 (by decide +kernel) (by decide +kernel)
theorem tb3_27 : (Jvm.Cond.selects "StageCycles$PlainRun" ({ cls := "StageCycles$PlainRun", name := "valueOf", desc := "(I)I" } : Jvm.MethodName) ({ cls := "StageCycles$PlainRun", name := "valueOf", desc := "(I)I" } : Jvm.MethodName)) ∈ TB := inTB3 27 (by decide +kernel) (by decide +kernel)
theorem tb3_28 : (Jvm.Cond.code ({ cls := "StageCycles$PlainRun", name := "valueOf", desc := "(I)I" } : Jvm.MethodName) prog_4_method_3_code (2 : Nat) (Option.some Jvm.ClassFile.FieldType.int)) ∈ TB := inTB3 28 (by decide +kernel) (by decide +kernel)
theorem tb3_29 : (Jvm.Cond.methodLink "StageCycles$PlainRun" (46 : Nat) ({ cls := "StageCycles$Program", name := "secondRead", desc := "(I)I" } : Jvm.MethodName)) ∈ TB := inTB3 29 (by decide +kernel) (by decide +kernel)
theorem tb3_30 : (Jvm.Cond.instanceMethod ({ cls := "StageCycles$Program", name := "secondRead", desc := "(I)I" } : Jvm.MethodName)) ∈ TB := inTB3 30 (by decide +kernel) (by decide +kernel)
theorem tb3_31 : (Jvm.Cond.selects "StageCycles$Program" ({ cls := "StageCycles$Program", name := "secondRead", desc := "(I)I" } : Jvm.MethodName) ({ cls := "StageCycles$Program", name := "secondRead", desc := "(I)I" } : Jvm.MethodName)) ∈ TB := inTB3 31 (by decide +kernel) (by decide +kernel)
theorem tb3_32 : (Jvm.Cond.code ({ cls := "StageCycles$Program", name := "secondRead", desc := "(I)I" } : Jvm.MethodName) prog_5_method_11_code (2 : Nat) (Option.some Jvm.ClassFile.FieldType.int)) ∈ TB := inTB3 32 (by decide +kernel) (by decide +kernel)
theorem tb3_33 : (Jvm.Cond.methodLink "StageCycles$PlainRun" (49 : Nat) ({ cls := "StageCycles$Program", name := "number", desc := "(I)I" } : Jvm.MethodName)) ∈ TB := inTB3 33 (by decide +kernel) (by decide +kernel)
theorem tb3_34 : (Jvm.Cond.instanceMethod ({ cls := "StageCycles$Program", name := "number", desc := "(I)I" } : Jvm.MethodName)) ∈ TB := inTB3 34 (by decide +kernel) (by decide +kernel)
theorem tb3_35 : (Jvm.Cond.selects "StageCycles$Program" ({ cls := "StageCycles$Program", name := "number", desc := "(I)I" } : Jvm.MethodName) ({ cls := "StageCycles$Program", name := "number", desc := "(I)I" } : Jvm.MethodName)) ∈ TB := inTB3 35 (by decide +kernel) (by decide +kernel)
theorem tb3_36 : (Jvm.Cond.code ({ cls := "StageCycles$Program", name := "number", desc := "(I)I" } : Jvm.MethodName) prog_5_method_12_code (2 : Nat) (Option.some Jvm.ClassFile.FieldType.int)) ∈ TB := inTB3 36 (by decide +kernel) (by decide +kernel)
theorem tb3_37 : (Jvm.Cond.methodLink "StageCycles$PlainRun" (52 : Nat) ({ cls := "StageCycles$Program", name := "written", desc := "(I)I" } : Jvm.MethodName)) ∈ TB := inTB3 37 (by decide +kernel) (by decide +kernel)
theorem tb3_38 : (Jvm.Cond.instanceMethod ({ cls := "StageCycles$Program", name := "written", desc := "(I)I" } : Jvm.MethodName)) ∈ TB := inTB3 38 (by decide +kernel) (by decide +kernel)
theorem tb3_39 : (Jvm.Cond.selects "StageCycles$Program" ({ cls := "StageCycles$Program", name := "written", desc := "(I)I" } : Jvm.MethodName) ({ cls := "StageCycles$Program", name := "written", desc := "(I)I" } : Jvm.MethodName)) ∈ TB := inTB3 39 (by decide +kernel) (by decide +kernel)
theorem tb3_40 : (Jvm.Cond.code ({ cls := "StageCycles$Program", name := "written", desc := "(I)I" } : Jvm.MethodName) prog_5_method_9_code (2 : Nat) (Option.some Jvm.ClassFile.FieldType.int)) ∈ TB := inTB3 40 (by decide +kernel) (by decide +kernel)
theorem tb3_41 : (Jvm.Cond.methodLink "StageCycles$PlainRun" (34 : Nat) ({ cls := "StageCycles$Program", name := "kindOf", desc := "(I)I" } : Jvm.MethodName)) ∈ TB := inTB3 41 (by decide +kernel) (by decide +kernel)
theorem tb3_42 : (Jvm.Cond.methodLink "StageCycles$PlainRun" (55 : Nat) ({ cls := "StageCycles$PlainRun", name := "write", desc := "(II)I" } : Jvm.MethodName)) ∈ TB := inTB3 42 (by decide +kernel) (by decide +kernel)
theorem tb3_44 : (Jvm.Cond.instanceMethod ({ cls := "StageCycles$PlainRun", name := "write", desc := "(II)I" } : Jvm.MethodName)) ∈ TB := inTB3 44 (by decide +kernel) (by decide +kernel)
theorem tb3_45 : (Jvm.Cond.code ({ cls := "StageCycles$PlainRun", name := "write", desc := "(II)I" } : Jvm.MethodName) prog_4_method_7_code (3 : Nat) (Option.some Jvm.ClassFile.FieldType.int)) ∈ TB := inTB3 45 (by decide +kernel) (by decide +kernel)
theorem tb3_46 : (Jvm.Cond.methodLink "StageCycles$PlainRun" (58 : Nat) ({ cls := "StageCycles$PlainRun", name := "valueAt", desc := "(I)I" } : Jvm.MethodName)) ∈ TB := inTB3 46 (by decide +kernel) (by decide +kernel)
theorem tb3_47 : (Jvm.Cond.instanceMethod ({ cls := "StageCycles$PlainRun", name := "valueAt", desc := "(I)I" } : Jvm.MethodName)) ∈ TB := inTB3 47 (by decide +kernel) (by decide +kernel)
theorem tb3_48 : (Jvm.Cond.selects "StageCycles$PlainRun" ({ cls := "StageCycles$PlainRun", name := "valueAt", desc := "(I)I" } : Jvm.MethodName) ({ cls := "StageCycles$PlainRun", name := "valueAt", desc := "(I)I" } : Jvm.MethodName)) ∈ TB := inTB3 48 (by decide +kernel) (by decide +kernel)
theorem tb3_49 : (Jvm.Cond.code ({ cls := "StageCycles$PlainRun", name := "valueAt", desc := "(I)I" } : Jvm.MethodName) prog_4_method_4_code (2 : Nat) (Option.some Jvm.ClassFile.FieldType.int)) ∈ TB := inTB3 49 (by decide +kernel) (by decide +kernel)
theorem tb3_50 : (Jvm.Cond.methodLink "StageCycles$PlainRun" (28 : Nat) ({ cls := "java/lang/Math", name := "floorMod", desc := "(II)I" } : Jvm.MethodName)) ∈ TB := inTB3 50 (by decide +kernel) (by decide +kernel)
theorem tb3_51 : (Jvm.Cond.methodLink "StageCycles$PlainRun" (61 : Nat) ({ cls := "StageCycles$PlainRun", name := "store", desc := "(II)I" } : Jvm.MethodName)) ∈ TB := inTB3 51 (by decide +kernel) (by decide +kernel)
theorem tb3_53 : (Jvm.Cond.instanceMethod ({ cls := "StageCycles$PlainRun", name := "store", desc := "(II)I" } : Jvm.MethodName)) ∈ TB := inTB3 53 (by decide +kernel) (by decide +kernel)
theorem tb3_54 : (Jvm.Cond.code ({ cls := "StageCycles$PlainRun", name := "store", desc := "(II)I" } : Jvm.MethodName) prog_4_method_8_code (3 : Nat) (Option.some Jvm.ClassFile.FieldType.int)) ∈ TB := inTB3 54 (by decide +kernel) (by decide +kernel)
theorem tb3_55 : (Jvm.Cond.methodLink "StageCycles$Line" (144 : Nat) ({ cls := "StageCycles$Journal", name := "append", desc := "(III)V" } : Jvm.MethodName)) ∈ TB := inTB3 55 (by decide +kernel) (by decide +kernel)
theorem tb3_56 : (Jvm.Cond.instanceMethod ({ cls := "StageCycles$Journal", name := "append", desc := "(III)V" } : Jvm.MethodName)) ∈ TB := inTB3 56 (by decide +kernel) (by decide +kernel)
theorem tb3_57 : (Jvm.Cond.selects "StageCycles$Journal" ({ cls := "StageCycles$Journal", name := "append", desc := "(III)V" } : Jvm.MethodName) ({ cls := "StageCycles$Journal", name := "append", desc := "(III)V" } : Jvm.MethodName)) ∈ TB := inTB3 57 (by decide +kernel) (by decide +kernel)
theorem tb3_58 : (Jvm.Cond.code ({ cls := "StageCycles$Journal", name := "append", desc := "(III)V" } : Jvm.MethodName) prog_2_method_4_code (5 : Nat) (Option.none : Option Jvm.ClassFile.FieldType)) ∈ TB := inTB3 58 (by decide +kernel) (by decide +kernel)
theorem tb3_59 : (Jvm.Cond.methodLink "StageCycles$Journal" (28 : Nat) ({ cls := "java/lang/Math", name := "floorMod", desc := "(II)I" } : Jvm.MethodName)) ∈ TB := inTB3 59 (by decide +kernel) (by decide +kernel)
theorem tb3_60 : (Jvm.Cond.methodLink "StageCycles$Line" (135 : Nat) ({ cls := "StageCycles$Line", name := "takeBranch", desc := "(II)V" } : Jvm.MethodName)) ∈ TB := inTB3 60 (by decide +kernel) (by decide +kernel)
theorem tb3_62 : (Jvm.Cond.instanceMethod ({ cls := "StageCycles$Line", name := "takeBranch", desc := "(II)V" } : Jvm.MethodName)) ∈ TB := inTB3 62 (by decide +kernel) (by decide +kernel)
theorem tb3_63 : (Jvm.Cond.code ({ cls := "StageCycles$Line", name := "takeBranch", desc := "(II)V" } : Jvm.MethodName) prog_3_method_6_code (3 : Nat) (Option.none : Option Jvm.ClassFile.FieldType)) ∈ TB := inTB3 63 (by decide +kernel) (by decide +kernel)
theorem tb3_64 : (Jvm.Cond.methodLink "StageCycles$Line" (151 : Nat) ({ cls := "StageCycles$Program", name := "number", desc := "(I)I" } : Jvm.MethodName)) ∈ TB := inTB3 64 (by decide +kernel) (by decide +kernel)
theorem tb3_65 : (Jvm.Cond.methodLink "StageCycles$Line" (88 : Nat) ({ cls := "StageCycles$Line", name := "goOn", desc := "()I" } : Jvm.MethodName)) ∈ TB := inTB3 65 (by decide +kernel) (by decide +kernel)
theorem tb3_67 : (Jvm.Cond.instanceMethod ({ cls := "StageCycles$Line", name := "goOn", desc := "()I" } : Jvm.MethodName)) ∈ TB := inTB3 67 (by decide +kernel) (by decide +kernel)
theorem tb3_68 : (Jvm.Cond.code ({ cls := "StageCycles$Line", name := "goOn", desc := "()I" } : Jvm.MethodName) prog_3_method_8_code (5 : Nat) (Option.some Jvm.ClassFile.FieldType.int)) ∈ TB := inTB3 68 (by decide +kernel) (by decide +kernel)
theorem tb3_69 : (Jvm.Cond.methodLink "StageCycles$Line" (166 : Nat) ({ cls := "StageCycles$Line", name := "work", desc := "(I)I" } : Jvm.MethodName)) ∈ TB := inTB3 69 (by decide +kernel) (by decide +kernel)
theorem tb3_71 : (Jvm.Cond.instanceMethod ({ cls := "StageCycles$Line", name := "work", desc := "(I)I" } : Jvm.MethodName)) ∈ TB := inTB3 71 (by decide +kernel) (by decide +kernel)
theorem tb3_72 : (Jvm.Cond.code ({ cls := "StageCycles$Line", name := "work", desc := "(I)I" } : Jvm.MethodName) prog_3_method_9_code (3 : Nat) (Option.some Jvm.ClassFile.FieldType.int)) ∈ TB := inTB3 72 (by decide +kernel) (by decide +kernel)
theorem tb3_73 : (Jvm.Cond.methodLink "StageCycles$Line" (172 : Nat) ({ cls := "StageCycles$Line", name := "isReady", desc := "(I)Z" } : Jvm.MethodName)) ∈ TB := inTB3 73 (by decide +kernel) (by decide +kernel)
theorem tb3_75 : (Jvm.Cond.instanceMethod ({ cls := "StageCycles$Line", name := "isReady", desc := "(I)Z" } : Jvm.MethodName)) ∈ TB := inTB3 75 (by decide +kernel) (by decide +kernel)
theorem tb3_76 : (Jvm.Cond.code ({ cls := "StageCycles$Line", name := "isReady", desc := "(I)Z" } : Jvm.MethodName) prog_3_method_10_code (2 : Nat) (Option.some Jvm.ClassFile.FieldType.boolean)) ∈ TB := inTB3 76 (by decide +kernel) (by decide +kernel)
theorem tb3_77 : (Jvm.Cond.methodLink "StageCycles$Line" (178 : Nat) ({ cls := "StageCycles$Program", name := "firstRead", desc := "(I)I" } : Jvm.MethodName)) ∈ TB := inTB3 77 (by decide +kernel) (by decide +kernel)
theorem tb3_78 : (Jvm.Cond.methodLink "StageCycles$Line" (181 : Nat) ({ cls := "StageCycles$Line", name := "isThere", desc := "(I)Z" } : Jvm.MethodName)) ∈ TB := inTB3 78 (by decide +kernel) (by decide +kernel)
theorem tb3_80 : (Jvm.Cond.instanceMethod ({ cls := "StageCycles$Line", name := "isThere", desc := "(I)Z" } : Jvm.MethodName)) ∈ TB := inTB3 80 (by decide +kernel) (by decide +kernel)
theorem tb3_81 : (Jvm.Cond.code ({ cls := "StageCycles$Line", name := "isThere", desc := "(I)Z" } : Jvm.MethodName) prog_3_method_11_code (4 : Nat) (Option.some Jvm.ClassFile.FieldType.boolean)) ∈ TB := inTB3 81 (by decide +kernel) (by decide +kernel)
theorem tb3_82 : (Jvm.Cond.methodLink "StageCycles$Line" (190 : Nat) ({ cls := "StageCycles$Program", name := "written", desc := "(I)I" } : Jvm.MethodName)) ∈ TB := inTB3 82 (by decide +kernel) (by decide +kernel)
theorem tb3_83 : (Jvm.Cond.methodLink "StageCycles$Line" (193 : Nat) ({ cls := "StageCycles$Shape", name := "behindWhichReady", desc := "(I)I" } : Jvm.MethodName)) ∈ TB := inTB3 83 (by decide +kernel) (by decide +kernel)
theorem tb3_84 : (Jvm.Cond.instanceMethod ({ cls := "StageCycles$Shape", name := "behindWhichReady", desc := "(I)I" } : Jvm.MethodName)) ∈ TB := inTB3 84 (by decide +kernel) (by decide +kernel)
theorem tb3_85 : (Jvm.Cond.selects "StageCycles$Shape" ({ cls := "StageCycles$Shape", name := "behindWhichReady", desc := "(I)I" } : Jvm.MethodName) ({ cls := "StageCycles$Shape", name := "behindWhichReady", desc := "(I)I" } : Jvm.MethodName)) ∈ TB := inTB3 85 (by decide +kernel) (by decide +kernel)
theorem tb3_86 : (Jvm.Cond.code ({ cls := "StageCycles$Shape", name := "behindWhichReady", desc := "(I)I" } : Jvm.MethodName) prog_6_method_4_code (2 : Nat) (Option.some Jvm.ClassFile.FieldType.int)) ∈ TB := inTB3 86 (by decide +kernel) (by decide +kernel)
theorem tb3_87 : (Jvm.Cond.methodLink "StageCycles$Line" (184 : Nat) ({ cls := "StageCycles$Program", name := "secondRead", desc := "(I)I" } : Jvm.MethodName)) ∈ TB := inTB3 87 (by decide +kernel) (by decide +kernel)
theorem tb3_88 : (Jvm.Cond.methodLink "StageCycles$Line" (175 : Nat) ({ cls := "StageCycles$Shape", name := "cyclesToWork", desc := "(I)I" } : Jvm.MethodName)) ∈ TB := inTB3 88 (by decide +kernel) (by decide +kernel)
theorem tb3_89 : (Jvm.Cond.instanceMethod ({ cls := "StageCycles$Shape", name := "cyclesToWork", desc := "(I)I" } : Jvm.MethodName)) ∈ TB := inTB3 89 (by decide +kernel) (by decide +kernel)
theorem tb3_90 : (Jvm.Cond.selects "StageCycles$Shape" ({ cls := "StageCycles$Shape", name := "cyclesToWork", desc := "(I)I" } : Jvm.MethodName) ({ cls := "StageCycles$Shape", name := "cyclesToWork", desc := "(I)I" } : Jvm.MethodName)) ∈ TB := inTB3 90 (by decide +kernel) (by decide +kernel)
theorem tb3_91 : (Jvm.Cond.code ({ cls := "StageCycles$Shape", name := "cyclesToWork", desc := "(I)I" } : Jvm.MethodName) prog_6_method_5_code (2 : Nat) (Option.some Jvm.ClassFile.FieldType.int)) ∈ TB := inTB3 91 (by decide +kernel) (by decide +kernel)
theorem tb3_92 : (Jvm.Cond.methodLink "StageCycles$Line" (169 : Nat) ({ cls := "StageCycles$Slots", name := "moveOnFrom", desc := "(I)V" } : Jvm.MethodName)) ∈ TB := inTB3 92 (by decide +kernel) (by decide +kernel)
theorem tb3_93 : (Jvm.Cond.instanceMethod ({ cls := "StageCycles$Slots", name := "moveOnFrom", desc := "(I)V" } : Jvm.MethodName)) ∈ TB := inTB3 93 (by decide +kernel) (by decide +kernel)
theorem tb3_94 : (Jvm.Cond.selects "StageCycles$Slots" ({ cls := "StageCycles$Slots", name := "moveOnFrom", desc := "(I)V" } : Jvm.MethodName) ({ cls := "StageCycles$Slots", name := "moveOnFrom", desc := "(I)V" } : Jvm.MethodName)) ∈ TB := inTB3 94 (by decide +kernel) (by decide +kernel)
theorem tb3_95 : (Jvm.Cond.code ({ cls := "StageCycles$Slots", name := "moveOnFrom", desc := "(I)V" } : Jvm.MethodName) prog_7_method_7_code (2 : Nat) (Option.none : Option Jvm.ClassFile.FieldType)) ∈ TB := inTB3 95 (by decide +kernel) (by decide +kernel)
theorem tb3_96 : (Jvm.Cond.methodLink "StageCycles$Slots" (32 : Nat) ({ cls := "StageCycles$Slots", name := "wordIn", desc := "(I)I" } : Jvm.MethodName)) ∈ TB := inTB3 96 (by decide +kernel) (by decide +kernel)
theorem tb3_97 : (Jvm.Cond.methodLink "StageCycles$Slots" (36 : Nat) ({ cls := "StageCycles$Slots", name := "isOnTheWay", desc := "(I)Z" } : Jvm.MethodName)) ∈ TB := inTB3 97 (by decide +kernel) (by decide +kernel)
theorem tb3_98 : (Jvm.Cond.instanceMethod ({ cls := "StageCycles$Slots", name := "isOnTheWay", desc := "(I)Z" } : Jvm.MethodName)) ∈ TB := inTB3 98 (by decide +kernel) (by decide +kernel)
theorem tb3_99 : (Jvm.Cond.selects "StageCycles$Slots" ({ cls := "StageCycles$Slots", name := "isOnTheWay", desc := "(I)Z" } : Jvm.MethodName) ({ cls := "StageCycles$Slots", name := "isOnTheWay", desc := "(I)Z" } : Jvm.MethodName)) ∈ TB := inTB3 99 (by decide +kernel) (by decide +kernel)
theorem tb3_100 : (Jvm.Cond.code ({ cls := "StageCycles$Slots", name := "isOnTheWay", desc := "(I)Z" } : Jvm.MethodName) prog_7_method_3_code (2 : Nat) (Option.some Jvm.ClassFile.FieldType.boolean)) ∈ TB := inTB3 100 (by decide +kernel) (by decide +kernel)
theorem tb3_101 : (Jvm.Cond.methodLink "StageCycles$Slots" (40 : Nat) ({ cls := "StageCycles$Slots", name := "isGoing", desc := "(I)Z" } : Jvm.MethodName)) ∈ TB := inTB3 101 (by decide +kernel) (by decide +kernel)
theorem tb3_102 : (Jvm.Cond.methodLink "StageCycles$Slots" (43 : Nat) ({ cls := "StageCycles$Slots", name := "empty", desc := "(I)V" } : Jvm.MethodName)) ∈ TB := inTB3 102 (by decide +kernel) (by decide +kernel)
theorem tb3_103 : (Jvm.Cond.methodLink "StageCycles$Line" (91 : Nat) ({ cls := "StageCycles$Line", name := "fetch", desc := "()V" } : Jvm.MethodName)) ∈ TB := inTB3 103 (by decide +kernel) (by decide +kernel)
theorem tb3_105 : (Jvm.Cond.instanceMethod ({ cls := "StageCycles$Line", name := "fetch", desc := "()V" } : Jvm.MethodName)) ∈ TB := inTB3 105 (by decide +kernel) (by decide +kernel)
theorem tb3_106 : (Jvm.Cond.code ({ cls := "StageCycles$Line", name := "fetch", desc := "()V" } : Jvm.MethodName) prog_3_method_12_code (5 : Nat) (Option.none : Option Jvm.ClassFile.FieldType)) ∈ TB := inTB3 106 (by decide +kernel) (by decide +kernel)
theorem tb3_107 : (Jvm.Cond.methodLink "StageCycles$Line" (196 : Nat) ({ cls := "StageCycles$PlainRun", name := "goes", desc := "(I)Z" } : Jvm.MethodName)) ∈ TB := inTB3 107 (by decide +kernel) (by decide +kernel)
theorem tb3_108 : (Jvm.Cond.instanceMethod ({ cls := "StageCycles$PlainRun", name := "goes", desc := "(I)Z" } : Jvm.MethodName)) ∈ TB := inTB3 108 (by decide +kernel) (by decide +kernel)
theorem tb3_109 : (Jvm.Cond.selects "StageCycles$PlainRun" ({ cls := "StageCycles$PlainRun", name := "goes", desc := "(I)Z" } : Jvm.MethodName) ({ cls := "StageCycles$PlainRun", name := "goes", desc := "(I)Z" } : Jvm.MethodName)) ∈ TB := inTB3 109 (by decide +kernel) (by decide +kernel)
theorem tb3_110 : (Jvm.Cond.code ({ cls := "StageCycles$PlainRun", name := "goes", desc := "(I)Z" } : Jvm.MethodName) prog_4_method_5_code (2 : Nat) (Option.some Jvm.ClassFile.FieldType.boolean)) ∈ TB := inTB3 110 (by decide +kernel) (by decide +kernel)
theorem tb3_111 : (Jvm.Cond.methodLink "StageCycles$Line" (199 : Nat) ({ cls := "StageCycles$Slots", name := "put", desc := "(IIZZ)V" } : Jvm.MethodName)) ∈ TB := inTB3 111 (by decide +kernel) (by decide +kernel)
theorem tb3_112 : (Jvm.Cond.methodLink "StageCycles$Line" (206 : Nat) ({ cls := "StageCycles$Program", name := "behind", desc := "(I)I" } : Jvm.MethodName)) ∈ TB := inTB3 112 (by decide +kernel) (by decide +kernel)
theorem tb3_113 : (Jvm.Cond.instanceMethod ({ cls := "StageCycles$Program", name := "behind", desc := "(I)I" } : Jvm.MethodName)) ∈ TB := inTB3 113 (by decide +kernel) (by decide +kernel)
theorem tb3_114 : (Jvm.Cond.selects "StageCycles$Program" ({ cls := "StageCycles$Program", name := "behind", desc := "(I)I" } : Jvm.MethodName) ({ cls := "StageCycles$Program", name := "behind", desc := "(I)I" } : Jvm.MethodName)) ∈ TB := inTB3 114 (by decide +kernel) (by decide +kernel)
theorem tb3_115 : (Jvm.Cond.code ({ cls := "StageCycles$Program", name := "behind", desc := "(I)I" } : Jvm.MethodName) prog_5_method_13_code (2 : Nat) (Option.some Jvm.ClassFile.FieldType.int)) ∈ TB := inTB3 115 (by decide +kernel) (by decide +kernel)
theorem tb3_116 : (Jvm.Cond.methodLink "StageCycles$Line" (94 : Nat) ({ cls := "StageCycles$Tally", name := "addCause", desc := "(I)V" } : Jvm.MethodName)) ∈ TB := inTB3 116 (by decide +kernel) (by decide +kernel)
theorem tb3_117 : (Jvm.Cond.instanceMethod ({ cls := "StageCycles$Tally", name := "addCause", desc := "(I)V" } : Jvm.MethodName)) ∈ TB := inTB3 117 (by decide +kernel) (by decide +kernel)
theorem tb3_118 : (Jvm.Cond.selects "StageCycles$Tally" ({ cls := "StageCycles$Tally", name := "addCause", desc := "(I)V" } : Jvm.MethodName) ({ cls := "StageCycles$Tally", name := "addCause", desc := "(I)V" } : Jvm.MethodName)) ∈ TB := inTB3 118 (by decide +kernel) (by decide +kernel)
theorem tb3_119 : (Jvm.Cond.code ({ cls := "StageCycles$Tally", name := "addCause", desc := "(I)V" } : Jvm.MethodName) prog_8_method_3_code (2 : Nat) (Option.none : Option Jvm.ClassFile.FieldType)) ∈ TB := inTB3 119 (by decide +kernel) (by decide +kernel)
theorem tb3_120 : (Jvm.Cond.methodLink "StageCyclesLaw" (77 : Nat) ({ cls := "StageCyclesLaw", name := "stage", desc := "(LStageCycles;II[J)I" } : Jvm.MethodName)) ∈ TB := inTB3 120 (by decide +kernel) (by decide +kernel)
theorem tb3_121 : (Jvm.Cond.static ({ cls := "StageCyclesLaw", name := "stage", desc := "(LStageCycles;II[J)I" } : Jvm.MethodName)) ∈ TB := inTB3 121 (by decide +kernel) (by decide +kernel)
theorem tb3_122 : (Jvm.Cond.codeWith ({ cls := "StageCyclesLaw", name := "stage", desc := "(LStageCycles;II[J)I" } : Jvm.MethodName) method_6_code (5 : Nat) (Option.some Jvm.ClassFile.FieldType.int) [((0 : Nat), (10 : Nat), (13 : Nat), (31 : Nat))]) ∈ TB := inTB3 122 (by decide +kernel) (by decide +kernel)
theorem tb3_123 : (Jvm.Cond.classLink "StageCyclesLaw" (31 : Nat) "java/lang/IndexOutOfBoundsException") ∈ TB := inTB3 123 (by decide +kernel) (by decide +kernel)
theorem tb3_124 : (Jvm.Cond.methodLink "StageCyclesLaw" (27 : Nat) ({ cls := "StageCycles", name := "stage", desc := "(II)I" } : Jvm.MethodName)) ∈ TB := inTB3 124 (by decide +kernel) (by decide +kernel)
theorem tb3_125 : (Jvm.Cond.instanceMethod ({ cls := "StageCycles", name := "stage", desc := "(II)I" } : Jvm.MethodName)) ∈ TB := inTB3 125 (by decide +kernel) (by decide +kernel)
theorem tb3_126 : (Jvm.Cond.selects "StageCycles" ({ cls := "StageCycles", name := "stage", desc := "(II)I" } : Jvm.MethodName) ({ cls := "StageCycles", name := "stage", desc := "(II)I" } : Jvm.MethodName)) ∈ TB := inTB3 126 (by decide +kernel) (by decide +kernel)
theorem tb3_127 : (Jvm.Cond.code ({ cls := "StageCycles", name := "stage", desc := "(II)I" } : Jvm.MethodName) prog_1_method_6_code (3 : Nat) (Option.some Jvm.ClassFile.FieldType.int)) ∈ TB := inTB3 127 (by decide +kernel) (by decide +kernel)
theorem tb3_128 : (Jvm.Cond.classLink "StageCycles" (103 : Nat) "java/lang/IndexOutOfBoundsException") ∈ TB := inTB3 128 (by decide +kernel) (by decide +kernel)
theorem tb3_129 : (Jvm.Cond.instantiable "java/lang/IndexOutOfBoundsException" (6 : Nat)) ∈ TB := inTB3 129 (by decide +kernel) (by decide +kernel)
theorem tb3_131 : (Jvm.Cond.selects "java/lang/IndexOutOfBoundsException" ({ cls := "java/lang/Throwable", name := "fillInStackTrace", desc := "(I)Ljava/lang/Throwable;" } : Jvm.MethodName) ({ cls := "java/lang/Throwable", name := "fillInStackTrace", desc := "(I)Ljava/lang/Throwable;" } : Jvm.MethodName)) ∈ TB := inTB3 131 (by decide +kernel) (by decide +kernel)
theorem tb3_138 : (Jvm.Cond.methodLink "StageCycles" (107 : Nat) ({ cls := "java/lang/IndexOutOfBoundsException", name := "<init>", desc := "(Ljava/lang/String;)V" } : Jvm.MethodName)) ∈ TB := inTB3 138 (by decide +kernel) (by decide +kernel)
theorem tb3_139 : (Jvm.Cond.instanceMethod ({ cls := "java/lang/IndexOutOfBoundsException", name := "<init>", desc := "(Ljava/lang/String;)V" } : Jvm.MethodName)) ∈ TB := inTB3 139 (by decide +kernel) (by decide +kernel)
theorem tb3_140 : (Jvm.Cond.code ({ cls := "java/lang/IndexOutOfBoundsException", name := "<init>", desc := "(Ljava/lang/String;)V" } : Jvm.MethodName) prog_14_method_2_code (2 : Nat) (Option.none : Option Jvm.ClassFile.FieldType)) ∈ TB := inTB3 140 (by decide +kernel) (by decide +kernel)
theorem tb3_141 : (Jvm.Cond.methodLink "java/lang/IndexOutOfBoundsException" (7 : Nat) ({ cls := "java/lang/RuntimeException", name := "<init>", desc := "(Ljava/lang/String;)V" } : Jvm.MethodName)) ∈ TB := inTB3 141 (by decide +kernel) (by decide +kernel)
theorem tb3_144 : (Jvm.Cond.methodLink "StageCycles" (112 : Nat) ({ cls := "StageCycles$Slots", name := "wordIn", desc := "(I)I" } : Jvm.MethodName)) ∈ TB := inTB3 144 (by decide +kernel) (by decide +kernel)
theorem tb3_145 : (Jvm.Cond.methodLink "StageCycles" (118 : Nat) ({ cls := "StageCycles$Slots", name := "isOnTheWay", desc := "(I)Z" } : Jvm.MethodName)) ∈ TB := inTB3 145 (by decide +kernel) (by decide +kernel)
theorem tb3_146 : (Jvm.Cond.methodLink "StageCyclesLaw" (81 : Nat) ({ cls := "StageCyclesLaw", name := "committed", desc := "(LStageCycles;II[J)I" } : Jvm.MethodName)) ∈ TB := inTB3 146 (by decide +kernel) (by decide +kernel)
theorem tb3_147 : (Jvm.Cond.static ({ cls := "StageCyclesLaw", name := "committed", desc := "(LStageCycles;II[J)I" } : Jvm.MethodName)) ∈ TB := inTB3 147 (by decide +kernel) (by decide +kernel)
theorem tb3_148 : (Jvm.Cond.codeWith ({ cls := "StageCyclesLaw", name := "committed", desc := "(LStageCycles;II[J)I" } : Jvm.MethodName) method_7_code (5 : Nat) (Option.some Jvm.ClassFile.FieldType.int) [((0 : Nat), (10 : Nat), (13 : Nat), (31 : Nat))]) ∈ TB := inTB3 148 (by decide +kernel) (by decide +kernel)
theorem tb3_149 : (Jvm.Cond.methodLink "StageCyclesLaw" (33 : Nat) ({ cls := "StageCycles", name := "committed", desc := "(II)I" } : Jvm.MethodName)) ∈ TB := inTB3 149 (by decide +kernel) (by decide +kernel)
theorem tb3_150 : (Jvm.Cond.instanceMethod ({ cls := "StageCycles", name := "committed", desc := "(II)I" } : Jvm.MethodName)) ∈ TB := inTB3 150 (by decide +kernel) (by decide +kernel)
theorem tb3_151 : (Jvm.Cond.selects "StageCycles" ({ cls := "StageCycles", name := "committed", desc := "(II)I" } : Jvm.MethodName) ({ cls := "StageCycles", name := "committed", desc := "(II)I" } : Jvm.MethodName)) ∈ TB := inTB3 151 (by decide +kernel) (by decide +kernel)
theorem tb3_152 : (Jvm.Cond.code ({ cls := "StageCycles", name := "committed", desc := "(II)I" } : Jvm.MethodName) prog_1_method_7_code (3 : Nat) (Option.some Jvm.ClassFile.FieldType.int)) ∈ TB := inTB3 152 (by decide +kernel) (by decide +kernel)
theorem tb3_153 : (Jvm.Cond.methodLink "StageCycles" (126 : Nat) ({ cls := "StageCycles$Journal", name := "size", desc := "()I" } : Jvm.MethodName)) ∈ TB := inTB3 153 (by decide +kernel) (by decide +kernel)
theorem tb3_154 : (Jvm.Cond.instanceMethod ({ cls := "StageCycles$Journal", name := "size", desc := "()I" } : Jvm.MethodName)) ∈ TB := inTB3 154 (by decide +kernel) (by decide +kernel)
theorem tb3_155 : (Jvm.Cond.selects "StageCycles$Journal" ({ cls := "StageCycles$Journal", name := "size", desc := "()I" } : Jvm.MethodName) ({ cls := "StageCycles$Journal", name := "size", desc := "()I" } : Jvm.MethodName)) ∈ TB := inTB3 155 (by decide +kernel) (by decide +kernel)
theorem tb3_156 : (Jvm.Cond.code ({ cls := "StageCycles$Journal", name := "size", desc := "()I" } : Jvm.MethodName) prog_2_method_3_code (1 : Nat) (Option.some Jvm.ClassFile.FieldType.int)) ∈ TB := inTB3 156 (by decide +kernel) (by decide +kernel)
theorem tb3_158 : (Jvm.Cond.methodLink "StageCycles" (131 : Nat) ({ cls := "StageCycles$Journal", name := "entry", desc := "(II)I" } : Jvm.MethodName)) ∈ TB := inTB3 158 (by decide +kernel) (by decide +kernel)
theorem tb3_159 : (Jvm.Cond.instanceMethod ({ cls := "StageCycles$Journal", name := "entry", desc := "(II)I" } : Jvm.MethodName)) ∈ TB := inTB3 159 (by decide +kernel) (by decide +kernel)
theorem tb3_160 : (Jvm.Cond.selects "StageCycles$Journal" ({ cls := "StageCycles$Journal", name := "entry", desc := "(II)I" } : Jvm.MethodName) ({ cls := "StageCycles$Journal", name := "entry", desc := "(II)I" } : Jvm.MethodName)) ∈ TB := inTB3 160 (by decide +kernel) (by decide +kernel)
theorem tb3_161 : (Jvm.Cond.code ({ cls := "StageCycles$Journal", name := "entry", desc := "(II)I" } : Jvm.MethodName) prog_2_method_5_code (4 : Nat) (Option.some Jvm.ClassFile.FieldType.int)) ∈ TB := inTB3 161 (by decide +kernel) (by decide +kernel)
theorem tb3_162 : (Jvm.Cond.methodLink "StageCyclesLaw" (84 : Nat) ({ cls := "StageCyclesLaw", name := "register", desc := "(LStageCycles;I[J)I" } : Jvm.MethodName)) ∈ TB := inTB3 162 (by decide +kernel) (by decide +kernel)
theorem tb3_163 : (Jvm.Cond.static ({ cls := "StageCyclesLaw", name := "register", desc := "(LStageCycles;I[J)I" } : Jvm.MethodName)) ∈ TB := inTB3 163 (by decide +kernel) (by decide +kernel)
theorem tb3_164 : (Jvm.Cond.codeWith ({ cls := "StageCyclesLaw", name := "register", desc := "(LStageCycles;I[J)I" } : Jvm.MethodName) method_8_code (4 : Nat) (Option.some Jvm.ClassFile.FieldType.int) [((0 : Nat), (9 : Nat), (12 : Nat), (31 : Nat))]) ∈ TB := inTB3 164 (by decide +kernel) (by decide +kernel)
theorem tb3_165 : (Jvm.Cond.methodLink "StageCyclesLaw" (36 : Nat) ({ cls := "StageCycles", name := "register", desc := "(I)I" } : Jvm.MethodName)) ∈ TB := inTB3 165 (by decide +kernel) (by decide +kernel)
theorem tb3_166 : (Jvm.Cond.instanceMethod ({ cls := "StageCycles", name := "register", desc := "(I)I" } : Jvm.MethodName)) ∈ TB := inTB3 166 (by decide +kernel) (by decide +kernel)
theorem tb3_167 : (Jvm.Cond.selects "StageCycles" ({ cls := "StageCycles", name := "register", desc := "(I)I" } : Jvm.MethodName) ({ cls := "StageCycles", name := "register", desc := "(I)I" } : Jvm.MethodName)) ∈ TB := inTB3 167 (by decide +kernel) (by decide +kernel)
theorem tb3_168 : (Jvm.Cond.code ({ cls := "StageCycles", name := "register", desc := "(I)I" } : Jvm.MethodName) prog_1_method_8_code (2 : Nat) (Option.some Jvm.ClassFile.FieldType.int)) ∈ TB := inTB3 168 (by decide +kernel) (by decide +kernel)
theorem tb3_169 : (Jvm.Cond.methodLink "StageCycles" (139 : Nat) ({ cls := "StageCycles$PlainRun", name := "valueOf", desc := "(I)I" } : Jvm.MethodName)) ∈ TB := inTB3 169 (by decide +kernel) (by decide +kernel)
theorem tb3_170 : (Jvm.Cond.methodLink "StageCyclesLaw" (87 : Nat) ({ cls := "StageCyclesLaw", name := "memory", desc := "(LStageCycles;I[J)I" } : Jvm.MethodName)) ∈ TB := inTB3 170 (by decide +kernel) (by decide +kernel)
theorem tb3_171 : (Jvm.Cond.static ({ cls := "StageCyclesLaw", name := "memory", desc := "(LStageCycles;I[J)I" } : Jvm.MethodName)) ∈ TB := inTB3 171 (by decide +kernel) (by decide +kernel)
theorem tb3_172 : (Jvm.Cond.codeWith ({ cls := "StageCyclesLaw", name := "memory", desc := "(LStageCycles;I[J)I" } : Jvm.MethodName) method_9_code (4 : Nat) (Option.some Jvm.ClassFile.FieldType.int) [((0 : Nat), (9 : Nat), (12 : Nat), (31 : Nat))]) ∈ TB := inTB3 172 (by decide +kernel) (by decide +kernel)
theorem tb3_173 : (Jvm.Cond.methodLink "StageCyclesLaw" (39 : Nat) ({ cls := "StageCycles", name := "memory", desc := "(I)I" } : Jvm.MethodName)) ∈ TB := inTB3 173 (by decide +kernel) (by decide +kernel)
theorem tb3_174 : (Jvm.Cond.instanceMethod ({ cls := "StageCycles", name := "memory", desc := "(I)I" } : Jvm.MethodName)) ∈ TB := inTB3 174 (by decide +kernel) (by decide +kernel)
theorem tb3_175 : (Jvm.Cond.selects "StageCycles" ({ cls := "StageCycles", name := "memory", desc := "(I)I" } : Jvm.MethodName) ({ cls := "StageCycles", name := "memory", desc := "(I)I" } : Jvm.MethodName)) ∈ TB := inTB3 175 (by decide +kernel) (by decide +kernel)
theorem tb3_176 : (Jvm.Cond.code ({ cls := "StageCycles", name := "memory", desc := "(I)I" } : Jvm.MethodName) prog_1_method_9_code (2 : Nat) (Option.some Jvm.ClassFile.FieldType.int)) ∈ TB := inTB3 176 (by decide +kernel) (by decide +kernel)
theorem tb3_178 : (Jvm.Cond.methodLink "StageCycles" (146 : Nat) ({ cls := "StageCycles$PlainRun", name := "valueAt", desc := "(I)I" } : Jvm.MethodName)) ∈ TB := inTB3 178 (by decide +kernel) (by decide +kernel)
theorem tb3_179 : (Jvm.Cond.methodLink "StageCyclesLaw" (90 : Nat) ({ cls := "StageCyclesLaw", name := "cause", desc := "(LStageCycles;I[J)I" } : Jvm.MethodName)) ∈ TB := inTB3 179 (by decide +kernel) (by decide +kernel)
theorem tb3_180 : (Jvm.Cond.static ({ cls := "StageCyclesLaw", name := "cause", desc := "(LStageCycles;I[J)I" } : Jvm.MethodName)) ∈ TB := inTB3 180 (by decide +kernel) (by decide +kernel)
theorem tb3_181 : (Jvm.Cond.codeWith ({ cls := "StageCyclesLaw", name := "cause", desc := "(LStageCycles;I[J)I" } : Jvm.MethodName) method_10_code (4 : Nat) (Option.some Jvm.ClassFile.FieldType.int) [((0 : Nat), (9 : Nat), (12 : Nat), (31 : Nat))]) ∈ TB := inTB3 181 (by decide +kernel) (by decide +kernel)
theorem tb3_182 : (Jvm.Cond.methodLink "StageCyclesLaw" (42 : Nat) ({ cls := "StageCycles", name := "cause", desc := "(I)I" } : Jvm.MethodName)) ∈ TB := inTB3 182 (by decide +kernel) (by decide +kernel)
theorem tb3_183 : (Jvm.Cond.instanceMethod ({ cls := "StageCycles", name := "cause", desc := "(I)I" } : Jvm.MethodName)) ∈ TB := inTB3 183 (by decide +kernel) (by decide +kernel)
theorem tb3_184 : (Jvm.Cond.selects "StageCycles" ({ cls := "StageCycles", name := "cause", desc := "(I)I" } : Jvm.MethodName) ({ cls := "StageCycles", name := "cause", desc := "(I)I" } : Jvm.MethodName)) ∈ TB := inTB3 184 (by decide +kernel) (by decide +kernel)
theorem tb3_185 : (Jvm.Cond.code ({ cls := "StageCycles", name := "cause", desc := "(I)I" } : Jvm.MethodName) prog_1_method_10_code (2 : Nat) (Option.some Jvm.ClassFile.FieldType.int)) ∈ TB := inTB3 185 (by decide +kernel) (by decide +kernel)
theorem tb3_187 : (Jvm.Cond.methodLink "StageCycles" (151 : Nat) ({ cls := "StageCycles$Tally", name := "cyclesWith", desc := "(I)I" } : Jvm.MethodName)) ∈ TB := inTB3 187 (by decide +kernel) (by decide +kernel)
theorem tb3_188 : (Jvm.Cond.instanceMethod ({ cls := "StageCycles$Tally", name := "cyclesWith", desc := "(I)I" } : Jvm.MethodName)) ∈ TB := inTB3 188 (by decide +kernel) (by decide +kernel)
theorem tb3_189 : (Jvm.Cond.selects "StageCycles$Tally" ({ cls := "StageCycles$Tally", name := "cyclesWith", desc := "(I)I" } : Jvm.MethodName) ({ cls := "StageCycles$Tally", name := "cyclesWith", desc := "(I)I" } : Jvm.MethodName)) ∈ TB := inTB3 189 (by decide +kernel) (by decide +kernel)
theorem tb3_190 : (Jvm.Cond.code ({ cls := "StageCycles$Tally", name := "cyclesWith", desc := "(I)I" } : Jvm.MethodName) prog_8_method_4_code (2 : Nat) (Option.some Jvm.ClassFile.FieldType.int)) ∈ TB := inTB3 190 (by decide +kernel) (by decide +kernel)
theorem tb3_191 : (Jvm.Cond.classLink "StageCyclesLaw" (54 : Nat) "StageCyclesModel") ∈ TB := inTB3 191 (by decide +kernel) (by decide +kernel)
theorem tb3_192 : (Jvm.Cond.instantiable "StageCyclesModel" (41 : Nat)) ∈ TB := inTB3 192 (by decide +kernel) (by decide +kernel)
theorem tb3_193 : (Jvm.Cond.methodLink "StageCyclesLaw" (56 : Nat) ({ cls := "StageCyclesModel", name := "<init>", desc := "(IIIIII)V" } : Jvm.MethodName)) ∈ TB := inTB3 193 (by decide +kernel) (by decide +kernel)
theorem tb3_194 : (Jvm.Cond.instanceMethod ({ cls := "StageCyclesModel", name := "<init>", desc := "(IIIIII)V" } : Jvm.MethodName)) ∈ TB := inTB3 194 (by decide +kernel) (by decide +kernel)
theorem tb3_195 : (Jvm.Cond.code ({ cls := "StageCyclesModel", name := "<init>", desc := "(IIIIII)V" } : Jvm.MethodName) prog_10_method_1_code (7 : Nat) (Option.none : Option Jvm.ClassFile.FieldType)) ∈ TB := inTB3 195 (by decide +kernel) (by decide +kernel)
theorem tb3_196 : (Jvm.Cond.methodLink "StageCyclesModel" (1 : Nat) ({ cls := "java/lang/Object", name := "<init>", desc := "()V" } : Jvm.MethodName)) ∈ TB := inTB3 196 (by decide +kernel) (by decide +kernel)
theorem tb3_197 : (Jvm.Cond.methodLink "StageCyclesModel" (75 : Nat) ({ cls := "StageCyclesModel", name := "modulo", desc := "(II)I" } : Jvm.MethodName)) ∈ TB := inTB3 197 (by decide +kernel) (by decide +kernel)
theorem tb3_198 : (Jvm.Cond.static ({ cls := "StageCyclesModel", name := "modulo", desc := "(II)I" } : Jvm.MethodName)) ∈ TB := inTB3 198 (by decide +kernel) (by decide +kernel)
theorem tb3_199 : (Jvm.Cond.code ({ cls := "StageCyclesModel", name := "modulo", desc := "(II)I" } : Jvm.MethodName) prog_10_method_2_code (2 : Nat) (Option.some Jvm.ClassFile.FieldType.int)) ∈ TB := inTB3 199 (by decide +kernel) (by decide +kernel)
theorem tb3_200 : (Jvm.Cond.methodLink "StageCyclesModel" (98 : Nat) ({ cls := "StageCyclesModel", name := "begin", desc := "()V" } : Jvm.MethodName)) ∈ TB := inTB3 200 (by decide +kernel) (by decide +kernel)
theorem tb3_202 : (Jvm.Cond.instanceMethod ({ cls := "StageCyclesModel", name := "begin", desc := "()V" } : Jvm.MethodName)) ∈ TB := inTB3 202 (by decide +kernel) (by decide +kernel)
theorem tb3_203 : (Jvm.Cond.code ({ cls := "StageCyclesModel", name := "begin", desc := "()V" } : Jvm.MethodName) prog_10_method_6_code (2 : Nat) (Option.none : Option Jvm.ClassFile.FieldType)) ∈ TB := inTB3 203 (by decide +kernel) (by decide +kernel)
theorem tb3_204 : (Jvm.Cond.fieldLink "StageCyclesModel" (101 : Nat) "StageCyclesModel" "thrown" "I") ∈ TB := inTB3 204 (by decide +kernel) (by decide +kernel)
theorem tb3_205 : (Jvm.Cond.fieldLink "StageCyclesModel" (79 : Nat) "StageCyclesModel" "stages" "I") ∈ TB := inTB3 205 (by decide +kernel) (by decide +kernel)
theorem tb3_206 : (Jvm.Cond.fieldLink "StageCyclesModel" (83 : Nat) "StageCyclesModel" "reading" "I") ∈ TB := inTB3 206 (by decide +kernel) (by decide +kernel)
theorem tb3_207 : (Jvm.Cond.fieldLink "StageCyclesModel" (86 : Nat) "StageCyclesModel" "alu" "I") ∈ TB := inTB3 207 (by decide +kernel) (by decide +kernel)
theorem tb3_208 : (Jvm.Cond.fieldLink "StageCyclesModel" (89 : Nat) "StageCyclesModel" "load" "I") ∈ TB := inTB3 208 (by decide +kernel) (by decide +kernel)
theorem tb3_209 : (Jvm.Cond.fieldLink "StageCyclesModel" (92 : Nat) "StageCyclesModel" "branch" "I") ∈ TB := inTB3 209 (by decide +kernel) (by decide +kernel)
theorem tb3_210 : (Jvm.Cond.fieldLink "StageCyclesModel" (95 : Nat) "StageCyclesModel" "mul" "I") ∈ TB := inTB3 210 (by decide +kernel) (by decide +kernel)
theorem tb3_211 : (Jvm.Cond.fieldLink "StageCyclesModel" (7 : Nat) "StageCyclesModel" "forward" "Z") ∈ TB := inTB3 211 (by decide +kernel) (by decide +kernel)
theorem tb3_212 : (Jvm.Cond.fieldLink "StageCyclesModel" (149 : Nat) "StageCyclesModel" "handler" "I") ∈ TB := inTB3 212 (by decide +kernel) (by decide +kernel)
theorem tb3_213 : (Jvm.Cond.fieldLink "StageCyclesModel" (104 : Nat) "StageCyclesModel" "words" "I") ∈ TB := inTB3 213 (by decide +kernel) (by decide +kernel)
theorem tb3_214 : (Jvm.Cond.fieldLink "StageCyclesModel" (13 : Nat) "StageCyclesModel" "kind" "[I") ∈ TB := inTB3 214 (by decide +kernel) (by decide +kernel)
theorem tb3_215 : (Jvm.Cond.fieldLink "StageCyclesModel" (17 : Nat) "StageCyclesModel" "d" "[I") ∈ TB := inTB3 215 (by decide +kernel) (by decide +kernel)
theorem tb3_216 : (Jvm.Cond.fieldLink "StageCyclesModel" (20 : Nat) "StageCyclesModel" "a" "[I") ∈ TB := inTB3 216 (by decide +kernel) (by decide +kernel)
theorem tb3_217 : (Jvm.Cond.fieldLink "StageCyclesModel" (23 : Nat) "StageCyclesModel" "b" "[I") ∈ TB := inTB3 217 (by decide +kernel) (by decide +kernel)
theorem tb3_218 : (Jvm.Cond.fieldLink "StageCyclesModel" (26 : Nat) "StageCyclesModel" "n" "[I") ∈ TB := inTB3 218 (by decide +kernel) (by decide +kernel)
theorem tb3_219 : (Jvm.Cond.fieldLink "StageCyclesModel" (29 : Nat) "StageCyclesModel" "word" "[I") ∈ TB := inTB3 219 (by decide +kernel) (by decide +kernel)
theorem tb3_220 : (Jvm.Cond.fieldLink "StageCyclesModel" (32 : Nat) "StageCyclesModel" "onWay" "[Z") ∈ TB := inTB3 220 (by decide +kernel) (by decide +kernel)
theorem tb3_221 : (Jvm.Cond.fieldLink "StageCyclesModel" (36 : Nat) "StageCyclesModel" "begun" "[Z") ∈ TB := inTB3 221 (by decide +kernel) (by decide +kernel)
theorem tb3_222 : (Jvm.Cond.fieldLink "StageCyclesModel" (39 : Nat) "StageCyclesModel" "worked" "[I") ∈ TB := inTB3 222 (by decide +kernel) (by decide +kernel)
theorem tb3_223 : (Jvm.Cond.fieldLink "StageCyclesModel" (42 : Nat) "StageCyclesModel" "value" "[I") ∈ TB := inTB3 223 (by decide +kernel) (by decide +kernel)
theorem tb3_224 : (Jvm.Cond.fieldLink "StageCyclesModel" (45 : Nat) "StageCyclesModel" "place" "[I") ∈ TB := inTB3 224 (by decide +kernel) (by decide +kernel)
theorem tb3_225 : (Jvm.Cond.fieldLink "StageCyclesModel" (48 : Nat) "StageCyclesModel" "elsewhere" "[I") ∈ TB := inTB3 225 (by decide +kernel) (by decide +kernel)
theorem tb3_226 : (Jvm.Cond.fieldLink "StageCyclesModel" (51 : Nat) "StageCyclesModel" "ahead" "[I") ∈ TB := inTB3 226 (by decide +kernel) (by decide +kernel)
theorem tb3_227 : (Jvm.Cond.fieldLink "StageCyclesModel" (54 : Nat) "StageCyclesModel" "aheadMemory" "[I") ∈ TB := inTB3 227 (by decide +kernel) (by decide +kernel)
theorem tb3_228 : (Jvm.Cond.fieldLink "StageCyclesModel" (57 : Nat) "StageCyclesModel" "register" "[I") ∈ TB := inTB3 228 (by decide +kernel) (by decide +kernel)
theorem tb3_229 : (Jvm.Cond.fieldLink "StageCyclesModel" (60 : Nat) "StageCyclesModel" "memory" "[I") ∈ TB := inTB3 229 (by decide +kernel) (by decide +kernel)
theorem tb3_230 : (Jvm.Cond.fieldLink "StageCyclesModel" (107 : Nat) "StageCyclesModel" "next" "I") ∈ TB := inTB3 230 (by decide +kernel) (by decide +kernel)
theorem tb3_231 : (Jvm.Cond.fieldLink "StageCyclesModel" (110 : Nat) "StageCyclesModel" "isAstray" "Z") ∈ TB := inTB3 231 (by decide +kernel) (by decide +kernel)
theorem tb3_232 : (Jvm.Cond.fieldLink "StageCyclesModel" (113 : Nat) "StageCyclesModel" "stopFetched" "Z") ∈ TB := inTB3 232 (by decide +kernel) (by decide +kernel)
theorem tb3_233 : (Jvm.Cond.fieldLink "StageCyclesModel" (116 : Nat) "StageCyclesModel" "stopLeft" "Z") ∈ TB := inTB3 233 (by decide +kernel) (by decide +kernel)
theorem tb3_234 : (Jvm.Cond.fieldLink "StageCyclesModel" (164 : Nat) "StageCyclesModel" "mayFetch" "Z") ∈ TB := inTB3 234 (by decide +kernel) (by decide +kernel)
theorem tb3_235 : (Jvm.Cond.fieldLink "StageCyclesModel" (119 : Nat) "StageCyclesModel" "cycles" "I") ∈ TB := inTB3 235 (by decide +kernel) (by decide +kernel)
theorem tb3_236 : (Jvm.Cond.fieldLink "StageCyclesModel" (122 : Nat) "StageCyclesModel" "commits" "I") ∈ TB := inTB3 236 (by decide +kernel) (by decide +kernel)
theorem tb3_237 : (Jvm.Cond.fieldLink "StageCyclesModel" (125 : Nat) "StageCyclesModel" "fetched" "I") ∈ TB := inTB3 237 (by decide +kernel) (by decide +kernel)
theorem tb3_238 : (Jvm.Cond.fieldLink "StageCyclesModel" (128 : Nat) "StageCyclesModel" "squashed" "I") ∈ TB := inTB3 238 (by decide +kernel) (by decide +kernel)
theorem tb3_239 : (Jvm.Cond.fieldLink "StageCyclesModel" (131 : Nat) "StageCyclesModel" "faults" "I") ∈ TB := inTB3 239 (by decide +kernel) (by decide +kernel)
theorem tb4_0 : (Jvm.Cond.fieldLink "StageCyclesModel" (134 : Nat) "StageCyclesModel" "turns" "I") ∈ TB := inTB4 0 (by decide +kernel) (by decide +kernel)
theorem tb4_1 : (Jvm.Cond.fieldLink "StageCyclesModel" (63 : Nat) "StageCyclesModel" "causes" "[I") ∈ TB := inTB4 1 (by decide +kernel) (by decide +kernel)
theorem tb4_2 : (Jvm.Cond.fieldLink "StageCyclesModel" (66 : Nat) "StageCyclesModel" "keptWord" "[I") ∈ TB := inTB4 2 (by decide +kernel) (by decide +kernel)
theorem tb4_3 : (Jvm.Cond.fieldLink "StageCyclesModel" (69 : Nat) "StageCyclesModel" "keptCycle" "[I") ∈ TB := inTB4 3 (by decide +kernel) (by decide +kernel)
theorem tb4_4 : (Jvm.Cond.fieldLink "StageCyclesModel" (72 : Nat) "StageCyclesModel" "keptValue" "[I") ∈ TB := inTB4 4 (by decide +kernel) (by decide +kernel)
theorem tb4_88 : (Jvm.Cond.methodLink "StageCyclesLaw" (61 : Nat) ({ cls := "StageCyclesModel", name := "thrown", desc := "()I" } : Jvm.MethodName)) ∈ TB := inTB4 88 (by decide +kernel) (by decide +kernel)
theorem tb4_89 : (Jvm.Cond.instanceMethod ({ cls := "StageCyclesModel", name := "thrown", desc := "()I" } : Jvm.MethodName)) ∈ TB := inTB4 89 (by decide +kernel) (by decide +kernel)
theorem tb4_90 : (Jvm.Cond.selects "StageCyclesModel" ({ cls := "StageCyclesModel", name := "thrown", desc := "()I" } : Jvm.MethodName) ({ cls := "StageCyclesModel", name := "thrown", desc := "()I" } : Jvm.MethodName)) ∈ TB := inTB4 90 (by decide +kernel) (by decide +kernel)
theorem tb4_91 : (Jvm.Cond.code ({ cls := "StageCyclesModel", name := "thrown", desc := "()I" } : Jvm.MethodName) prog_10_method_3_code (1 : Nat) (Option.some Jvm.ClassFile.FieldType.int)) ∈ TB := inTB4 91 (by decide +kernel) (by decide +kernel)
theorem tb4_92 : (Jvm.Cond.methodLink "StageCyclesLaw" (60 : Nat) ({ cls := "StageCyclesModel", name := "word", desc := "(IIIII)I" } : Jvm.MethodName)) ∈ TB := inTB4 92 (by decide +kernel) (by decide +kernel)
theorem tb4_93 : (Jvm.Cond.instanceMethod ({ cls := "StageCyclesModel", name := "word", desc := "(IIIII)I" } : Jvm.MethodName)) ∈ TB := inTB4 93 (by decide +kernel) (by decide +kernel)
theorem tb4_94 : (Jvm.Cond.selects "StageCyclesModel" ({ cls := "StageCyclesModel", name := "word", desc := "(IIIII)I" } : Jvm.MethodName) ({ cls := "StageCyclesModel", name := "word", desc := "(IIIII)I" } : Jvm.MethodName)) ∈ TB := inTB4 94 (by decide +kernel) (by decide +kernel)
theorem tb4_95 : (Jvm.Cond.code ({ cls := "StageCyclesModel", name := "word", desc := "(IIIII)I" } : Jvm.MethodName) prog_10_method_8_code (6 : Nat) (Option.some Jvm.ClassFile.FieldType.int)) ∈ TB := inTB4 95 (by decide +kernel) (by decide +kernel)
theorem tb4_96 : (Jvm.Cond.methodLink "StageCyclesModel" (137 : Nat) ({ cls := "StageCyclesModel", name := "within", desc := "(III)Z" } : Jvm.MethodName)) ∈ TB := inTB4 96 (by decide +kernel) (by decide +kernel)
theorem tb4_97 : (Jvm.Cond.static ({ cls := "StageCyclesModel", name := "within", desc := "(III)Z" } : Jvm.MethodName)) ∈ TB := inTB4 97 (by decide +kernel) (by decide +kernel)
theorem tb4_98 : (Jvm.Cond.code ({ cls := "StageCyclesModel", name := "within", desc := "(III)Z" } : Jvm.MethodName) prog_10_method_5_code (3 : Nat) (Option.some Jvm.ClassFile.FieldType.boolean)) ∈ TB := inTB4 98 (by decide +kernel) (by decide +kernel)
theorem tb4_99 : (Jvm.Cond.methodLink "StageCyclesModel" (141 : Nat) ({ cls := "StageCyclesModel", name := "isRegister", desc := "(I)Z" } : Jvm.MethodName)) ∈ TB := inTB4 99 (by decide +kernel) (by decide +kernel)
theorem tb4_100 : (Jvm.Cond.static ({ cls := "StageCyclesModel", name := "isRegister", desc := "(I)Z" } : Jvm.MethodName)) ∈ TB := inTB4 100 (by decide +kernel) (by decide +kernel)
theorem tb4_101 : (Jvm.Cond.code ({ cls := "StageCyclesModel", name := "isRegister", desc := "(I)Z" } : Jvm.MethodName) prog_10_method_7_code (1 : Nat) (Option.some Jvm.ClassFile.FieldType.boolean)) ∈ TB := inTB4 101 (by decide +kernel) (by decide +kernel)
theorem tb4_102 : (Jvm.Cond.methodLink "StageCyclesModel" (145 : Nat) ({ cls := "StageCyclesModel", name := "fail", desc := "(I)I" } : Jvm.MethodName)) ∈ TB := inTB4 102 (by decide +kernel) (by decide +kernel)
theorem tb4_104 : (Jvm.Cond.instanceMethod ({ cls := "StageCyclesModel", name := "fail", desc := "(I)I" } : Jvm.MethodName)) ∈ TB := inTB4 104 (by decide +kernel) (by decide +kernel)
theorem tb4_105 : (Jvm.Cond.code ({ cls := "StageCyclesModel", name := "fail", desc := "(I)I" } : Jvm.MethodName) prog_10_method_4_code (2 : Nat) (Option.some Jvm.ClassFile.FieldType.int)) ∈ TB := inTB4 105 (by decide +kernel) (by decide +kernel)
theorem tb4_106 : (Jvm.Cond.methodLink "StageCyclesLaw" (68 : Nat) ({ cls := "StageCyclesModel", name := "set", desc := "(ZI)Z" } : Jvm.MethodName)) ∈ TB := inTB4 106 (by decide +kernel) (by decide +kernel)
theorem tb4_107 : (Jvm.Cond.instanceMethod ({ cls := "StageCyclesModel", name := "set", desc := "(ZI)Z" } : Jvm.MethodName)) ∈ TB := inTB4 107 (by decide +kernel) (by decide +kernel)
theorem tb4_108 : (Jvm.Cond.selects "StageCyclesModel" ({ cls := "StageCyclesModel", name := "set", desc := "(ZI)Z" } : Jvm.MethodName) ({ cls := "StageCyclesModel", name := "set", desc := "(ZI)Z" } : Jvm.MethodName)) ∈ TB := inTB4 108 (by decide +kernel) (by decide +kernel)
theorem tb4_109 : (Jvm.Cond.code ({ cls := "StageCyclesModel", name := "set", desc := "(ZI)Z" } : Jvm.MethodName) prog_10_method_9_code (4 : Nat) (Option.some Jvm.ClassFile.FieldType.boolean)) ∈ TB := inTB4 109 (by decide +kernel) (by decide +kernel)
theorem tb4_110 : (Jvm.Cond.methodLink "StageCyclesLaw" (72 : Nat) ({ cls := "StageCyclesModel", name := "clear", desc := "()I" } : Jvm.MethodName)) ∈ TB := inTB4 110 (by decide +kernel) (by decide +kernel)
theorem tb4_111 : (Jvm.Cond.instanceMethod ({ cls := "StageCyclesModel", name := "clear", desc := "()I" } : Jvm.MethodName)) ∈ TB := inTB4 111 (by decide +kernel) (by decide +kernel)
theorem tb4_112 : (Jvm.Cond.selects "StageCyclesModel" ({ cls := "StageCyclesModel", name := "clear", desc := "()I" } : Jvm.MethodName) ({ cls := "StageCyclesModel", name := "clear", desc := "()I" } : Jvm.MethodName)) ∈ TB := inTB4 112 (by decide +kernel) (by decide +kernel)
theorem tb4_113 : (Jvm.Cond.code ({ cls := "StageCyclesModel", name := "clear", desc := "()I" } : Jvm.MethodName) prog_10_method_10_code (2 : Nat) (Option.some Jvm.ClassFile.FieldType.int)) ∈ TB := inTB4 113 (by decide +kernel) (by decide +kernel)
theorem tb4_114 : (Jvm.Cond.methodLink "StageCyclesLaw" (76 : Nat) ({ cls := "StageCyclesModel", name := "run", desc := "(I)I" } : Jvm.MethodName)) ∈ TB := inTB4 114 (by decide +kernel) (by decide +kernel)
theorem tb4_115 : (Jvm.Cond.instanceMethod ({ cls := "StageCyclesModel", name := "run", desc := "(I)I" } : Jvm.MethodName)) ∈ TB := inTB4 115 (by decide +kernel) (by decide +kernel)
theorem tb4_116 : (Jvm.Cond.selects "StageCyclesModel" ({ cls := "StageCyclesModel", name := "run", desc := "(I)I" } : Jvm.MethodName) ({ cls := "StageCyclesModel", name := "run", desc := "(I)I" } : Jvm.MethodName)) ∈ TB := inTB4 116 (by decide +kernel) (by decide +kernel)
theorem tb4_117 : (Jvm.Cond.code ({ cls := "StageCyclesModel", name := "run", desc := "(I)I" } : Jvm.MethodName) prog_10_method_28_code (3 : Nat) (Option.some Jvm.ClassFile.FieldType.int)) ∈ TB := inTB4 117 (by decide +kernel) (by decide +kernel)
theorem tb4_118 : (Jvm.Cond.methodLink "StageCyclesModel" (206 : Nat) ({ cls := "StageCyclesModel", name := "cycle", desc := "()V" } : Jvm.MethodName)) ∈ TB := inTB4 118 (by decide +kernel) (by decide +kernel)
theorem tb4_120 : (Jvm.Cond.instanceMethod ({ cls := "StageCyclesModel", name := "cycle", desc := "()V" } : Jvm.MethodName)) ∈ TB := inTB4 120 (by decide +kernel) (by decide +kernel)
theorem tb4_121 : (Jvm.Cond.code ({ cls := "StageCyclesModel", name := "cycle", desc := "()V" } : Jvm.MethodName) prog_10_method_27_code (3 : Nat) (Option.none : Option Jvm.ClassFile.FieldType)) ∈ TB := inTB4 121 (by decide +kernel) (by decide +kernel)
theorem tb4_122 : (Jvm.Cond.methodLink "StageCyclesModel" (197 : Nat) ({ cls := "StageCyclesModel", name := "leave", desc := "()I" } : Jvm.MethodName)) ∈ TB := inTB4 122 (by decide +kernel) (by decide +kernel)
theorem tb4_124 : (Jvm.Cond.instanceMethod ({ cls := "StageCyclesModel", name := "leave", desc := "()I" } : Jvm.MethodName)) ∈ TB := inTB4 124 (by decide +kernel) (by decide +kernel)
theorem tb4_125 : (Jvm.Cond.code ({ cls := "StageCyclesModel", name := "leave", desc := "()I" } : Jvm.MethodName) prog_10_method_20_code (3 : Nat) (Option.some Jvm.ClassFile.FieldType.int)) ∈ TB := inTB4 125 (by decide +kernel) (by decide +kernel)
theorem tb4_126 : (Jvm.Cond.methodLink "StageCyclesModel" (167 : Nat) ({ cls := "StageCyclesModel", name := "squash", desc := "(II)V" } : Jvm.MethodName)) ∈ TB := inTB4 126 (by decide +kernel) (by decide +kernel)
theorem tb4_128 : (Jvm.Cond.instanceMethod ({ cls := "StageCyclesModel", name := "squash", desc := "(II)V" } : Jvm.MethodName)) ∈ TB := inTB4 128 (by decide +kernel) (by decide +kernel)
theorem tb4_129 : (Jvm.Cond.code ({ cls := "StageCyclesModel", name := "squash", desc := "(II)V" } : Jvm.MethodName) prog_10_method_17_code (4 : Nat) (Option.none : Option Jvm.ClassFile.FieldType)) ∈ TB := inTB4 129 (by decide +kernel) (by decide +kernel)
theorem tb4_130 : (Jvm.Cond.methodLink "StageCyclesModel" (171 : Nat) ({ cls := "StageCyclesModel", name := "commit", desc := "(I)V" } : Jvm.MethodName)) ∈ TB := inTB4 130 (by decide +kernel) (by decide +kernel)
theorem tb4_132 : (Jvm.Cond.instanceMethod ({ cls := "StageCyclesModel", name := "commit", desc := "(I)V" } : Jvm.MethodName)) ∈ TB := inTB4 132 (by decide +kernel) (by decide +kernel)
theorem tb4_133 : (Jvm.Cond.code ({ cls := "StageCyclesModel", name := "commit", desc := "(I)V" } : Jvm.MethodName) prog_10_method_19_code (4 : Nat) (Option.none : Option Jvm.ClassFile.FieldType)) ∈ TB := inTB4 133 (by decide +kernel) (by decide +kernel)
theorem tb4_134 : (Jvm.Cond.methodLink "StageCyclesModel" (152 : Nat) ({ cls := "StageCyclesModel", name := "writes", desc := "(I)Z" } : Jvm.MethodName)) ∈ TB := inTB4 134 (by decide +kernel) (by decide +kernel)
theorem tb4_136 : (Jvm.Cond.instanceMethod ({ cls := "StageCyclesModel", name := "writes", desc := "(I)Z" } : Jvm.MethodName)) ∈ TB := inTB4 136 (by decide +kernel) (by decide +kernel)
theorem tb4_137 : (Jvm.Cond.code ({ cls := "StageCyclesModel", name := "writes", desc := "(I)Z" } : Jvm.MethodName) prog_10_method_11_code (2 : Nat) (Option.some Jvm.ClassFile.FieldType.boolean)) ∈ TB := inTB4 137 (by decide +kernel) (by decide +kernel)
theorem tb4_138 : (Jvm.Cond.methodLink "StageCyclesModel" (175 : Nat) ({ cls := "StageCyclesModel", name := "know", desc := "(II)V" } : Jvm.MethodName)) ∈ TB := inTB4 138 (by decide +kernel) (by decide +kernel)
theorem tb4_140 : (Jvm.Cond.instanceMethod ({ cls := "StageCyclesModel", name := "know", desc := "(II)V" } : Jvm.MethodName)) ∈ TB := inTB4 140 (by decide +kernel) (by decide +kernel)
theorem tb4_141 : (Jvm.Cond.code ({ cls := "StageCyclesModel", name := "know", desc := "(II)V" } : Jvm.MethodName) prog_10_method_18_code (3 : Nat) (Option.none : Option Jvm.ClassFile.FieldType)) ∈ TB := inTB4 141 (by decide +kernel) (by decide +kernel)
theorem tb4_142 : (Jvm.Cond.methodLink "StageCyclesModel" (200 : Nat) ({ cls := "StageCyclesModel", name := "goOn", desc := "()I" } : Jvm.MethodName)) ∈ TB := inTB4 142 (by decide +kernel) (by decide +kernel)
theorem tb4_144 : (Jvm.Cond.instanceMethod ({ cls := "StageCyclesModel", name := "goOn", desc := "()I" } : Jvm.MethodName)) ∈ TB := inTB4 144 (by decide +kernel) (by decide +kernel)
theorem tb4_145 : (Jvm.Cond.code ({ cls := "StageCyclesModel", name := "goOn", desc := "()I" } : Jvm.MethodName) prog_10_method_24_code (5 : Nat) (Option.some Jvm.ClassFile.FieldType.int)) ∈ TB := inTB4 145 (by decide +kernel) (by decide +kernel)
theorem tb4_146 : (Jvm.Cond.methodLink "StageCyclesModel" (184 : Nat) ({ cls := "StageCyclesModel", name := "work", desc := "()I" } : Jvm.MethodName)) ∈ TB := inTB4 146 (by decide +kernel) (by decide +kernel)
theorem tb4_148 : (Jvm.Cond.instanceMethod ({ cls := "StageCyclesModel", name := "work", desc := "()I" } : Jvm.MethodName)) ∈ TB := inTB4 148 (by decide +kernel) (by decide +kernel)
theorem tb4_149 : (Jvm.Cond.code ({ cls := "StageCyclesModel", name := "work", desc := "()I" } : Jvm.MethodName) prog_10_method_22_code (2 : Nat) (Option.some Jvm.ClassFile.FieldType.int)) ∈ TB := inTB4 149 (by decide +kernel) (by decide +kernel)
theorem tb4_150 : (Jvm.Cond.methodLink "StageCyclesModel" (178 : Nat) ({ cls := "StageCyclesModel", name := "isReady", desc := "(I)Z" } : Jvm.MethodName)) ∈ TB := inTB4 150 (by decide +kernel) (by decide +kernel)
theorem tb4_152 : (Jvm.Cond.instanceMethod ({ cls := "StageCyclesModel", name := "isReady", desc := "(I)Z" } : Jvm.MethodName)) ∈ TB := inTB4 152 (by decide +kernel) (by decide +kernel)
theorem tb4_153 : (Jvm.Cond.code ({ cls := "StageCyclesModel", name := "isReady", desc := "(I)Z" } : Jvm.MethodName) prog_10_method_15_code (2 : Nat) (Option.some Jvm.ClassFile.FieldType.boolean)) ∈ TB := inTB4 153 (by decide +kernel) (by decide +kernel)
theorem tb4_154 : (Jvm.Cond.methodLink "StageCyclesModel" (155 : Nat) ({ cls := "StageCyclesModel", name := "readsA", desc := "(I)Z" } : Jvm.MethodName)) ∈ TB := inTB4 154 (by decide +kernel) (by decide +kernel)
theorem tb4_156 : (Jvm.Cond.instanceMethod ({ cls := "StageCyclesModel", name := "readsA", desc := "(I)Z" } : Jvm.MethodName)) ∈ TB := inTB4 156 (by decide +kernel) (by decide +kernel)
theorem tb4_157 : (Jvm.Cond.code ({ cls := "StageCyclesModel", name := "readsA", desc := "(I)Z" } : Jvm.MethodName) prog_10_method_12_code (2 : Nat) (Option.some Jvm.ClassFile.FieldType.boolean)) ∈ TB := inTB4 157 (by decide +kernel) (by decide +kernel)
theorem tb4_158 : (Jvm.Cond.methodLink "StageCyclesModel" (158 : Nat) ({ cls := "StageCyclesModel", name := "isThere", desc := "(I)Z" } : Jvm.MethodName)) ∈ TB := inTB4 158 (by decide +kernel) (by decide +kernel)
theorem tb4_160 : (Jvm.Cond.instanceMethod ({ cls := "StageCyclesModel", name := "isThere", desc := "(I)Z" } : Jvm.MethodName)) ∈ TB := inTB4 160 (by decide +kernel) (by decide +kernel)
theorem tb4_161 : (Jvm.Cond.code ({ cls := "StageCyclesModel", name := "isThere", desc := "(I)Z" } : Jvm.MethodName) prog_10_method_14_code (3 : Nat) (Option.some Jvm.ClassFile.FieldType.boolean)) ∈ TB := inTB4 161 (by decide +kernel) (by decide +kernel)
theorem tb4_162 : (Jvm.Cond.methodLink "StageCyclesModel" (161 : Nat) ({ cls := "StageCyclesModel", name := "readsB", desc := "(I)Z" } : Jvm.MethodName)) ∈ TB := inTB4 162 (by decide +kernel) (by decide +kernel)
theorem tb4_164 : (Jvm.Cond.instanceMethod ({ cls := "StageCyclesModel", name := "readsB", desc := "(I)Z" } : Jvm.MethodName)) ∈ TB := inTB4 164 (by decide +kernel) (by decide +kernel)
theorem tb4_165 : (Jvm.Cond.code ({ cls := "StageCyclesModel", name := "readsB", desc := "(I)Z" } : Jvm.MethodName) prog_10_method_13_code (2 : Nat) (Option.some Jvm.ClassFile.FieldType.boolean)) ∈ TB := inTB4 165 (by decide +kernel) (by decide +kernel)
theorem tb4_166 : (Jvm.Cond.methodLink "StageCyclesModel" (181 : Nat) ({ cls := "StageCyclesModel", name := "cyclesOf", desc := "(I)I" } : Jvm.MethodName)) ∈ TB := inTB4 166 (by decide +kernel) (by decide +kernel)
theorem tb4_168 : (Jvm.Cond.instanceMethod ({ cls := "StageCyclesModel", name := "cyclesOf", desc := "(I)I" } : Jvm.MethodName)) ∈ TB := inTB4 168 (by decide +kernel) (by decide +kernel)
theorem tb4_169 : (Jvm.Cond.code ({ cls := "StageCyclesModel", name := "cyclesOf", desc := "(I)I" } : Jvm.MethodName) prog_10_method_21_code (2 : Nat) (Option.some Jvm.ClassFile.FieldType.int)) ∈ TB := inTB4 169 (by decide +kernel) (by decide +kernel)
theorem tb4_170 : (Jvm.Cond.methodLink "StageCyclesModel" (188 : Nat) ({ cls := "StageCyclesModel", name := "mayGo", desc := "(I)Z" } : Jvm.MethodName)) ∈ TB := inTB4 170 (by decide +kernel) (by decide +kernel)
theorem tb4_172 : (Jvm.Cond.instanceMethod ({ cls := "StageCyclesModel", name := "mayGo", desc := "(I)Z" } : Jvm.MethodName)) ∈ TB := inTB4 172 (by decide +kernel) (by decide +kernel)
theorem tb4_173 : (Jvm.Cond.code ({ cls := "StageCyclesModel", name := "mayGo", desc := "(I)Z" } : Jvm.MethodName) prog_10_method_23_code (2 : Nat) (Option.some Jvm.ClassFile.FieldType.boolean)) ∈ TB := inTB4 173 (by decide +kernel) (by decide +kernel)
theorem tb4_174 : (Jvm.Cond.methodLink "StageCyclesModel" (191 : Nat) ({ cls := "StageCyclesModel", name := "moveOn", desc := "(I)V" } : Jvm.MethodName)) ∈ TB := inTB4 174 (by decide +kernel) (by decide +kernel)
theorem tb4_176 : (Jvm.Cond.instanceMethod ({ cls := "StageCyclesModel", name := "moveOn", desc := "(I)V" } : Jvm.MethodName)) ∈ TB := inTB4 176 (by decide +kernel) (by decide +kernel)
theorem tb4_177 : (Jvm.Cond.code ({ cls := "StageCyclesModel", name := "moveOn", desc := "(I)V" } : Jvm.MethodName) prog_10_method_16_code (2 : Nat) (Option.none : Option Jvm.ClassFile.FieldType)) ∈ TB := inTB4 177 (by decide +kernel) (by decide +kernel)
theorem tb4_178 : (Jvm.Cond.methodLink "StageCyclesModel" (203 : Nat) ({ cls := "StageCyclesModel", name := "fetch", desc := "()V" } : Jvm.MethodName)) ∈ TB := inTB4 178 (by decide +kernel) (by decide +kernel)
theorem tb4_180 : (Jvm.Cond.instanceMethod ({ cls := "StageCyclesModel", name := "fetch", desc := "()V" } : Jvm.MethodName)) ∈ TB := inTB4 180 (by decide +kernel) (by decide +kernel)
theorem tb4_181 : (Jvm.Cond.code ({ cls := "StageCyclesModel", name := "fetch", desc := "()V" } : Jvm.MethodName) prog_10_method_26_code (2 : Nat) (Option.none : Option Jvm.ClassFile.FieldType)) ∈ TB := inTB4 181 (by decide +kernel) (by decide +kernel)
theorem tb4_182 : (Jvm.Cond.methodLink "StageCyclesModel" (194 : Nat) ({ cls := "StageCyclesModel", name := "plainRun", desc := "(I)V" } : Jvm.MethodName)) ∈ TB := inTB4 182 (by decide +kernel) (by decide +kernel)
theorem tb4_184 : (Jvm.Cond.instanceMethod ({ cls := "StageCyclesModel", name := "plainRun", desc := "(I)V" } : Jvm.MethodName)) ∈ TB := inTB4 184 (by decide +kernel) (by decide +kernel)
theorem tb4_185 : (Jvm.Cond.code ({ cls := "StageCyclesModel", name := "plainRun", desc := "(I)V" } : Jvm.MethodName) prog_10_method_25_code (4 : Nat) (Option.none : Option Jvm.ClassFile.FieldType)) ∈ TB := inTB4 185 (by decide +kernel) (by decide +kernel)
theorem tb4_186 : (Jvm.Cond.methodLink "StageCyclesLaw" (80 : Nat) ({ cls := "StageCyclesModel", name := "stage", desc := "(II)I" } : Jvm.MethodName)) ∈ TB := inTB4 186 (by decide +kernel) (by decide +kernel)
theorem tb4_187 : (Jvm.Cond.instanceMethod ({ cls := "StageCyclesModel", name := "stage", desc := "(II)I" } : Jvm.MethodName)) ∈ TB := inTB4 187 (by decide +kernel) (by decide +kernel)
theorem tb4_188 : (Jvm.Cond.selects "StageCyclesModel" ({ cls := "StageCyclesModel", name := "stage", desc := "(II)I" } : Jvm.MethodName) ({ cls := "StageCyclesModel", name := "stage", desc := "(II)I" } : Jvm.MethodName)) ∈ TB := inTB4 188 (by decide +kernel) (by decide +kernel)
theorem tb4_189 : (Jvm.Cond.code ({ cls := "StageCyclesModel", name := "stage", desc := "(II)I" } : Jvm.MethodName) prog_10_method_29_code (3 : Nat) (Option.some Jvm.ClassFile.FieldType.int)) ∈ TB := inTB4 189 (by decide +kernel) (by decide +kernel)
theorem tb4_190 : (Jvm.Cond.methodLink "StageCyclesLaw" (83 : Nat) ({ cls := "StageCyclesModel", name := "committed", desc := "(II)I" } : Jvm.MethodName)) ∈ TB := inTB4 190 (by decide +kernel) (by decide +kernel)
theorem tb4_191 : (Jvm.Cond.instanceMethod ({ cls := "StageCyclesModel", name := "committed", desc := "(II)I" } : Jvm.MethodName)) ∈ TB := inTB4 191 (by decide +kernel) (by decide +kernel)
theorem tb4_192 : (Jvm.Cond.selects "StageCyclesModel" ({ cls := "StageCyclesModel", name := "committed", desc := "(II)I" } : Jvm.MethodName) ({ cls := "StageCyclesModel", name := "committed", desc := "(II)I" } : Jvm.MethodName)) ∈ TB := inTB4 192 (by decide +kernel) (by decide +kernel)
theorem tb4_193 : (Jvm.Cond.code ({ cls := "StageCyclesModel", name := "committed", desc := "(II)I" } : Jvm.MethodName) prog_10_method_30_code (5 : Nat) (Option.some Jvm.ClassFile.FieldType.int)) ∈ TB := inTB4 193 (by decide +kernel) (by decide +kernel)
theorem tb4_194 : (Jvm.Cond.methodLink "StageCyclesLaw" (86 : Nat) ({ cls := "StageCyclesModel", name := "register", desc := "(I)I" } : Jvm.MethodName)) ∈ TB := inTB4 194 (by decide +kernel) (by decide +kernel)
theorem tb4_195 : (Jvm.Cond.instanceMethod ({ cls := "StageCyclesModel", name := "register", desc := "(I)I" } : Jvm.MethodName)) ∈ TB := inTB4 195 (by decide +kernel) (by decide +kernel)
theorem tb4_196 : (Jvm.Cond.selects "StageCyclesModel" ({ cls := "StageCyclesModel", name := "register", desc := "(I)I" } : Jvm.MethodName) ({ cls := "StageCyclesModel", name := "register", desc := "(I)I" } : Jvm.MethodName)) ∈ TB := inTB4 196 (by decide +kernel) (by decide +kernel)
theorem tb4_197 : (Jvm.Cond.code ({ cls := "StageCyclesModel", name := "register", desc := "(I)I" } : Jvm.MethodName) prog_10_method_31_code (2 : Nat) (Option.some Jvm.ClassFile.FieldType.int)) ∈ TB := inTB4 197 (by decide +kernel) (by decide +kernel)
theorem tb4_198 : (Jvm.Cond.methodLink "StageCyclesLaw" (89 : Nat) ({ cls := "StageCyclesModel", name := "memory", desc := "(I)I" } : Jvm.MethodName)) ∈ TB := inTB4 198 (by decide +kernel) (by decide +kernel)
theorem tb4_199 : (Jvm.Cond.instanceMethod ({ cls := "StageCyclesModel", name := "memory", desc := "(I)I" } : Jvm.MethodName)) ∈ TB := inTB4 199 (by decide +kernel) (by decide +kernel)
theorem tb4_200 : (Jvm.Cond.selects "StageCyclesModel" ({ cls := "StageCyclesModel", name := "memory", desc := "(I)I" } : Jvm.MethodName) ({ cls := "StageCyclesModel", name := "memory", desc := "(I)I" } : Jvm.MethodName)) ∈ TB := inTB4 200 (by decide +kernel) (by decide +kernel)
theorem tb4_201 : (Jvm.Cond.code ({ cls := "StageCyclesModel", name := "memory", desc := "(I)I" } : Jvm.MethodName) prog_10_method_32_code (2 : Nat) (Option.some Jvm.ClassFile.FieldType.int)) ∈ TB := inTB4 201 (by decide +kernel) (by decide +kernel)
theorem tb4_202 : (Jvm.Cond.methodLink "StageCyclesLaw" (92 : Nat) ({ cls := "StageCyclesModel", name := "cause", desc := "(I)I" } : Jvm.MethodName)) ∈ TB := inTB4 202 (by decide +kernel) (by decide +kernel)
theorem tb4_203 : (Jvm.Cond.instanceMethod ({ cls := "StageCyclesModel", name := "cause", desc := "(I)I" } : Jvm.MethodName)) ∈ TB := inTB4 203 (by decide +kernel) (by decide +kernel)
theorem tb4_204 : (Jvm.Cond.selects "StageCyclesModel" ({ cls := "StageCyclesModel", name := "cause", desc := "(I)I" } : Jvm.MethodName) ({ cls := "StageCyclesModel", name := "cause", desc := "(I)I" } : Jvm.MethodName)) ∈ TB := inTB4 204 (by decide +kernel) (by decide +kernel)
theorem tb4_205 : (Jvm.Cond.code ({ cls := "StageCyclesModel", name := "cause", desc := "(I)I" } : Jvm.MethodName) prog_10_method_33_code (2 : Nat) (Option.some Jvm.ClassFile.FieldType.int)) ∈ TB := inTB4 205 (by decide +kernel) (by decide +kernel)
theorem tb4_206 : (Jvm.Cond.methodLink "StageCyclesLaw" (96 : Nat) ({ cls := "StageCyclesModel", name := "count", desc := "(I)I" } : Jvm.MethodName)) ∈ TB := inTB4 206 (by decide +kernel) (by decide +kernel)
theorem tb4_207 : (Jvm.Cond.instanceMethod ({ cls := "StageCyclesModel", name := "count", desc := "(I)I" } : Jvm.MethodName)) ∈ TB := inTB4 207 (by decide +kernel) (by decide +kernel)
theorem tb4_208 : (Jvm.Cond.selects "StageCyclesModel" ({ cls := "StageCyclesModel", name := "count", desc := "(I)I" } : Jvm.MethodName) ({ cls := "StageCyclesModel", name := "count", desc := "(I)I" } : Jvm.MethodName)) ∈ TB := inTB4 208 (by decide +kernel) (by decide +kernel)
theorem tb4_209 : (Jvm.Cond.code ({ cls := "StageCyclesModel", name := "count", desc := "(I)I" } : Jvm.MethodName) prog_10_method_34_code (2 : Nat) (Option.some Jvm.ClassFile.FieldType.int)) ∈ TB := inTB4 209 (by decide +kernel) (by decide +kernel)
theorem tb4_210 : (Jvm.Cond.arrayClass Jvm.ClassFile.FieldType.long) ∈ TB := inTB4 210 (by decide +kernel) (by decide +kernel)
theorem tp_0 : Cond.selects "java/lang/Throwable" ⟨"java/lang/Throwable", "fillInStackTrace", "(I)Ljava/lang/Throwable;"⟩ ⟨"java/lang/Throwable", "fillInStackTrace", "(I)Ljava/lang/Throwable;"⟩ ∈ TB := inTP 0 (by decide +kernel) (by decide +kernel)
theorem tp_1 : Cond.selects "StageCycles$Line" ⟨"StageCycles$Line", "leave", "()I"⟩ ⟨"StageCycles$Line", "leave", "()I"⟩ ∈ TB := inTP 1 (by decide +kernel) (by decide +kernel)
theorem tp_2 : Cond.selects "StageCycles$Line" ⟨"StageCycles$Line", "squashAndGoTo", "(II)V"⟩ ⟨"StageCycles$Line", "squashAndGoTo", "(II)V"⟩ ∈ TB := inTP 2 (by decide +kernel) (by decide +kernel)
theorem tp_3 : Cond.selects "StageCycles$Line" ⟨"StageCycles$Line", "commit", "(I)V"⟩ ⟨"StageCycles$Line", "commit", "(I)V"⟩ ∈ TB := inTP 3 (by decide +kernel) (by decide +kernel)
theorem tp_4 : Cond.selects "StageCycles$PlainRun" ⟨"StageCycles$PlainRun", "write", "(II)I"⟩ ⟨"StageCycles$PlainRun", "write", "(II)I"⟩ ∈ TB := inTP 4 (by decide +kernel) (by decide +kernel)
theorem tp_5 : Cond.selects "StageCycles$PlainRun" ⟨"StageCycles$PlainRun", "store", "(II)I"⟩ ⟨"StageCycles$PlainRun", "store", "(II)I"⟩ ∈ TB := inTP 5 (by decide +kernel) (by decide +kernel)
theorem tp_6 : Cond.selects "StageCycles$Line" ⟨"StageCycles$Line", "takeBranch", "(II)V"⟩ ⟨"StageCycles$Line", "takeBranch", "(II)V"⟩ ∈ TB := inTP 6 (by decide +kernel) (by decide +kernel)
theorem tp_7 : Cond.selects "StageCycles$Line" ⟨"StageCycles$Line", "goOn", "()I"⟩ ⟨"StageCycles$Line", "goOn", "()I"⟩ ∈ TB := inTP 7 (by decide +kernel) (by decide +kernel)
theorem tp_8 : Cond.selects "StageCycles$Line" ⟨"StageCycles$Line", "work", "(I)I"⟩ ⟨"StageCycles$Line", "work", "(I)I"⟩ ∈ TB := inTP 8 (by decide +kernel) (by decide +kernel)
theorem tp_9 : Cond.selects "StageCycles$Line" ⟨"StageCycles$Line", "isReady", "(I)Z"⟩ ⟨"StageCycles$Line", "isReady", "(I)Z"⟩ ∈ TB := inTP 9 (by decide +kernel) (by decide +kernel)
theorem tp_10 : Cond.selects "StageCycles$Line" ⟨"StageCycles$Line", "isThere", "(I)Z"⟩ ⟨"StageCycles$Line", "isThere", "(I)Z"⟩ ∈ TB := inTP 10 (by decide +kernel) (by decide +kernel)
theorem tp_11 : Cond.selects "StageCycles$Line" ⟨"StageCycles$Line", "fetch", "()V"⟩ ⟨"StageCycles$Line", "fetch", "()V"⟩ ∈ TB := inTP 11 (by decide +kernel) (by decide +kernel)
theorem tp_12 : Cond.selects "StageCyclesModel" ⟨"StageCyclesModel", "begin", "()V"⟩ ⟨"StageCyclesModel", "begin", "()V"⟩ ∈ TB := inTP 12 (by decide +kernel) (by decide +kernel)
theorem tp_13 : Cond.selects "StageCyclesModel" ⟨"StageCyclesModel", "fail", "(I)I"⟩ ⟨"StageCyclesModel", "fail", "(I)I"⟩ ∈ TB := inTP 13 (by decide +kernel) (by decide +kernel)
theorem tp_14 : Cond.selects "StageCyclesModel" ⟨"StageCyclesModel", "cycle", "()V"⟩ ⟨"StageCyclesModel", "cycle", "()V"⟩ ∈ TB := inTP 14 (by decide +kernel) (by decide +kernel)
theorem tp_15 : Cond.selects "StageCyclesModel" ⟨"StageCyclesModel", "leave", "()I"⟩ ⟨"StageCyclesModel", "leave", "()I"⟩ ∈ TB := inTP 15 (by decide +kernel) (by decide +kernel)
theorem tp_16 : Cond.selects "StageCyclesModel" ⟨"StageCyclesModel", "squash", "(II)V"⟩ ⟨"StageCyclesModel", "squash", "(II)V"⟩ ∈ TB := inTP 16 (by decide +kernel) (by decide +kernel)
theorem tp_17 : Cond.selects "StageCyclesModel" ⟨"StageCyclesModel", "commit", "(I)V"⟩ ⟨"StageCyclesModel", "commit", "(I)V"⟩ ∈ TB := inTP 17 (by decide +kernel) (by decide +kernel)
theorem tp_18 : Cond.selects "StageCyclesModel" ⟨"StageCyclesModel", "writes", "(I)Z"⟩ ⟨"StageCyclesModel", "writes", "(I)Z"⟩ ∈ TB := inTP 18 (by decide +kernel) (by decide +kernel)
theorem tp_19 : Cond.selects "StageCyclesModel" ⟨"StageCyclesModel", "know", "(II)V"⟩ ⟨"StageCyclesModel", "know", "(II)V"⟩ ∈ TB := inTP 19 (by decide +kernel) (by decide +kernel)
theorem tp_20 : Cond.selects "StageCyclesModel" ⟨"StageCyclesModel", "goOn", "()I"⟩ ⟨"StageCyclesModel", "goOn", "()I"⟩ ∈ TB := inTP 20 (by decide +kernel) (by decide +kernel)
theorem tp_21 : Cond.selects "StageCyclesModel" ⟨"StageCyclesModel", "work", "()I"⟩ ⟨"StageCyclesModel", "work", "()I"⟩ ∈ TB := inTP 21 (by decide +kernel) (by decide +kernel)
theorem tp_22 : Cond.selects "StageCyclesModel" ⟨"StageCyclesModel", "isReady", "(I)Z"⟩ ⟨"StageCyclesModel", "isReady", "(I)Z"⟩ ∈ TB := inTP 22 (by decide +kernel) (by decide +kernel)
theorem tp_23 : Cond.selects "StageCyclesModel" ⟨"StageCyclesModel", "readsA", "(I)Z"⟩ ⟨"StageCyclesModel", "readsA", "(I)Z"⟩ ∈ TB := inTP 23 (by decide +kernel) (by decide +kernel)
theorem tp_24 : Cond.selects "StageCyclesModel" ⟨"StageCyclesModel", "isThere", "(I)Z"⟩ ⟨"StageCyclesModel", "isThere", "(I)Z"⟩ ∈ TB := inTP 24 (by decide +kernel) (by decide +kernel)
theorem tp_25 : Cond.selects "StageCyclesModel" ⟨"StageCyclesModel", "readsB", "(I)Z"⟩ ⟨"StageCyclesModel", "readsB", "(I)Z"⟩ ∈ TB := inTP 25 (by decide +kernel) (by decide +kernel)
theorem tp_26 : Cond.selects "StageCyclesModel" ⟨"StageCyclesModel", "cyclesOf", "(I)I"⟩ ⟨"StageCyclesModel", "cyclesOf", "(I)I"⟩ ∈ TB := inTP 26 (by decide +kernel) (by decide +kernel)
theorem tp_27 : Cond.selects "StageCyclesModel" ⟨"StageCyclesModel", "mayGo", "(I)Z"⟩ ⟨"StageCyclesModel", "mayGo", "(I)Z"⟩ ∈ TB := inTP 27 (by decide +kernel) (by decide +kernel)
theorem tp_28 : Cond.selects "StageCyclesModel" ⟨"StageCyclesModel", "moveOn", "(I)V"⟩ ⟨"StageCyclesModel", "moveOn", "(I)V"⟩ ∈ TB := inTP 28 (by decide +kernel) (by decide +kernel)
theorem tp_29 : Cond.selects "StageCyclesModel" ⟨"StageCyclesModel", "fetch", "()V"⟩ ⟨"StageCyclesModel", "fetch", "()V"⟩ ∈ TB := inTP 29 (by decide +kernel) (by decide +kernel)
theorem tp_30 : Cond.selects "StageCyclesModel" ⟨"StageCyclesModel", "plainRun", "(I)V"⟩ ⟨"StageCyclesModel", "plainRun", "(I)V"⟩ ∈ TB := inTP 30 (by decide +kernel) (by decide +kernel)
end
section
def RX0 : String := "StageCycles$Journal"
def RX1 : String := "StageCycles$Line"
def RX2 : String := "StageCycles$PlainRun"
def RX3 : String := "StageCycles$Program"
def RX4 : String := "StageCycles$Shape"
def RX5 : String := "StageCycles$Slots"
def RX6 : String := "StageCycles$Tally"
def RX7 : String := "StageCycles"
def RX8 : String := "StageCyclesModel"
def RJ9 : String := "java/lang/Math"
def RJ7 : String := "java/util/Arrays"
def RL : String := "StageCyclesLaw"
def TX0 : u_T := fun k => match k with
  | 0 => ("StageCycles$Journal", "words", "[I", true)
  | 1 => ("StageCycles$Journal", "cycles", "[I", true)
  | 2 => ("StageCycles$Journal", "values", "[I", true)
  | 3 => ("StageCycles$Journal", "oldest", "I", false)
  | _ => ("StageCycles$Journal", "kept", "I", false)
def tyX0 : Nat → FieldType := fun k => match k with
  | 0 => .array .int
  | 1 => .array .int
  | 2 => .array .int
  | 3 => .int
  | _ => .int
theorem nmX0 : ∀ a, a < 5 → ∀ b, b < 5 → a ≠ b → (TX0 a).2.1 ≠ (TX0 b).2.1 := by decide +kernel
theorem tyX0_ok : ∀ k, k < 5 → parseFieldDescriptor (TX0 k).2.2.1 = some (tyX0 k) := by decide +kernel
set_option maxRecDepth 20000 in
theorem iX0 : ∀ w ∈ u_ws RX0 TX0 5, w ∈ TB := by decide +kernel
def TX1 : u_T := fun k => match k with
  | 0 => ("StageCycles$Line", "shape", "LStageCycles$Shape;", true)
  | 1 => ("StageCycles$Line", "program", "LStageCycles$Program;", true)
  | 2 => ("StageCycles$Line", "slots", "LStageCycles$Slots;", true)
  | 3 => ("StageCycles$Line", "journal", "LStageCycles$Journal;", true)
  | 4 => ("StageCycles$Line", "tally", "LStageCycles$Tally;", true)
  | 5 => ("StageCycles$Line", "ahead", "LStageCycles$PlainRun;", true)
  | 6 => ("StageCycles$Line", "left", "LStageCycles$PlainRun;", true)
  | 7 => ("StageCycles$Line", "forward", "Z", false)
  | 8 => ("StageCycles$Line", "handler", "I", false)
  | 9 => ("StageCycles$Line", "next", "I", false)
  | 10 => ("StageCycles$Line", "astray", "Z", false)
  | 11 => ("StageCycles$Line", "stopFetched", "Z", false)
  | 12 => ("StageCycles$Line", "redirected", "Z", false)
  | _ => ("StageCycles$Line", "worked", "I", false)
def tyX1 : Nat → FieldType := fun k => match k with
  | 0 => .object "StageCycles$Shape"
  | 1 => .object "StageCycles$Program"
  | 2 => .object "StageCycles$Slots"
  | 3 => .object "StageCycles$Journal"
  | 4 => .object "StageCycles$Tally"
  | 5 => .object "StageCycles$PlainRun"
  | 6 => .object "StageCycles$PlainRun"
  | 7 => .boolean
  | 8 => .int
  | 9 => .int
  | 10 => .boolean
  | 11 => .boolean
  | 12 => .boolean
  | _ => .int
theorem nmX1 : ∀ a, a < 14 → ∀ b, b < 14 → a ≠ b → (TX1 a).2.1 ≠ (TX1 b).2.1 := by decide +kernel
theorem tyX1_ok : ∀ k, k < 14 → parseFieldDescriptor (TX1 k).2.2.1 = some (tyX1 k) := by decide +kernel
set_option maxRecDepth 20000 in
theorem iX1 : ∀ w ∈ u_ws RX1 TX1 14, w ∈ TB := by decide +kernel
def TX2 : u_T := fun k => match k with
  | 0 => ("StageCycles$PlainRun", "program", "LStageCycles$Program;", true)
  | 1 => ("StageCycles$PlainRun", "registers", "[I", true)
  | _ => ("StageCycles$PlainRun", "places", "[I", true)
def tyX2 : Nat → FieldType := fun k => match k with
  | 0 => .object "StageCycles$Program"
  | 1 => .array .int
  | _ => .array .int
theorem nmX2 : ∀ a, a < 3 → ∀ b, b < 3 → a ≠ b → (TX2 a).2.1 ≠ (TX2 b).2.1 := by decide +kernel
theorem tyX2_ok : ∀ k, k < 3 → parseFieldDescriptor (TX2 k).2.2.1 = some (tyX2 k) := by decide +kernel
set_option maxRecDepth 20000 in
theorem iX2 : ∀ w ∈ u_ws RX2 TX2 3, w ∈ TB := by decide +kernel
def TX3 : u_T := fun k => match k with
  | 0 => ("StageCycles$Program", "kinds", "[I", true)
  | 1 => ("StageCycles$Program", "writes", "[I", true)
  | 2 => ("StageCycles$Program", "firsts", "[I", true)
  | 3 => ("StageCycles$Program", "seconds", "[I", true)
  | 4 => ("StageCycles$Program", "numbers", "[I", true)
  | _ => ("StageCycles$Program", "words", "I", false)
def tyX3 : Nat → FieldType := fun k => match k with
  | 0 => .array .int
  | 1 => .array .int
  | 2 => .array .int
  | 3 => .array .int
  | 4 => .array .int
  | _ => .int
theorem nmX3 : ∀ a, a < 6 → ∀ b, b < 6 → a ≠ b → (TX3 a).2.1 ≠ (TX3 b).2.1 := by decide +kernel
theorem tyX3_ok : ∀ k, k < 6 → parseFieldDescriptor (TX3 k).2.2.1 = some (tyX3 k) := by decide +kernel
set_option maxRecDepth 20000 in
theorem iX3 : ∀ w ∈ u_ws RX3 TX3 6, w ∈ TB := by decide +kernel
def TX4 : u_T := fun k => match k with
  | 0 => ("StageCycles$Shape", "stages", "I", true)
  | 1 => ("StageCycles$Shape", "reading", "I", true)
  | 2 => ("StageCycles$Shape", "behindAlu", "I", true)
  | 3 => ("StageCycles$Shape", "behindLoad", "I", true)
  | 4 => ("StageCycles$Shape", "behindBranch", "I", true)
  | _ => ("StageCycles$Shape", "mulCycles", "I", true)
def tyX4 : Nat → FieldType := fun k => match k with
  | 0 => .int
  | 1 => .int
  | 2 => .int
  | 3 => .int
  | 4 => .int
  | _ => .int
theorem nmX4 : ∀ a, a < 6 → ∀ b, b < 6 → a ≠ b → (TX4 a).2.1 ≠ (TX4 b).2.1 := by decide +kernel
theorem tyX4_ok : ∀ k, k < 6 → parseFieldDescriptor (TX4 k).2.2.1 = some (tyX4 k) := by decide +kernel
set_option maxRecDepth 20000 in
theorem iX4 : ∀ w ∈ u_ws RX4 TX4 6, w ∈ TB := by decide +kernel
def TX5 : u_T := fun k => match k with
  | 0 => ("StageCycles$Slots", "words", "[I", true)
  | 1 => ("StageCycles$Slots", "onTheWay", "[Z", true)
  | _ => ("StageCycles$Slots", "going", "[Z", true)
def tyX5 : Nat → FieldType := fun k => match k with
  | 0 => .array .int
  | 1 => .array .boolean
  | _ => .array .boolean
theorem nmX5 : ∀ a, a < 3 → ∀ b, b < 3 → a ≠ b → (TX5 a).2.1 ≠ (TX5 b).2.1 := by decide +kernel
theorem tyX5_ok : ∀ k, k < 3 → parseFieldDescriptor (TX5 k).2.2.1 = some (tyX5 k) := by decide +kernel
set_option maxRecDepth 20000 in
theorem iX5 : ∀ w ∈ u_ws RX5 TX5 3, w ∈ TB := by decide +kernel
def TX6 : u_T := fun k => match k with
  | 0 => ("StageCycles$Tally", "causes", "[I", true)
  | 1 => ("StageCycles$Tally", "cycles", "I", false)
  | 2 => ("StageCycles$Tally", "commits", "I", false)
  | 3 => ("StageCycles$Tally", "fetched", "I", false)
  | 4 => ("StageCycles$Tally", "squashed", "I", false)
  | 5 => ("StageCycles$Tally", "faults", "I", false)
  | 6 => ("StageCycles$Tally", "went", "I", false)
  | _ => ("StageCycles$Tally", "stopped", "Z", false)
def tyX6 : Nat → FieldType := fun k => match k with
  | 0 => .array .int
  | 1 => .int
  | 2 => .int
  | 3 => .int
  | 4 => .int
  | 5 => .int
  | 6 => .int
  | _ => .boolean
theorem nmX6 : ∀ a, a < 8 → ∀ b, b < 8 → a ≠ b → (TX6 a).2.1 ≠ (TX6 b).2.1 := by decide +kernel
theorem tyX6_ok : ∀ k, k < 8 → parseFieldDescriptor (TX6 k).2.2.1 = some (tyX6 k) := by decide +kernel
set_option maxRecDepth 20000 in
theorem iX6 : ∀ w ∈ u_ws RX6 TX6 8, w ∈ TB := by decide +kernel
def TX7 : u_T := fun k => match k with
  | 0 => ("StageCycles", "shape", "LStageCycles$Shape;", true)
  | 1 => ("StageCycles", "program", "LStageCycles$Program;", true)
  | _ => ("StageCycles", "line", "LStageCycles$Line;", true)
def tyX7 : Nat → FieldType := fun k => match k with
  | 0 => .object "StageCycles$Shape"
  | 1 => .object "StageCycles$Program"
  | _ => .object "StageCycles$Line"
theorem nmX7 : ∀ a, a < 3 → ∀ b, b < 3 → a ≠ b → (TX7 a).2.1 ≠ (TX7 b).2.1 := by decide +kernel
theorem tyX7_ok : ∀ k, k < 3 → parseFieldDescriptor (TX7 k).2.2.1 = some (tyX7 k) := by decide +kernel
set_option maxRecDepth 20000 in
theorem iX7 : ∀ w ∈ u_ws RX7 TX7 3, w ∈ TB := by decide +kernel
def TX8 : u_T := fun k => match k with
  | 0 => ("StageCyclesModel", "thrown", "I", false)
  | 1 => ("StageCyclesModel", "stages", "I", true)
  | 2 => ("StageCyclesModel", "reading", "I", true)
  | 3 => ("StageCyclesModel", "alu", "I", true)
  | 4 => ("StageCyclesModel", "load", "I", true)
  | 5 => ("StageCyclesModel", "branch", "I", true)
  | 6 => ("StageCyclesModel", "mul", "I", true)
  | 7 => ("StageCyclesModel", "forward", "Z", false)
  | 8 => ("StageCyclesModel", "handler", "I", false)
  | 9 => ("StageCyclesModel", "words", "I", false)
  | 10 => ("StageCyclesModel", "kind", "[I", true)
  | 11 => ("StageCyclesModel", "d", "[I", true)
  | 12 => ("StageCyclesModel", "a", "[I", true)
  | 13 => ("StageCyclesModel", "b", "[I", true)
  | 14 => ("StageCyclesModel", "n", "[I", true)
  | 15 => ("StageCyclesModel", "word", "[I", true)
  | 16 => ("StageCyclesModel", "onWay", "[Z", true)
  | 17 => ("StageCyclesModel", "begun", "[Z", true)
  | 18 => ("StageCyclesModel", "worked", "[I", true)
  | 19 => ("StageCyclesModel", "value", "[I", true)
  | 20 => ("StageCyclesModel", "place", "[I", true)
  | 21 => ("StageCyclesModel", "elsewhere", "[I", true)
  | 22 => ("StageCyclesModel", "ahead", "[I", true)
  | 23 => ("StageCyclesModel", "aheadMemory", "[I", true)
  | 24 => ("StageCyclesModel", "register", "[I", true)
  | 25 => ("StageCyclesModel", "memory", "[I", true)
  | 26 => ("StageCyclesModel", "next", "I", false)
  | 27 => ("StageCyclesModel", "isAstray", "Z", false)
  | 28 => ("StageCyclesModel", "stopFetched", "Z", false)
  | 29 => ("StageCyclesModel", "stopLeft", "Z", false)
  | 30 => ("StageCyclesModel", "mayFetch", "Z", false)
  | 31 => ("StageCyclesModel", "cycles", "I", false)
  | 32 => ("StageCyclesModel", "commits", "I", false)
  | 33 => ("StageCyclesModel", "fetched", "I", false)
  | 34 => ("StageCyclesModel", "squashed", "I", false)
  | 35 => ("StageCyclesModel", "faults", "I", false)
  | 36 => ("StageCyclesModel", "turns", "I", false)
  | 37 => ("StageCyclesModel", "causes", "[I", true)
  | 38 => ("StageCyclesModel", "keptWord", "[I", true)
  | 39 => ("StageCyclesModel", "keptCycle", "[I", true)
  | _ => ("StageCyclesModel", "keptValue", "[I", true)
def tyX8 : Nat → FieldType := fun k => match k with
  | 0 => .int
  | 1 => .int
  | 2 => .int
  | 3 => .int
  | 4 => .int
  | 5 => .int
  | 6 => .int
  | 7 => .boolean
  | 8 => .int
  | 9 => .int
  | 10 => .array .int
  | 11 => .array .int
  | 12 => .array .int
  | 13 => .array .int
  | 14 => .array .int
  | 15 => .array .int
  | 16 => .array .boolean
  | 17 => .array .boolean
  | 18 => .array .int
  | 19 => .array .int
  | 20 => .array .int
  | 21 => .array .int
  | 22 => .array .int
  | 23 => .array .int
  | 24 => .array .int
  | 25 => .array .int
  | 26 => .int
  | 27 => .boolean
  | 28 => .boolean
  | 29 => .boolean
  | 30 => .boolean
  | 31 => .int
  | 32 => .int
  | 33 => .int
  | 34 => .int
  | 35 => .int
  | 36 => .int
  | 37 => .array .int
  | 38 => .array .int
  | 39 => .array .int
  | _ => .array .int
theorem nmX8 : ∀ a, a < 41 → ∀ b, b < 41 → a ≠ b → (TX8 a).2.1 ≠ (TX8 b).2.1 := by decide +kernel
theorem tyX8_ok : ∀ k, k < 41 → parseFieldDescriptor (TX8 k).2.2.1 = some (tyX8 k) := by decide +kernel
set_option maxRecDepth 20000 in
theorem iX8 : ∀ w ∈ u_ws RX8 TX8 41, w ∈ TB := by decide +kernel
abbrev vwCl : List vw_C := [(RX0, TX0, 5), (RX1, TX1, 14), (RX2, TX2, 3), (RX3, TX3, 6), (RX4, TX4, 6), (RX5, TX5, 3), (RX6, TX6, 8), (RX7, TX7, 3), (RX8, TX8, 41)]
abbrev cX7_init : ByteArray := prog_1_method_1_code
def yX7_init : MethodName := ⟨RX7, "<init>", "(IIIIII)V"⟩
abbrev cX4_init : ByteArray := prog_6_method_1_code
def yX4_init : MethodName := ⟨RX4, "<init>", "(IIIIII)V"⟩
abbrev cX4_rest : ByteArray := prog_6_method_2_code
def yX4_rest : MethodName := ⟨RX4, "rest", "(II)I"⟩
abbrev cJ9_floorMod : ByteArray := prog_15_method_50_code
def yJ9_floorMod : MethodName := ⟨RJ9, "floorMod", "(II)I"⟩
abbrev cX3_init : ByteArray := prog_5_method_1_code
def yX3_init : MethodName := ⟨RX3, "<init>", "()V"⟩
abbrev cX1_init : ByteArray := prog_3_method_1_code
def yX1_init : MethodName := ⟨RX1, "<init>", "(LStageCycles$Shape;LStageCycles$Program;)V"⟩
abbrev cX5_init : ByteArray := prog_7_method_1_code
def yX5_init : MethodName := ⟨RX5, "<init>", "()V"⟩
abbrev cJ7_fill : ByteArray := prog_20_method_103_code
def yJ7_fill : MethodName := ⟨RJ7, "fill", "([II)V"⟩
abbrev cX0_init : ByteArray := prog_2_method_1_code
def yX0_init : MethodName := ⟨RX0, "<init>", "()V"⟩
abbrev cX6_init : ByteArray := prog_8_method_1_code
def yX6_init : MethodName := ⟨RX6, "<init>", "()V"⟩
abbrev cX2_init : ByteArray := prog_4_method_1_code
def yX2_init : MethodName := ⟨RX2, "<init>", "(LStageCycles$Program;)V"⟩
abbrev cX7_clear : ByteArray := prog_1_method_4_code
def yX7_clear : MethodName := ⟨RX7, "clear", "()I"⟩
abbrev cX3_forget : ByteArray := prog_5_method_6_code
def yX3_forget : MethodName := ⟨RX3, "forget", "()V"⟩
abbrev cX1_beginAnew : ByteArray := prog_3_method_2_code
def yX1_beginAnew : MethodName := ⟨RX1, "beginAnew", "()V"⟩
abbrev cX5_beginAnew : ByteArray := prog_7_method_9_code
def yX5_beginAnew : MethodName := ⟨RX5, "beginAnew", "()V"⟩
abbrev cX5_squashBelow : ByteArray := prog_7_method_8_code
def yX5_squashBelow : MethodName := ⟨RX5, "squashBelow", "(I)I"⟩
abbrev cX5_put : ByteArray := prog_7_method_5_code
def yX5_put : MethodName := ⟨RX5, "put", "(IIZZ)V"⟩
abbrev cX0_beginAnew : ByteArray := prog_2_method_2_code
def yX0_beginAnew : MethodName := ⟨RX0, "beginAnew", "()V"⟩
abbrev cX6_beginAnew : ByteArray := prog_8_method_2_code
def yX6_beginAnew : MethodName := ⟨RX6, "beginAnew", "()V"⟩
abbrev cX2_beginAnew : ByteArray := prog_4_method_2_code
def yX2_beginAnew : MethodName := ⟨RX2, "beginAnew", "()V"⟩
abbrev cX7_count : ByteArray := prog_1_method_11_code
def yX7_count : MethodName := ⟨RX7, "count", "(I)I"⟩
abbrev cX3_size : ByteArray := prog_5_method_7_code
def yX3_size : MethodName := ⟨RX3, "size", "()I"⟩
abbrev cL_cell : ByteArray := method_2_code
def yL_cell : MethodName := ⟨RL, "cell", "([II)I"⟩
abbrev cL_word : ByteArray := method_3_code
def yL_word : MethodName := ⟨RL, "word", "(LStageCycles;IIIII[J)I"⟩
abbrev cX7_word : ByteArray := prog_1_method_2_code
def yX7_word : MethodName := ⟨RX7, "word", "(IIIII)I"⟩
abbrev cX7_isBelow : ByteArray := prog_1_method_12_code
def yX7_isBelow : MethodName := ⟨RX7, "isBelow", "(II)Z"⟩
abbrev cX3_append : ByteArray := prog_5_method_2_code
def yX3_append : MethodName := ⟨RX3, "append", "(IIIII)I"⟩
abbrev cX3_hasTarget : ByteArray := prog_5_method_3_code
def yX3_hasTarget : MethodName := ⟨RX3, "hasTarget", "(I)Z"⟩
abbrev cX3_readsFirst : ByteArray := prog_5_method_4_code
def yX3_readsFirst : MethodName := ⟨RX3, "readsFirst", "(I)Z"⟩
abbrev cX3_readsSecond : ByteArray := prog_5_method_5_code
def yX3_readsSecond : MethodName := ⟨RX3, "readsSecond", "(I)Z"⟩
abbrev cL_set : ByteArray := method_4_code
def yL_set : MethodName := ⟨RL, "set", "(LStageCycles;ZI[J)I"⟩
abbrev cX7_set : ByteArray := prog_1_method_3_code
def yX7_set : MethodName := ⟨RX7, "set", "(ZI)Z"⟩
abbrev cL_run : ByteArray := method_5_code
def yL_run : MethodName := ⟨RL, "run", "(LStageCycles;I[J)I"⟩
abbrev cX7_run : ByteArray := prog_1_method_5_code
def yX7_run : MethodName := ⟨RX7, "run", "(I)I"⟩
abbrev cX1_doCycle : ByteArray := prog_3_method_3_code
def yX1_doCycle : MethodName := ⟨RX1, "doCycle", "()V"⟩
abbrev cX1_leave : ByteArray := prog_3_method_4_code
def yX1_leave : MethodName := ⟨RX1, "leave", "()I"⟩
abbrev cX4_last : ByteArray := prog_6_method_3_code
def yX4_last : MethodName := ⟨RX4, "last", "()I"⟩
abbrev cX5_wordIn : ByteArray := prog_7_method_2_code
def yX5_wordIn : MethodName := ⟨RX5, "wordIn", "(I)I"⟩
abbrev cX5_isGoing : ByteArray := prog_7_method_4_code
def yX5_isGoing : MethodName := ⟨RX5, "isGoing", "(I)Z"⟩
abbrev cX5_empty : ByteArray := prog_7_method_6_code
def yX5_empty : MethodName := ⟨RX5, "empty", "(I)V"⟩
abbrev cX3_kindOf : ByteArray := prog_5_method_8_code
def yX3_kindOf : MethodName := ⟨RX3, "kindOf", "(I)I"⟩
abbrev cX1_squashAndGoTo : ByteArray := prog_3_method_7_code
def yX1_squashAndGoTo : MethodName := ⟨RX1, "squashAndGoTo", "(II)V"⟩
abbrev cX3_wordAt : ByteArray := prog_5_method_14_code
def yX3_wordAt : MethodName := ⟨RX3, "wordAt", "(I)I"⟩
abbrev cX1_commit : ByteArray := prog_3_method_5_code
def yX1_commit : MethodName := ⟨RX1, "commit", "(I)V"⟩
abbrev cX2_perform : ByteArray := prog_4_method_6_code
def yX2_perform : MethodName := ⟨RX2, "perform", "(I)I"⟩
abbrev cX3_firstRead : ByteArray := prog_5_method_10_code
def yX3_firstRead : MethodName := ⟨RX3, "firstRead", "(I)I"⟩
abbrev cX2_valueOf : ByteArray := prog_4_method_3_code
def yX2_valueOf : MethodName := ⟨RX2, "valueOf", "(I)I"⟩
abbrev cX3_secondRead : ByteArray := prog_5_method_11_code
def yX3_secondRead : MethodName := ⟨RX3, "secondRead", "(I)I"⟩
abbrev cX3_number : ByteArray := prog_5_method_12_code
def yX3_number : MethodName := ⟨RX3, "number", "(I)I"⟩
abbrev cX3_written : ByteArray := prog_5_method_9_code
def yX3_written : MethodName := ⟨RX3, "written", "(I)I"⟩
abbrev cX2_write : ByteArray := prog_4_method_7_code
def yX2_write : MethodName := ⟨RX2, "write", "(II)I"⟩
abbrev cX2_valueAt : ByteArray := prog_4_method_4_code
def yX2_valueAt : MethodName := ⟨RX2, "valueAt", "(I)I"⟩
abbrev cX2_store : ByteArray := prog_4_method_8_code
def yX2_store : MethodName := ⟨RX2, "store", "(II)I"⟩
abbrev cX0_append : ByteArray := prog_2_method_4_code
def yX0_append : MethodName := ⟨RX0, "append", "(III)V"⟩
abbrev cX1_takeBranch : ByteArray := prog_3_method_6_code
def yX1_takeBranch : MethodName := ⟨RX1, "takeBranch", "(II)V"⟩
abbrev cX1_goOn : ByteArray := prog_3_method_8_code
def yX1_goOn : MethodName := ⟨RX1, "goOn", "()I"⟩
abbrev cX1_work : ByteArray := prog_3_method_9_code
def yX1_work : MethodName := ⟨RX1, "work", "(I)I"⟩
abbrev cX1_isReady : ByteArray := prog_3_method_10_code
def yX1_isReady : MethodName := ⟨RX1, "isReady", "(I)Z"⟩
abbrev cX1_isThere : ByteArray := prog_3_method_11_code
def yX1_isThere : MethodName := ⟨RX1, "isThere", "(I)Z"⟩
abbrev cX4_behindWhichReady : ByteArray := prog_6_method_4_code
def yX4_behindWhichReady : MethodName := ⟨RX4, "behindWhichReady", "(I)I"⟩
abbrev cX4_cyclesToWork : ByteArray := prog_6_method_5_code
def yX4_cyclesToWork : MethodName := ⟨RX4, "cyclesToWork", "(I)I"⟩
abbrev cX5_moveOnFrom : ByteArray := prog_7_method_7_code
def yX5_moveOnFrom : MethodName := ⟨RX5, "moveOnFrom", "(I)V"⟩
abbrev cX5_isOnTheWay : ByteArray := prog_7_method_3_code
def yX5_isOnTheWay : MethodName := ⟨RX5, "isOnTheWay", "(I)Z"⟩
abbrev cX1_fetch : ByteArray := prog_3_method_12_code
def yX1_fetch : MethodName := ⟨RX1, "fetch", "()V"⟩
abbrev cX2_goes : ByteArray := prog_4_method_5_code
def yX2_goes : MethodName := ⟨RX2, "goes", "(I)Z"⟩
abbrev cX3_behind : ByteArray := prog_5_method_13_code
def yX3_behind : MethodName := ⟨RX3, "behind", "(I)I"⟩
abbrev cX6_addCause : ByteArray := prog_8_method_3_code
def yX6_addCause : MethodName := ⟨RX6, "addCause", "(I)V"⟩
abbrev cL_stage : ByteArray := method_6_code
def yL_stage : MethodName := ⟨RL, "stage", "(LStageCycles;II[J)I"⟩
abbrev cX7_stage : ByteArray := prog_1_method_6_code
def yX7_stage : MethodName := ⟨RX7, "stage", "(II)I"⟩
abbrev cL_committed : ByteArray := method_7_code
def yL_committed : MethodName := ⟨RL, "committed", "(LStageCycles;II[J)I"⟩
abbrev cX7_committed : ByteArray := prog_1_method_7_code
def yX7_committed : MethodName := ⟨RX7, "committed", "(II)I"⟩
abbrev cX0_size : ByteArray := prog_2_method_3_code
def yX0_size : MethodName := ⟨RX0, "size", "()I"⟩
abbrev cX0_entry : ByteArray := prog_2_method_5_code
def yX0_entry : MethodName := ⟨RX0, "entry", "(II)I"⟩
abbrev cL_register : ByteArray := method_8_code
def yL_register : MethodName := ⟨RL, "register", "(LStageCycles;I[J)I"⟩
abbrev cX7_register : ByteArray := prog_1_method_8_code
def yX7_register : MethodName := ⟨RX7, "register", "(I)I"⟩
abbrev cL_memory : ByteArray := method_9_code
def yL_memory : MethodName := ⟨RL, "memory", "(LStageCycles;I[J)I"⟩
abbrev cX7_memory : ByteArray := prog_1_method_9_code
def yX7_memory : MethodName := ⟨RX7, "memory", "(I)I"⟩
abbrev cL_cause : ByteArray := method_10_code
def yL_cause : MethodName := ⟨RL, "cause", "(LStageCycles;I[J)I"⟩
abbrev cX7_cause : ByteArray := prog_1_method_10_code
def yX7_cause : MethodName := ⟨RX7, "cause", "(I)I"⟩
abbrev cX6_cyclesWith : ByteArray := prog_8_method_4_code
def yX6_cyclesWith : MethodName := ⟨RX6, "cyclesWith", "(I)I"⟩
abbrev cX8_init : ByteArray := prog_10_method_1_code
def yX8_init : MethodName := ⟨RX8, "<init>", "(IIIIII)V"⟩
abbrev cX8_modulo : ByteArray := prog_10_method_2_code
def yX8_modulo : MethodName := ⟨RX8, "modulo", "(II)I"⟩
abbrev cX8_begin : ByteArray := prog_10_method_6_code
def yX8_begin : MethodName := ⟨RX8, "begin", "()V"⟩
abbrev cX8_thrown : ByteArray := prog_10_method_3_code
def yX8_thrown : MethodName := ⟨RX8, "thrown", "()I"⟩
abbrev cX8_word : ByteArray := prog_10_method_8_code
def yX8_word : MethodName := ⟨RX8, "word", "(IIIII)I"⟩
abbrev cX8_within : ByteArray := prog_10_method_5_code
def yX8_within : MethodName := ⟨RX8, "within", "(III)Z"⟩
abbrev cX8_isRegister : ByteArray := prog_10_method_7_code
def yX8_isRegister : MethodName := ⟨RX8, "isRegister", "(I)Z"⟩
abbrev cX8_fail : ByteArray := prog_10_method_4_code
def yX8_fail : MethodName := ⟨RX8, "fail", "(I)I"⟩
abbrev cX8_set : ByteArray := prog_10_method_9_code
def yX8_set : MethodName := ⟨RX8, "set", "(ZI)Z"⟩
abbrev cX8_clear : ByteArray := prog_10_method_10_code
def yX8_clear : MethodName := ⟨RX8, "clear", "()I"⟩
abbrev cX8_run : ByteArray := prog_10_method_28_code
def yX8_run : MethodName := ⟨RX8, "run", "(I)I"⟩
abbrev cX8_cycle : ByteArray := prog_10_method_27_code
def yX8_cycle : MethodName := ⟨RX8, "cycle", "()V"⟩
abbrev cX8_leave : ByteArray := prog_10_method_20_code
def yX8_leave : MethodName := ⟨RX8, "leave", "()I"⟩
abbrev cX8_squash : ByteArray := prog_10_method_17_code
def yX8_squash : MethodName := ⟨RX8, "squash", "(II)V"⟩
abbrev cX8_commit : ByteArray := prog_10_method_19_code
def yX8_commit : MethodName := ⟨RX8, "commit", "(I)V"⟩
abbrev cX8_writes : ByteArray := prog_10_method_11_code
def yX8_writes : MethodName := ⟨RX8, "writes", "(I)Z"⟩
abbrev cX8_know : ByteArray := prog_10_method_18_code
def yX8_know : MethodName := ⟨RX8, "know", "(II)V"⟩
abbrev cX8_goOn : ByteArray := prog_10_method_24_code
def yX8_goOn : MethodName := ⟨RX8, "goOn", "()I"⟩
abbrev cX8_work : ByteArray := prog_10_method_22_code
def yX8_work : MethodName := ⟨RX8, "work", "()I"⟩
abbrev cX8_isReady : ByteArray := prog_10_method_15_code
def yX8_isReady : MethodName := ⟨RX8, "isReady", "(I)Z"⟩
abbrev cX8_readsA : ByteArray := prog_10_method_12_code
def yX8_readsA : MethodName := ⟨RX8, "readsA", "(I)Z"⟩
abbrev cX8_isThere : ByteArray := prog_10_method_14_code
def yX8_isThere : MethodName := ⟨RX8, "isThere", "(I)Z"⟩
abbrev cX8_readsB : ByteArray := prog_10_method_13_code
def yX8_readsB : MethodName := ⟨RX8, "readsB", "(I)Z"⟩
abbrev cX8_cyclesOf : ByteArray := prog_10_method_21_code
def yX8_cyclesOf : MethodName := ⟨RX8, "cyclesOf", "(I)I"⟩
abbrev cX8_mayGo : ByteArray := prog_10_method_23_code
def yX8_mayGo : MethodName := ⟨RX8, "mayGo", "(I)Z"⟩
abbrev cX8_moveOn : ByteArray := prog_10_method_16_code
def yX8_moveOn : MethodName := ⟨RX8, "moveOn", "(I)V"⟩
abbrev cX8_fetch : ByteArray := prog_10_method_26_code
def yX8_fetch : MethodName := ⟨RX8, "fetch", "()V"⟩
abbrev cX8_plainRun : ByteArray := prog_10_method_25_code
def yX8_plainRun : MethodName := ⟨RX8, "plainRun", "(I)V"⟩
abbrev cX8_stage : ByteArray := prog_10_method_29_code
def yX8_stage : MethodName := ⟨RX8, "stage", "(II)I"⟩
abbrev cX8_committed : ByteArray := prog_10_method_30_code
def yX8_committed : MethodName := ⟨RX8, "committed", "(II)I"⟩
abbrev cX8_register : ByteArray := prog_10_method_31_code
def yX8_register : MethodName := ⟨RX8, "register", "(I)I"⟩
abbrev cX8_memory : ByteArray := prog_10_method_32_code
def yX8_memory : MethodName := ⟨RX8, "memory", "(I)I"⟩
abbrev cX8_cause : ByteArray := prog_10_method_33_code
def yX8_cause : MethodName := ⟨RX8, "cause", "(I)I"⟩
abbrev cX8_count : ByteArray := prog_10_method_34_code
def yX8_count : MethodName := ⟨RX8, "count", "(I)I"⟩
end
section
theorem dX7_init_0 : decode cX7_init 0 = .ok (.aload_n 0, 1) := by decide +kernel
theorem dX7_init_1 : decode cX7_init 1 = .ok (.invokespecial 1, 3) := by decide +kernel
theorem dX7_init_4 : decode cX7_init 4 = .ok (.aload_n 0, 1) := by decide +kernel
theorem dX7_init_5 : decode cX7_init 5 = .ok (.new 7, 3) := by decide +kernel
theorem dX7_init_8 : decode cX7_init 8 = .ok (.dup, 1) := by decide +kernel
theorem dX7_init_9 : decode cX7_init 9 = .ok (.iload_n 1, 1) := by decide +kernel
theorem dX7_init_10 : decode cX7_init 10 = .ok (.iload_n 2, 1) := by decide +kernel
theorem dX7_init_11 : decode cX7_init 11 = .ok (.iload_n 3, 1) := by decide +kernel
theorem dX7_init_12 : decode cX7_init 12 = .ok (.iload 4, 2) := by decide +kernel
theorem dX7_init_14 : decode cX7_init 14 = .ok (.iload 5, 2) := by decide +kernel
theorem dX7_init_16 : decode cX7_init 16 = .ok (.iload 6, 2) := by decide +kernel
theorem dX7_init_18 : decode cX7_init 18 = .ok (.invokespecial 9, 3) := by decide +kernel
theorem dX7_init_21 : decode cX7_init 21 = .ok (.putfield 12, 3) := by decide +kernel
theorem dX7_init_24 : decode cX7_init 24 = .ok (.aload_n 0, 1) := by decide +kernel
theorem dX7_init_25 : decode cX7_init 25 = .ok (.new 18, 3) := by decide +kernel
theorem dX7_init_28 : decode cX7_init 28 = .ok (.dup, 1) := by decide +kernel
theorem dX7_init_29 : decode cX7_init 29 = .ok (.invokespecial 20, 3) := by decide +kernel
theorem dX7_init_32 : decode cX7_init 32 = .ok (.putfield 21, 3) := by decide +kernel
theorem dX7_init_35 : decode cX7_init 35 = .ok (.aload_n 0, 1) := by decide +kernel
theorem dX7_init_36 : decode cX7_init 36 = .ok (.new 25, 3) := by decide +kernel
theorem dX7_init_39 : decode cX7_init 39 = .ok (.dup, 1) := by decide +kernel
theorem dX7_init_40 : decode cX7_init 40 = .ok (.aload_n 0, 1) := by decide +kernel
theorem dX7_init_41 : decode cX7_init 41 = .ok (.getfield 12, 3) := by decide +kernel
theorem dX7_init_44 : decode cX7_init 44 = .ok (.aload_n 0, 1) := by decide +kernel
theorem dX7_init_45 : decode cX7_init 45 = .ok (.getfield 21, 3) := by decide +kernel
theorem dX7_init_48 : decode cX7_init 48 = .ok (.invokespecial 27, 3) := by decide +kernel
theorem dX7_init_51 : decode cX7_init 51 = .ok (.putfield 30, 3) := by decide +kernel
theorem dX7_init_54 : decode cX7_init 54 = .ok (.return_, 1) := by decide +kernel
theorem dX7_word_0 : decode cX7_word 0 = .ok (.iload_n 1, 1) := by decide +kernel
theorem dX7_word_1 : decode cX7_word 1 = .ok (.bipush 8, 2) := by decide +kernel
theorem dX7_word_3 : decode cX7_word 3 = .ok (.invokestatic 34, 3) := by decide +kernel
theorem dX7_word_6 : decode cX7_word 6 = .ok (.ifCond .ne 13, 3) := by decide +kernel
theorem dX7_word_9 : decode cX7_word 9 = .ok (.new 38, 3) := by decide +kernel
theorem dX7_word_12 : decode cX7_word 12 = .ok (.dup, 1) := by decide +kernel
theorem dX7_word_13 : decode cX7_word 13 = .ok (.ldc 40, 2) := by decide +kernel
theorem dX7_word_15 : decode cX7_word 15 = .ok (.invokespecial 42, 3) := by decide +kernel
theorem dX7_word_18 : decode cX7_word 18 = .ok (.athrow, 1) := by decide +kernel
theorem dX7_word_19 : decode cX7_word 19 = .ok (.iload_n 2, 1) := by decide +kernel
theorem dX7_word_20 : decode cX7_word 20 = .ok (.bipush 8, 2) := by decide +kernel
theorem dX7_word_22 : decode cX7_word 22 = .ok (.invokestatic 34, 3) := by decide +kernel
theorem dX7_word_25 : decode cX7_word 25 = .ok (.ifCond .eq 22, 3) := by decide +kernel
theorem dX7_word_28 : decode cX7_word 28 = .ok (.iload_n 3, 1) := by decide +kernel
theorem dX7_word_29 : decode cX7_word 29 = .ok (.bipush 8, 2) := by decide +kernel
theorem dX7_word_31 : decode cX7_word 31 = .ok (.invokestatic 34, 3) := by decide +kernel
theorem dX7_word_34 : decode cX7_word 34 = .ok (.ifCond .eq 13, 3) := by decide +kernel
theorem dX7_word_37 : decode cX7_word 37 = .ok (.iload 4, 2) := by decide +kernel
theorem dX7_word_39 : decode cX7_word 39 = .ok (.bipush 8, 2) := by decide +kernel
theorem dX7_word_41 : decode cX7_word 41 = .ok (.invokestatic 34, 3) := by decide +kernel
theorem dX7_word_44 : decode cX7_word 44 = .ok (.ifCond .ne 13, 3) := by decide +kernel
theorem dX7_word_47 : decode cX7_word 47 = .ok (.new 38, 3) := by decide +kernel
theorem dX7_word_50 : decode cX7_word 50 = .ok (.dup, 1) := by decide +kernel
theorem dX7_word_51 : decode cX7_word 51 = .ok (.ldc 45, 2) := by decide +kernel
theorem dX7_word_53 : decode cX7_word 53 = .ok (.invokespecial 42, 3) := by decide +kernel
theorem dX7_word_56 : decode cX7_word 56 = .ok (.athrow, 1) := by decide +kernel
theorem dX7_word_57 : decode cX7_word 57 = .ok (.aload_n 0, 1) := by decide +kernel
theorem dX7_word_58 : decode cX7_word 58 = .ok (.getfield 30, 3) := by decide +kernel
theorem dX7_word_61 : decode cX7_word 61 = .ok (.getfield 47, 3) := by decide +kernel
theorem dX7_word_64 : decode cX7_word 64 = .ok (.getfield 51, 3) := by decide +kernel
theorem dX7_word_67 : decode cX7_word 67 = .ok (.ifCond .eq 13, 3) := by decide +kernel
theorem dX7_word_70 : decode cX7_word 70 = .ok (.new 57, 3) := by decide +kernel
theorem dX7_word_73 : decode cX7_word 73 = .ok (.dup, 1) := by decide +kernel
theorem dX7_word_74 : decode cX7_word 74 = .ok (.ldc 59, 2) := by decide +kernel
theorem dX7_word_76 : decode cX7_word 76 = .ok (.invokespecial 61, 3) := by decide +kernel
theorem dX7_word_79 : decode cX7_word 79 = .ok (.athrow, 1) := by decide +kernel
theorem dX7_word_80 : decode cX7_word 80 = .ok (.aload_n 0, 1) := by decide +kernel
theorem dX7_word_81 : decode cX7_word 81 = .ok (.getfield 21, 3) := by decide +kernel
theorem dX7_word_84 : decode cX7_word 84 = .ok (.invokevirtual 62, 3) := by decide +kernel
theorem dX7_word_87 : decode cX7_word 87 = .ok (.bipush 64, 2) := by decide +kernel
theorem dX7_word_89 : decode cX7_word 89 = .ok (.if_icmp .lt 13, 3) := by decide +kernel
theorem dX7_word_92 : decode cX7_word 92 = .ok (.new 66, 3) := by decide +kernel
theorem dX7_word_95 : decode cX7_word 95 = .ok (.dup, 1) := by decide +kernel
theorem dX7_word_96 : decode cX7_word 96 = .ok (.ldc 68, 2) := by decide +kernel
theorem dX7_word_98 : decode cX7_word 98 = .ok (.invokespecial 70, 3) := by decide +kernel
theorem dX7_word_101 : decode cX7_word 101 = .ok (.athrow, 1) := by decide +kernel
theorem dX7_word_102 : decode cX7_word 102 = .ok (.aload_n 0, 1) := by decide +kernel
theorem dX7_word_103 : decode cX7_word 103 = .ok (.getfield 21, 3) := by decide +kernel
theorem dX7_word_106 : decode cX7_word 106 = .ok (.iload_n 1, 1) := by decide +kernel
theorem dX7_word_107 : decode cX7_word 107 = .ok (.iload_n 2, 1) := by decide +kernel
theorem dX7_word_108 : decode cX7_word 108 = .ok (.iload_n 3, 1) := by decide +kernel
theorem dX7_word_109 : decode cX7_word 109 = .ok (.iload 4, 2) := by decide +kernel
theorem dX7_word_111 : decode cX7_word 111 = .ok (.iload 5, 2) := by decide +kernel
theorem dX7_word_113 : decode cX7_word 113 = .ok (.invokevirtual 71, 3) := by decide +kernel
theorem dX7_word_116 : decode cX7_word 116 = .ok (.ireturn, 1) := by decide +kernel
theorem dX7_set_0 : decode cX7_set 0 = .ok (.iload_n 2, 1) := by decide +kernel
theorem dX7_set_1 : decode cX7_set 1 = .ok (.bipush 64, 2) := by decide +kernel
theorem dX7_set_3 : decode cX7_set 3 = .ok (.invokestatic 34, 3) := by decide +kernel
theorem dX7_set_6 : decode cX7_set 6 = .ok (.ifCond .ne 13, 3) := by decide +kernel
theorem dX7_set_9 : decode cX7_set 9 = .ok (.new 38, 3) := by decide +kernel
theorem dX7_set_12 : decode cX7_set 12 = .ok (.dup, 1) := by decide +kernel
theorem dX7_set_13 : decode cX7_set 13 = .ok (.ldc 75, 2) := by decide +kernel
theorem dX7_set_15 : decode cX7_set 15 = .ok (.invokespecial 42, 3) := by decide +kernel
theorem dX7_set_18 : decode cX7_set 18 = .ok (.athrow, 1) := by decide +kernel
theorem dX7_set_19 : decode cX7_set 19 = .ok (.aload_n 0, 1) := by decide +kernel
theorem dX7_set_20 : decode cX7_set 20 = .ok (.getfield 30, 3) := by decide +kernel
theorem dX7_set_23 : decode cX7_set 23 = .ok (.getfield 47, 3) := by decide +kernel
theorem dX7_set_26 : decode cX7_set 26 = .ok (.getfield 51, 3) := by decide +kernel
theorem dX7_set_29 : decode cX7_set 29 = .ok (.ifCond .eq 13, 3) := by decide +kernel
theorem dX7_set_32 : decode cX7_set 32 = .ok (.new 57, 3) := by decide +kernel
theorem dX7_set_35 : decode cX7_set 35 = .ok (.dup, 1) := by decide +kernel
theorem dX7_set_36 : decode cX7_set 36 = .ok (.ldc 59, 2) := by decide +kernel
theorem dX7_set_38 : decode cX7_set 38 = .ok (.invokespecial 61, 3) := by decide +kernel
theorem dX7_set_41 : decode cX7_set 41 = .ok (.athrow, 1) := by decide +kernel
theorem dX7_set_42 : decode cX7_set 42 = .ok (.aload_n 0, 1) := by decide +kernel
theorem dX7_set_43 : decode cX7_set 43 = .ok (.getfield 30, 3) := by decide +kernel
theorem dX7_set_46 : decode cX7_set 46 = .ok (.getfield 77, 3) := by decide +kernel
theorem dX7_set_49 : decode cX7_set 49 = .ok (.istore_n 3, 1) := by decide +kernel
theorem dX7_set_50 : decode cX7_set 50 = .ok (.aload_n 0, 1) := by decide +kernel
theorem dX7_set_51 : decode cX7_set 51 = .ok (.getfield 30, 3) := by decide +kernel
theorem dX7_set_54 : decode cX7_set 54 = .ok (.iload_n 1, 1) := by decide +kernel
theorem dX7_set_55 : decode cX7_set 55 = .ok (.putfield 77, 3) := by decide +kernel
theorem dX7_set_58 : decode cX7_set 58 = .ok (.aload_n 0, 1) := by decide +kernel
theorem dX7_set_59 : decode cX7_set 59 = .ok (.getfield 30, 3) := by decide +kernel
theorem dX7_set_62 : decode cX7_set 62 = .ok (.iload_n 2, 1) := by decide +kernel
theorem dX7_set_63 : decode cX7_set 63 = .ok (.putfield 81, 3) := by decide +kernel
theorem dX7_set_66 : decode cX7_set 66 = .ok (.iload_n 3, 1) := by decide +kernel
theorem dX7_set_67 : decode cX7_set 67 = .ok (.ireturn, 1) := by decide +kernel
theorem dX7_clear_0 : decode cX7_clear 0 = .ok (.aload_n 0, 1) := by decide +kernel
theorem dX7_clear_1 : decode cX7_clear 1 = .ok (.getfield 30, 3) := by decide +kernel
theorem dX7_clear_4 : decode cX7_clear 4 = .ok (.getfield 47, 3) := by decide +kernel
theorem dX7_clear_7 : decode cX7_clear 7 = .ok (.getfield 51, 3) := by decide +kernel
theorem dX7_clear_10 : decode cX7_clear 10 = .ok (.istore_n 1, 1) := by decide +kernel
theorem dX7_clear_11 : decode cX7_clear 11 = .ok (.aload_n 0, 1) := by decide +kernel
theorem dX7_clear_12 : decode cX7_clear 12 = .ok (.getfield 21, 3) := by decide +kernel
theorem dX7_clear_15 : decode cX7_clear 15 = .ok (.invokevirtual 84, 3) := by decide +kernel
theorem dX7_clear_18 : decode cX7_clear 18 = .ok (.aload_n 0, 1) := by decide +kernel
theorem dX7_clear_19 : decode cX7_clear 19 = .ok (.getfield 30, 3) := by decide +kernel
theorem dX7_clear_22 : decode cX7_clear 22 = .ok (.invokevirtual 87, 3) := by decide +kernel
theorem dX7_clear_25 : decode cX7_clear 25 = .ok (.iload_n 1, 1) := by decide +kernel
theorem dX7_clear_26 : decode cX7_clear 26 = .ok (.ireturn, 1) := by decide +kernel
theorem dX7_run_0 : decode cX7_run 0 = .ok (.iload_n 1, 1) := by decide +kernel
theorem dX7_run_1 : decode cX7_run 1 = .ok (.iconst 1, 1) := by decide +kernel
theorem dX7_run_2 : decode cX7_run 2 = .ok (.if_icmp .lt 10, 3) := by decide +kernel
theorem dX7_run_5 : decode cX7_run 5 = .ok (.iload_n 1, 1) := by decide +kernel
theorem dX7_run_6 : decode cX7_run 6 = .ok (.sipush 2000, 3) := by decide +kernel
theorem dX7_run_9 : decode cX7_run 9 = .ok (.if_icmp .le 13, 3) := by decide +kernel
theorem dX7_run_12 : decode cX7_run 12 = .ok (.new 38, 3) := by decide +kernel
theorem dX7_run_15 : decode cX7_run 15 = .ok (.dup, 1) := by decide +kernel
theorem dX7_run_16 : decode cX7_run 16 = .ok (.ldc 90, 2) := by decide +kernel
theorem dX7_run_18 : decode cX7_run 18 = .ok (.invokespecial 42, 3) := by decide +kernel
theorem dX7_run_21 : decode cX7_run 21 = .ok (.athrow, 1) := by decide +kernel
theorem dX7_run_22 : decode cX7_run 22 = .ok (.aload_n 0, 1) := by decide +kernel
theorem dX7_run_23 : decode cX7_run 23 = .ok (.getfield 21, 3) := by decide +kernel
theorem dX7_run_26 : decode cX7_run 26 = .ok (.invokevirtual 62, 3) := by decide +kernel
theorem dX7_run_29 : decode cX7_run 29 = .ok (.ifCond .ne 13, 3) := by decide +kernel
theorem dX7_run_32 : decode cX7_run 32 = .ok (.new 57, 3) := by decide +kernel
theorem dX7_run_35 : decode cX7_run 35 = .ok (.dup, 1) := by decide +kernel
theorem dX7_run_36 : decode cX7_run 36 = .ok (.ldc 92, 2) := by decide +kernel
theorem dX7_run_38 : decode cX7_run 38 = .ok (.invokespecial 61, 3) := by decide +kernel
theorem dX7_run_41 : decode cX7_run 41 = .ok (.athrow, 1) := by decide +kernel
theorem dX7_run_42 : decode cX7_run 42 = .ok (.iconst 0, 1) := by decide +kernel
theorem dX7_run_43 : decode cX7_run 43 = .ok (.istore_n 2, 1) := by decide +kernel
theorem dX7_run_44 : decode cX7_run 44 = .ok (.iload_n 2, 1) := by decide +kernel
theorem dX7_run_45 : decode cX7_run 45 = .ok (.iload_n 1, 1) := by decide +kernel
theorem dX7_run_46 : decode cX7_run 46 = .ok (.if_icmp .ge 29, 3) := by decide +kernel
theorem dX7_run_49 : decode cX7_run 49 = .ok (.aload_n 0, 1) := by decide +kernel
theorem dX7_run_50 : decode cX7_run 50 = .ok (.getfield 30, 3) := by decide +kernel
theorem dX7_run_53 : decode cX7_run 53 = .ok (.getfield 47, 3) := by decide +kernel
theorem dX7_run_56 : decode cX7_run 56 = .ok (.getfield 94, 3) := by decide +kernel
theorem dX7_run_59 : decode cX7_run 59 = .ok (.ifCond .ne 16, 3) := by decide +kernel
theorem dX7_run_62 : decode cX7_run 62 = .ok (.aload_n 0, 1) := by decide +kernel
theorem dX7_run_63 : decode cX7_run 63 = .ok (.getfield 30, 3) := by decide +kernel
theorem dX7_run_66 : decode cX7_run 66 = .ok (.invokevirtual 97, 3) := by decide +kernel
theorem dX7_run_69 : decode cX7_run 69 = .ok (.iinc 2 1, 3) := by decide +kernel
theorem dX7_run_72 : decode cX7_run 72 = .ok (.goto (-28), 3) := by decide +kernel
theorem dX7_run_75 : decode cX7_run 75 = .ok (.iload_n 2, 1) := by decide +kernel
theorem dX7_run_76 : decode cX7_run 76 = .ok (.ireturn, 1) := by decide +kernel
theorem dX7_stage_0 : decode cX7_stage 0 = .ok (.iload_n 1, 1) := by decide +kernel
theorem dX7_stage_1 : decode cX7_stage 1 = .ok (.aload_n 0, 1) := by decide +kernel
theorem dX7_stage_2 : decode cX7_stage 2 = .ok (.getfield 12, 3) := by decide +kernel
theorem dX7_stage_5 : decode cX7_stage 5 = .ok (.getfield 100, 3) := by decide +kernel
theorem dX7_stage_8 : decode cX7_stage 8 = .ok (.invokestatic 34, 3) := by decide +kernel
theorem dX7_stage_11 : decode cX7_stage 11 = .ok (.ifCond .eq 11, 3) := by decide +kernel
theorem dX7_stage_14 : decode cX7_stage 14 = .ok (.iload_n 2, 1) := by decide +kernel
theorem dX7_stage_15 : decode cX7_stage 15 = .ok (.iconst 2, 1) := by decide +kernel
theorem dX7_stage_16 : decode cX7_stage 16 = .ok (.invokestatic 34, 3) := by decide +kernel
theorem dX7_stage_19 : decode cX7_stage 19 = .ok (.ifCond .ne 13, 3) := by decide +kernel
theorem dX7_stage_22 : decode cX7_stage 22 = .ok (.new 103, 3) := by decide +kernel
theorem dX7_stage_25 : decode cX7_stage 25 = .ok (.dup, 1) := by decide +kernel
theorem dX7_stage_26 : decode cX7_stage 26 = .ok (.ldc 105, 2) := by decide +kernel
theorem dX7_stage_28 : decode cX7_stage 28 = .ok (.invokespecial 107, 3) := by decide +kernel
theorem dX7_stage_31 : decode cX7_stage 31 = .ok (.athrow, 1) := by decide +kernel
theorem dX7_stage_32 : decode cX7_stage 32 = .ok (.iload_n 2, 1) := by decide +kernel
theorem dX7_stage_33 : decode cX7_stage 33 = .ok (.ifCond .ne 15, 3) := by decide +kernel
theorem dX7_stage_36 : decode cX7_stage 36 = .ok (.aload_n 0, 1) := by decide +kernel
theorem dX7_stage_37 : decode cX7_stage 37 = .ok (.getfield 30, 3) := by decide +kernel
theorem dX7_stage_40 : decode cX7_stage 40 = .ok (.getfield 108, 3) := by decide +kernel
theorem dX7_stage_43 : decode cX7_stage 43 = .ok (.iload_n 1, 1) := by decide +kernel
theorem dX7_stage_44 : decode cX7_stage 44 = .ok (.invokevirtual 112, 3) := by decide +kernel
theorem dX7_stage_47 : decode cX7_stage 47 = .ok (.ireturn, 1) := by decide +kernel
theorem dX7_stage_48 : decode cX7_stage 48 = .ok (.aload_n 0, 1) := by decide +kernel
theorem dX7_stage_49 : decode cX7_stage 49 = .ok (.getfield 30, 3) := by decide +kernel
theorem dX7_stage_52 : decode cX7_stage 52 = .ok (.getfield 108, 3) := by decide +kernel
theorem dX7_stage_55 : decode cX7_stage 55 = .ok (.iload_n 1, 1) := by decide +kernel
theorem dX7_stage_56 : decode cX7_stage 56 = .ok (.invokevirtual 118, 3) := by decide +kernel
theorem dX7_stage_59 : decode cX7_stage 59 = .ok (.ifCond .eq 7, 3) := by decide +kernel
theorem dX7_stage_62 : decode cX7_stage 62 = .ok (.iconst 1, 1) := by decide +kernel
theorem dX7_stage_63 : decode cX7_stage 63 = .ok (.goto 4, 3) := by decide +kernel
theorem dX7_stage_66 : decode cX7_stage 66 = .ok (.iconst 0, 1) := by decide +kernel
theorem dX7_stage_67 : decode cX7_stage 67 = .ok (.ireturn, 1) := by decide +kernel
theorem dX7_committed_0 : decode cX7_committed 0 = .ok (.iload_n 1, 1) := by decide +kernel
theorem dX7_committed_1 : decode cX7_committed 1 = .ok (.aload_n 0, 1) := by decide +kernel
theorem dX7_committed_2 : decode cX7_committed 2 = .ok (.getfield 30, 3) := by decide +kernel
theorem dX7_committed_5 : decode cX7_committed 5 = .ok (.getfield 122, 3) := by decide +kernel
theorem dX7_committed_8 : decode cX7_committed 8 = .ok (.invokevirtual 126, 3) := by decide +kernel
theorem dX7_committed_11 : decode cX7_committed 11 = .ok (.invokestatic 34, 3) := by decide +kernel
theorem dX7_committed_14 : decode cX7_committed 14 = .ok (.ifCond .eq 11, 3) := by decide +kernel
theorem dX7_committed_17 : decode cX7_committed 17 = .ok (.iload_n 2, 1) := by decide +kernel
theorem dX7_committed_18 : decode cX7_committed 18 = .ok (.iconst 3, 1) := by decide +kernel
theorem dX7_committed_19 : decode cX7_committed 19 = .ok (.invokestatic 34, 3) := by decide +kernel
theorem dX7_committed_22 : decode cX7_committed 22 = .ok (.ifCond .ne 13, 3) := by decide +kernel
theorem dX7_committed_25 : decode cX7_committed 25 = .ok (.new 103, 3) := by decide +kernel
theorem dX7_committed_28 : decode cX7_committed 28 = .ok (.dup, 1) := by decide +kernel
theorem dX7_committed_29 : decode cX7_committed 29 = .ok (.ldc 129, 2) := by decide +kernel
theorem dX7_committed_31 : decode cX7_committed 31 = .ok (.invokespecial 107, 3) := by decide +kernel
theorem dX7_committed_34 : decode cX7_committed 34 = .ok (.athrow, 1) := by decide +kernel
theorem dX7_committed_35 : decode cX7_committed 35 = .ok (.aload_n 0, 1) := by decide +kernel
theorem dX7_committed_36 : decode cX7_committed 36 = .ok (.getfield 30, 3) := by decide +kernel
theorem dX7_committed_39 : decode cX7_committed 39 = .ok (.getfield 122, 3) := by decide +kernel
theorem dX7_committed_42 : decode cX7_committed 42 = .ok (.iload_n 1, 1) := by decide +kernel
theorem dX7_committed_43 : decode cX7_committed 43 = .ok (.iload_n 2, 1) := by decide +kernel
theorem dX7_committed_44 : decode cX7_committed 44 = .ok (.invokevirtual 131, 3) := by decide +kernel
theorem dX7_committed_47 : decode cX7_committed 47 = .ok (.ireturn, 1) := by decide +kernel
theorem dX7_register_0 : decode cX7_register 0 = .ok (.iload_n 1, 1) := by decide +kernel
theorem dX7_register_1 : decode cX7_register 1 = .ok (.bipush 8, 2) := by decide +kernel
theorem dX7_register_3 : decode cX7_register 3 = .ok (.invokestatic 34, 3) := by decide +kernel
theorem dX7_register_6 : decode cX7_register 6 = .ok (.ifCond .ne 13, 3) := by decide +kernel
theorem dX7_register_9 : decode cX7_register 9 = .ok (.new 103, 3) := by decide +kernel
theorem dX7_register_12 : decode cX7_register 12 = .ok (.dup, 1) := by decide +kernel
theorem dX7_register_13 : decode cX7_register 13 = .ok (.ldc 45, 2) := by decide +kernel
theorem dX7_register_15 : decode cX7_register 15 = .ok (.invokespecial 107, 3) := by decide +kernel
theorem dX7_register_18 : decode cX7_register 18 = .ok (.athrow, 1) := by decide +kernel
theorem dX7_register_19 : decode cX7_register 19 = .ok (.aload_n 0, 1) := by decide +kernel
theorem dX7_register_20 : decode cX7_register 20 = .ok (.getfield 30, 3) := by decide +kernel
theorem dX7_register_23 : decode cX7_register 23 = .ok (.getfield 135, 3) := by decide +kernel
theorem dX7_register_26 : decode cX7_register 26 = .ok (.iload_n 1, 1) := by decide +kernel
theorem dX7_register_27 : decode cX7_register 27 = .ok (.invokevirtual 139, 3) := by decide +kernel
theorem dX7_register_30 : decode cX7_register 30 = .ok (.ireturn, 1) := by decide +kernel
theorem dX7_memory_0 : decode cX7_memory 0 = .ok (.iload_n 1, 1) := by decide +kernel
theorem dX7_memory_1 : decode cX7_memory 1 = .ok (.bipush 64, 2) := by decide +kernel
theorem dX7_memory_3 : decode cX7_memory 3 = .ok (.invokestatic 34, 3) := by decide +kernel
theorem dX7_memory_6 : decode cX7_memory 6 = .ok (.ifCond .ne 13, 3) := by decide +kernel
theorem dX7_memory_9 : decode cX7_memory 9 = .ok (.new 103, 3) := by decide +kernel
theorem dX7_memory_12 : decode cX7_memory 12 = .ok (.dup, 1) := by decide +kernel
theorem dX7_memory_13 : decode cX7_memory 13 = .ok (.ldc 144, 2) := by decide +kernel
theorem dX7_memory_15 : decode cX7_memory 15 = .ok (.invokespecial 107, 3) := by decide +kernel
theorem dX7_memory_18 : decode cX7_memory 18 = .ok (.athrow, 1) := by decide +kernel
theorem dX7_memory_19 : decode cX7_memory 19 = .ok (.aload_n 0, 1) := by decide +kernel
theorem dX7_memory_20 : decode cX7_memory 20 = .ok (.getfield 30, 3) := by decide +kernel
theorem dX7_memory_23 : decode cX7_memory 23 = .ok (.getfield 135, 3) := by decide +kernel
theorem dX7_memory_26 : decode cX7_memory 26 = .ok (.iload_n 1, 1) := by decide +kernel
theorem dX7_memory_27 : decode cX7_memory 27 = .ok (.invokevirtual 146, 3) := by decide +kernel
theorem dX7_memory_30 : decode cX7_memory 30 = .ok (.ireturn, 1) := by decide +kernel
theorem dX7_cause_0 : decode cX7_cause 0 = .ok (.iload_n 1, 1) := by decide +kernel
theorem dX7_cause_1 : decode cX7_cause 1 = .ok (.iconst 5, 1) := by decide +kernel
theorem dX7_cause_2 : decode cX7_cause 2 = .ok (.invokestatic 34, 3) := by decide +kernel
theorem dX7_cause_5 : decode cX7_cause 5 = .ok (.ifCond .ne 13, 3) := by decide +kernel
theorem dX7_cause_8 : decode cX7_cause 8 = .ok (.new 103, 3) := by decide +kernel
theorem dX7_cause_11 : decode cX7_cause 11 = .ok (.dup, 1) := by decide +kernel
theorem dX7_cause_12 : decode cX7_cause 12 = .ok (.ldc 149, 2) := by decide +kernel
theorem dX7_cause_14 : decode cX7_cause 14 = .ok (.invokespecial 107, 3) := by decide +kernel
theorem dX7_cause_17 : decode cX7_cause 17 = .ok (.athrow, 1) := by decide +kernel
theorem dX7_cause_18 : decode cX7_cause 18 = .ok (.aload_n 0, 1) := by decide +kernel
theorem dX7_cause_19 : decode cX7_cause 19 = .ok (.getfield 30, 3) := by decide +kernel
theorem dX7_cause_22 : decode cX7_cause 22 = .ok (.getfield 47, 3) := by decide +kernel
theorem dX7_cause_25 : decode cX7_cause 25 = .ok (.iload_n 1, 1) := by decide +kernel
theorem dX7_cause_26 : decode cX7_cause 26 = .ok (.invokevirtual 151, 3) := by decide +kernel
theorem dX7_cause_29 : decode cX7_cause 29 = .ok (.ireturn, 1) := by decide +kernel
theorem dX7_count_0 : decode cX7_count 0 = .ok (.iload_n 1, 1) := by decide +kernel
theorem dX7_count_1 : decode cX7_count 1 = .ok (.tableswitch 212 0 13 #[71, 82, 93, 104, 115, 126, 145, 153, 161, 169, 177, 185, 193, 201], 71) := by decide +kernel
theorem dX7_count_72 : decode cX7_count 72 = .ok (.aload_n 0, 1) := by decide +kernel
theorem dX7_count_73 : decode cX7_count 73 = .ok (.getfield 30, 3) := by decide +kernel
theorem dX7_count_76 : decode cX7_count 76 = .ok (.getfield 47, 3) := by decide +kernel
theorem dX7_count_79 : decode cX7_count 79 = .ok (.getfield 51, 3) := by decide +kernel
theorem dX7_count_82 : decode cX7_count 82 = .ok (.ireturn, 1) := by decide +kernel
theorem dX7_count_83 : decode cX7_count 83 = .ok (.aload_n 0, 1) := by decide +kernel
theorem dX7_count_84 : decode cX7_count 84 = .ok (.getfield 30, 3) := by decide +kernel
theorem dX7_count_87 : decode cX7_count 87 = .ok (.getfield 47, 3) := by decide +kernel
theorem dX7_count_90 : decode cX7_count 90 = .ok (.getfield 154, 3) := by decide +kernel
theorem dX7_count_93 : decode cX7_count 93 = .ok (.ireturn, 1) := by decide +kernel
theorem dX7_count_94 : decode cX7_count 94 = .ok (.aload_n 0, 1) := by decide +kernel
theorem dX7_count_95 : decode cX7_count 95 = .ok (.getfield 30, 3) := by decide +kernel
theorem dX7_count_98 : decode cX7_count 98 = .ok (.getfield 47, 3) := by decide +kernel
theorem dX7_count_101 : decode cX7_count 101 = .ok (.getfield 157, 3) := by decide +kernel
theorem dX7_count_104 : decode cX7_count 104 = .ok (.ireturn, 1) := by decide +kernel
theorem dX7_count_105 : decode cX7_count 105 = .ok (.aload_n 0, 1) := by decide +kernel
theorem dX7_count_106 : decode cX7_count 106 = .ok (.getfield 30, 3) := by decide +kernel
theorem dX7_count_109 : decode cX7_count 109 = .ok (.getfield 47, 3) := by decide +kernel
theorem dX7_count_112 : decode cX7_count 112 = .ok (.getfield 160, 3) := by decide +kernel
theorem dX7_count_115 : decode cX7_count 115 = .ok (.ireturn, 1) := by decide +kernel
theorem dX7_count_116 : decode cX7_count 116 = .ok (.aload_n 0, 1) := by decide +kernel
theorem dX7_count_117 : decode cX7_count 117 = .ok (.getfield 30, 3) := by decide +kernel
theorem dX7_count_120 : decode cX7_count 120 = .ok (.getfield 47, 3) := by decide +kernel
theorem dX7_count_123 : decode cX7_count 123 = .ok (.getfield 163, 3) := by decide +kernel
theorem dX7_count_126 : decode cX7_count 126 = .ok (.ireturn, 1) := by decide +kernel
theorem dX7_count_127 : decode cX7_count 127 = .ok (.aload_n 0, 1) := by decide +kernel
theorem dX7_count_128 : decode cX7_count 128 = .ok (.getfield 30, 3) := by decide +kernel
theorem dX7_count_131 : decode cX7_count 131 = .ok (.getfield 47, 3) := by decide +kernel
theorem dX7_count_134 : decode cX7_count 134 = .ok (.getfield 94, 3) := by decide +kernel
theorem dX7_count_137 : decode cX7_count 137 = .ok (.ifCond .eq 7, 3) := by decide +kernel
theorem dX7_count_140 : decode cX7_count 140 = .ok (.iconst 1, 1) := by decide +kernel
theorem dX7_count_141 : decode cX7_count 141 = .ok (.goto 4, 3) := by decide +kernel
theorem dX7_count_144 : decode cX7_count 144 = .ok (.iconst 0, 1) := by decide +kernel
theorem dX7_count_145 : decode cX7_count 145 = .ok (.ireturn, 1) := by decide +kernel
theorem dX7_count_146 : decode cX7_count 146 = .ok (.aload_n 0, 1) := by decide +kernel
theorem dX7_count_147 : decode cX7_count 147 = .ok (.getfield 12, 3) := by decide +kernel
theorem dX7_count_150 : decode cX7_count 150 = .ok (.getfield 100, 3) := by decide +kernel
theorem dX7_count_153 : decode cX7_count 153 = .ok (.ireturn, 1) := by decide +kernel
theorem dX7_count_154 : decode cX7_count 154 = .ok (.aload_n 0, 1) := by decide +kernel
theorem dX7_count_155 : decode cX7_count 155 = .ok (.getfield 12, 3) := by decide +kernel
theorem dX7_count_158 : decode cX7_count 158 = .ok (.getfield 166, 3) := by decide +kernel
theorem dX7_count_161 : decode cX7_count 161 = .ok (.ireturn, 1) := by decide +kernel
theorem dX7_count_162 : decode cX7_count 162 = .ok (.aload_n 0, 1) := by decide +kernel
theorem dX7_count_163 : decode cX7_count 163 = .ok (.getfield 12, 3) := by decide +kernel
theorem dX7_count_166 : decode cX7_count 166 = .ok (.getfield 169, 3) := by decide +kernel
theorem dX7_count_169 : decode cX7_count 169 = .ok (.ireturn, 1) := by decide +kernel
theorem dX7_count_170 : decode cX7_count 170 = .ok (.aload_n 0, 1) := by decide +kernel
theorem dX7_count_171 : decode cX7_count 171 = .ok (.getfield 12, 3) := by decide +kernel
theorem dX7_count_174 : decode cX7_count 174 = .ok (.getfield 172, 3) := by decide +kernel
theorem dX7_count_177 : decode cX7_count 177 = .ok (.ireturn, 1) := by decide +kernel
theorem dX7_count_178 : decode cX7_count 178 = .ok (.aload_n 0, 1) := by decide +kernel
theorem dX7_count_179 : decode cX7_count 179 = .ok (.getfield 12, 3) := by decide +kernel
theorem dX7_count_182 : decode cX7_count 182 = .ok (.getfield 175, 3) := by decide +kernel
theorem dX7_count_185 : decode cX7_count 185 = .ok (.ireturn, 1) := by decide +kernel
theorem dX7_count_186 : decode cX7_count 186 = .ok (.aload_n 0, 1) := by decide +kernel
theorem dX7_count_187 : decode cX7_count 187 = .ok (.getfield 12, 3) := by decide +kernel
theorem dX7_count_190 : decode cX7_count 190 = .ok (.getfield 178, 3) := by decide +kernel
theorem dX7_count_193 : decode cX7_count 193 = .ok (.ireturn, 1) := by decide +kernel
theorem dX7_count_194 : decode cX7_count 194 = .ok (.aload_n 0, 1) := by decide +kernel
theorem dX7_count_195 : decode cX7_count 195 = .ok (.getfield 21, 3) := by decide +kernel
theorem dX7_count_198 : decode cX7_count 198 = .ok (.invokevirtual 62, 3) := by decide +kernel
theorem dX7_count_201 : decode cX7_count 201 = .ok (.ireturn, 1) := by decide +kernel
theorem dX7_count_202 : decode cX7_count 202 = .ok (.aload_n 0, 1) := by decide +kernel
theorem dX7_count_203 : decode cX7_count 203 = .ok (.getfield 30, 3) := by decide +kernel
theorem dX7_count_206 : decode cX7_count 206 = .ok (.getfield 47, 3) := by decide +kernel
theorem dX7_count_209 : decode cX7_count 209 = .ok (.getfield 181, 3) := by decide +kernel
theorem dX7_count_212 : decode cX7_count 212 = .ok (.ireturn, 1) := by decide +kernel
theorem dX7_count_213 : decode cX7_count 213 = .ok (.iconst (-1), 1) := by decide +kernel
theorem dX7_count_214 : decode cX7_count 214 = .ok (.ireturn, 1) := by decide +kernel
theorem dX7_isBelow_0 : decode cX7_isBelow 0 = .ok (.iload_n 0, 1) := by decide +kernel
theorem dX7_isBelow_1 : decode cX7_isBelow 1 = .ok (.ifCond .lt 12, 3) := by decide +kernel
theorem dX7_isBelow_4 : decode cX7_isBelow 4 = .ok (.iload_n 0, 1) := by decide +kernel
theorem dX7_isBelow_5 : decode cX7_isBelow 5 = .ok (.iload_n 1, 1) := by decide +kernel
theorem dX7_isBelow_6 : decode cX7_isBelow 6 = .ok (.if_icmp .ge 7, 3) := by decide +kernel
theorem dX7_isBelow_9 : decode cX7_isBelow 9 = .ok (.iconst 1, 1) := by decide +kernel
theorem dX7_isBelow_10 : decode cX7_isBelow 10 = .ok (.goto 4, 3) := by decide +kernel
theorem dX7_isBelow_13 : decode cX7_isBelow 13 = .ok (.iconst 0, 1) := by decide +kernel
theorem dX7_isBelow_14 : decode cX7_isBelow 14 = .ok (.ireturn, 1) := by decide +kernel
theorem dX0_init_0 : decode cX0_init 0 = .ok (.aload_n 0, 1) := by decide +kernel
theorem dX0_init_1 : decode cX0_init 1 = .ok (.invokespecial 3, 3) := by decide +kernel
theorem dX0_init_4 : decode cX0_init 4 = .ok (.aload_n 0, 1) := by decide +kernel
theorem dX0_init_5 : decode cX0_init 5 = .ok (.sipush 400, 3) := by decide +kernel
theorem dX0_init_8 : decode cX0_init 8 = .ok (.newarray .int, 2) := by decide +kernel
theorem dX0_init_10 : decode cX0_init 10 = .ok (.putfield 9, 3) := by decide +kernel
theorem dX0_init_13 : decode cX0_init 13 = .ok (.aload_n 0, 1) := by decide +kernel
theorem dX0_init_14 : decode cX0_init 14 = .ok (.sipush 400, 3) := by decide +kernel
theorem dX0_init_17 : decode cX0_init 17 = .ok (.newarray .int, 2) := by decide +kernel
theorem dX0_init_19 : decode cX0_init 19 = .ok (.putfield 15, 3) := by decide +kernel
theorem dX0_init_22 : decode cX0_init 22 = .ok (.aload_n 0, 1) := by decide +kernel
theorem dX0_init_23 : decode cX0_init 23 = .ok (.sipush 400, 3) := by decide +kernel
theorem dX0_init_26 : decode cX0_init 26 = .ok (.newarray .int, 2) := by decide +kernel
theorem dX0_init_28 : decode cX0_init 28 = .ok (.putfield 18, 3) := by decide +kernel
theorem dX0_init_31 : decode cX0_init 31 = .ok (.return_, 1) := by decide +kernel
theorem dX0_beginAnew_0 : decode cX0_beginAnew 0 = .ok (.aload_n 0, 1) := by decide +kernel
theorem dX0_beginAnew_1 : decode cX0_beginAnew 1 = .ok (.iconst 0, 1) := by decide +kernel
theorem dX0_beginAnew_2 : decode cX0_beginAnew 2 = .ok (.putfield 21, 3) := by decide +kernel
theorem dX0_beginAnew_5 : decode cX0_beginAnew 5 = .ok (.aload_n 0, 1) := by decide +kernel
theorem dX0_beginAnew_6 : decode cX0_beginAnew 6 = .ok (.iconst 0, 1) := by decide +kernel
theorem dX0_beginAnew_7 : decode cX0_beginAnew 7 = .ok (.putfield 25, 3) := by decide +kernel
theorem dX0_beginAnew_10 : decode cX0_beginAnew 10 = .ok (.return_, 1) := by decide +kernel
theorem dX0_size_0 : decode cX0_size 0 = .ok (.aload_n 0, 1) := by decide +kernel
theorem dX0_size_1 : decode cX0_size 1 = .ok (.getfield 25, 3) := by decide +kernel
theorem dX0_size_4 : decode cX0_size 4 = .ok (.ireturn, 1) := by decide +kernel
theorem dX0_append_0 : decode cX0_append 0 = .ok (.aload_n 0, 1) := by decide +kernel
theorem dX0_append_1 : decode cX0_append 1 = .ok (.getfield 21, 3) := by decide +kernel
theorem dX0_append_4 : decode cX0_append 4 = .ok (.aload_n 0, 1) := by decide +kernel
theorem dX0_append_5 : decode cX0_append 5 = .ok (.getfield 25, 3) := by decide +kernel
theorem dX0_append_8 : decode cX0_append 8 = .ok (.iadd, 1) := by decide +kernel
theorem dX0_append_9 : decode cX0_append 9 = .ok (.sipush 400, 3) := by decide +kernel
theorem dX0_append_12 : decode cX0_append 12 = .ok (.invokestatic 28, 3) := by decide +kernel
theorem dX0_append_15 : decode cX0_append 15 = .ok (.istore 4, 2) := by decide +kernel
theorem dX0_append_17 : decode cX0_append 17 = .ok (.aload_n 0, 1) := by decide +kernel
theorem dX0_append_18 : decode cX0_append 18 = .ok (.getfield 9, 3) := by decide +kernel
theorem dX0_append_21 : decode cX0_append 21 = .ok (.iload 4, 2) := by decide +kernel
theorem dX0_append_23 : decode cX0_append 23 = .ok (.iload_n 1, 1) := by decide +kernel
theorem dX0_append_24 : decode cX0_append 24 = .ok (.iastore, 1) := by decide +kernel
theorem dX0_append_25 : decode cX0_append 25 = .ok (.aload_n 0, 1) := by decide +kernel
theorem dX0_append_26 : decode cX0_append 26 = .ok (.getfield 15, 3) := by decide +kernel
theorem dX0_append_29 : decode cX0_append 29 = .ok (.iload 4, 2) := by decide +kernel
theorem dX0_append_31 : decode cX0_append 31 = .ok (.iload_n 2, 1) := by decide +kernel
theorem dX0_append_32 : decode cX0_append 32 = .ok (.iastore, 1) := by decide +kernel
theorem dX0_append_33 : decode cX0_append 33 = .ok (.aload_n 0, 1) := by decide +kernel
theorem dX0_append_34 : decode cX0_append 34 = .ok (.getfield 18, 3) := by decide +kernel
theorem dX0_append_37 : decode cX0_append 37 = .ok (.iload 4, 2) := by decide +kernel
theorem dX0_append_39 : decode cX0_append 39 = .ok (.iload_n 3, 1) := by decide +kernel
theorem dX0_append_40 : decode cX0_append 40 = .ok (.iastore, 1) := by decide +kernel
theorem dX0_append_41 : decode cX0_append 41 = .ok (.aload_n 0, 1) := by decide +kernel
theorem dX0_append_42 : decode cX0_append 42 = .ok (.getfield 25, 3) := by decide +kernel
theorem dX0_append_45 : decode cX0_append 45 = .ok (.sipush 400, 3) := by decide +kernel
theorem dX0_append_48 : decode cX0_append 48 = .ok (.if_icmp .ge 16, 3) := by decide +kernel
theorem dX0_append_51 : decode cX0_append 51 = .ok (.aload_n 0, 1) := by decide +kernel
theorem dX0_append_52 : decode cX0_append 52 = .ok (.dup, 1) := by decide +kernel
theorem dX0_append_53 : decode cX0_append 53 = .ok (.getfield 25, 3) := by decide +kernel
theorem dX0_append_56 : decode cX0_append 56 = .ok (.iconst 1, 1) := by decide +kernel
theorem dX0_append_57 : decode cX0_append 57 = .ok (.iadd, 1) := by decide +kernel
theorem dX0_append_58 : decode cX0_append 58 = .ok (.putfield 25, 3) := by decide +kernel
theorem dX0_append_61 : decode cX0_append 61 = .ok (.goto 19, 3) := by decide +kernel
theorem dX0_append_64 : decode cX0_append 64 = .ok (.aload_n 0, 1) := by decide +kernel
theorem dX0_append_65 : decode cX0_append 65 = .ok (.aload_n 0, 1) := by decide +kernel
theorem dX0_append_66 : decode cX0_append 66 = .ok (.getfield 21, 3) := by decide +kernel
theorem dX0_append_69 : decode cX0_append 69 = .ok (.iconst 1, 1) := by decide +kernel
theorem dX0_append_70 : decode cX0_append 70 = .ok (.iadd, 1) := by decide +kernel
theorem dX0_append_71 : decode cX0_append 71 = .ok (.sipush 400, 3) := by decide +kernel
theorem dX0_append_74 : decode cX0_append 74 = .ok (.invokestatic 28, 3) := by decide +kernel
theorem dX0_append_77 : decode cX0_append 77 = .ok (.putfield 21, 3) := by decide +kernel
theorem dX0_append_80 : decode cX0_append 80 = .ok (.return_, 1) := by decide +kernel
theorem dX0_entry_0 : decode cX0_entry 0 = .ok (.aload_n 0, 1) := by decide +kernel
theorem dX0_entry_1 : decode cX0_entry 1 = .ok (.getfield 21, 3) := by decide +kernel
theorem dX0_entry_4 : decode cX0_entry 4 = .ok (.iload_n 1, 1) := by decide +kernel
theorem dX0_entry_5 : decode cX0_entry 5 = .ok (.iadd, 1) := by decide +kernel
theorem dX0_entry_6 : decode cX0_entry 6 = .ok (.sipush 400, 3) := by decide +kernel
theorem dX0_entry_9 : decode cX0_entry 9 = .ok (.invokestatic 28, 3) := by decide +kernel
theorem dX0_entry_12 : decode cX0_entry 12 = .ok (.istore_n 3, 1) := by decide +kernel
theorem dX0_entry_13 : decode cX0_entry 13 = .ok (.iload_n 2, 1) := by decide +kernel
theorem dX0_entry_14 : decode cX0_entry 14 = .ok (.lookupswitch 40 #[(0, 26), (1, 33)], 26) := by decide +kernel
theorem dX0_entry_40 : decode cX0_entry 40 = .ok (.aload_n 0, 1) := by decide +kernel
theorem dX0_entry_41 : decode cX0_entry 41 = .ok (.getfield 9, 3) := by decide +kernel
theorem dX0_entry_44 : decode cX0_entry 44 = .ok (.iload_n 3, 1) := by decide +kernel
theorem dX0_entry_45 : decode cX0_entry 45 = .ok (.iaload, 1) := by decide +kernel
theorem dX0_entry_46 : decode cX0_entry 46 = .ok (.ireturn, 1) := by decide +kernel
theorem dX0_entry_47 : decode cX0_entry 47 = .ok (.aload_n 0, 1) := by decide +kernel
theorem dX0_entry_48 : decode cX0_entry 48 = .ok (.getfield 15, 3) := by decide +kernel
theorem dX0_entry_51 : decode cX0_entry 51 = .ok (.iload_n 3, 1) := by decide +kernel
theorem dX0_entry_52 : decode cX0_entry 52 = .ok (.iaload, 1) := by decide +kernel
theorem dX0_entry_53 : decode cX0_entry 53 = .ok (.ireturn, 1) := by decide +kernel
theorem dX0_entry_54 : decode cX0_entry 54 = .ok (.aload_n 0, 1) := by decide +kernel
theorem dX0_entry_55 : decode cX0_entry 55 = .ok (.getfield 18, 3) := by decide +kernel
theorem dX0_entry_58 : decode cX0_entry 58 = .ok (.iload_n 3, 1) := by decide +kernel
theorem dX0_entry_59 : decode cX0_entry 59 = .ok (.iaload, 1) := by decide +kernel
theorem dX0_entry_60 : decode cX0_entry 60 = .ok (.ireturn, 1) := by decide +kernel
theorem dX1_init_0 : decode cX1_init 0 = .ok (.aload_n 0, 1) := by decide +kernel
theorem dX1_init_1 : decode cX1_init 1 = .ok (.invokespecial 3, 3) := by decide +kernel
theorem dX1_init_4 : decode cX1_init 4 = .ok (.aload_n 0, 1) := by decide +kernel
theorem dX1_init_5 : decode cX1_init 5 = .ok (.new 9, 3) := by decide +kernel
theorem dX1_init_8 : decode cX1_init 8 = .ok (.dup, 1) := by decide +kernel
theorem dX1_init_9 : decode cX1_init 9 = .ok (.invokespecial 11, 3) := by decide +kernel
theorem dX1_init_12 : decode cX1_init 12 = .ok (.putfield 12, 3) := by decide +kernel
theorem dX1_init_15 : decode cX1_init 15 = .ok (.aload_n 0, 1) := by decide +kernel
theorem dX1_init_16 : decode cX1_init 16 = .ok (.new 18, 3) := by decide +kernel
theorem dX1_init_19 : decode cX1_init 19 = .ok (.dup, 1) := by decide +kernel
theorem dX1_init_20 : decode cX1_init 20 = .ok (.invokespecial 20, 3) := by decide +kernel
theorem dX1_init_23 : decode cX1_init 23 = .ok (.putfield 21, 3) := by decide +kernel
theorem dX1_init_26 : decode cX1_init 26 = .ok (.aload_n 0, 1) := by decide +kernel
theorem dX1_init_27 : decode cX1_init 27 = .ok (.new 25, 3) := by decide +kernel
theorem dX1_init_30 : decode cX1_init 30 = .ok (.dup, 1) := by decide +kernel
theorem dX1_init_31 : decode cX1_init 31 = .ok (.invokespecial 27, 3) := by decide +kernel
theorem dX1_init_34 : decode cX1_init 34 = .ok (.putfield 28, 3) := by decide +kernel
theorem dX1_init_37 : decode cX1_init 37 = .ok (.aload_n 0, 1) := by decide +kernel
theorem dX1_init_38 : decode cX1_init 38 = .ok (.iconst 1, 1) := by decide +kernel
theorem dX1_init_39 : decode cX1_init 39 = .ok (.putfield 32, 3) := by decide +kernel
theorem dX1_init_42 : decode cX1_init 42 = .ok (.aload_n 0, 1) := by decide +kernel
theorem dX1_init_43 : decode cX1_init 43 = .ok (.aload_n 1, 1) := by decide +kernel
theorem dX1_init_44 : decode cX1_init 44 = .ok (.putfield 36, 3) := by decide +kernel
theorem dX1_init_47 : decode cX1_init 47 = .ok (.aload_n 0, 1) := by decide +kernel
theorem dX1_init_48 : decode cX1_init 48 = .ok (.aload_n 2, 1) := by decide +kernel
theorem dX1_init_49 : decode cX1_init 49 = .ok (.putfield 40, 3) := by decide +kernel
theorem dX1_init_52 : decode cX1_init 52 = .ok (.aload_n 0, 1) := by decide +kernel
theorem dX1_init_53 : decode cX1_init 53 = .ok (.new 44, 3) := by decide +kernel
theorem dX1_init_56 : decode cX1_init 56 = .ok (.dup, 1) := by decide +kernel
theorem dX1_init_57 : decode cX1_init 57 = .ok (.aload_n 2, 1) := by decide +kernel
theorem dX1_init_58 : decode cX1_init 58 = .ok (.invokespecial 46, 3) := by decide +kernel
theorem dX1_init_61 : decode cX1_init 61 = .ok (.putfield 49, 3) := by decide +kernel
theorem dX1_init_64 : decode cX1_init 64 = .ok (.aload_n 0, 1) := by decide +kernel
theorem dX1_init_65 : decode cX1_init 65 = .ok (.new 44, 3) := by decide +kernel
theorem dX1_init_68 : decode cX1_init 68 = .ok (.dup, 1) := by decide +kernel
theorem dX1_init_69 : decode cX1_init 69 = .ok (.aload_n 2, 1) := by decide +kernel
theorem dX1_init_70 : decode cX1_init 70 = .ok (.invokespecial 46, 3) := by decide +kernel
theorem dX1_init_73 : decode cX1_init 73 = .ok (.putfield 53, 3) := by decide +kernel
theorem dX1_init_76 : decode cX1_init 76 = .ok (.return_, 1) := by decide +kernel
theorem dX1_beginAnew_0 : decode cX1_beginAnew 0 = .ok (.aload_n 0, 1) := by decide +kernel
theorem dX1_beginAnew_1 : decode cX1_beginAnew 1 = .ok (.getfield 12, 3) := by decide +kernel
theorem dX1_beginAnew_4 : decode cX1_beginAnew 4 = .ok (.invokevirtual 56, 3) := by decide +kernel
theorem dX1_beginAnew_7 : decode cX1_beginAnew 7 = .ok (.aload_n 0, 1) := by decide +kernel
theorem dX1_beginAnew_8 : decode cX1_beginAnew 8 = .ok (.getfield 21, 3) := by decide +kernel
theorem dX1_beginAnew_11 : decode cX1_beginAnew 11 = .ok (.invokevirtual 59, 3) := by decide +kernel
theorem dX1_beginAnew_14 : decode cX1_beginAnew 14 = .ok (.aload_n 0, 1) := by decide +kernel
theorem dX1_beginAnew_15 : decode cX1_beginAnew 15 = .ok (.getfield 28, 3) := by decide +kernel
theorem dX1_beginAnew_18 : decode cX1_beginAnew 18 = .ok (.invokevirtual 60, 3) := by decide +kernel
theorem dX1_beginAnew_21 : decode cX1_beginAnew 21 = .ok (.aload_n 0, 1) := by decide +kernel
theorem dX1_beginAnew_22 : decode cX1_beginAnew 22 = .ok (.getfield 49, 3) := by decide +kernel
theorem dX1_beginAnew_25 : decode cX1_beginAnew 25 = .ok (.invokevirtual 61, 3) := by decide +kernel
theorem dX1_beginAnew_28 : decode cX1_beginAnew 28 = .ok (.aload_n 0, 1) := by decide +kernel
theorem dX1_beginAnew_29 : decode cX1_beginAnew 29 = .ok (.getfield 53, 3) := by decide +kernel
theorem dX1_beginAnew_32 : decode cX1_beginAnew 32 = .ok (.invokevirtual 61, 3) := by decide +kernel
theorem dX1_beginAnew_35 : decode cX1_beginAnew 35 = .ok (.aload_n 0, 1) := by decide +kernel
theorem dX1_beginAnew_36 : decode cX1_beginAnew 36 = .ok (.iconst 0, 1) := by decide +kernel
theorem dX1_beginAnew_37 : decode cX1_beginAnew 37 = .ok (.putfield 62, 3) := by decide +kernel
theorem dX1_beginAnew_40 : decode cX1_beginAnew 40 = .ok (.aload_n 0, 1) := by decide +kernel
theorem dX1_beginAnew_41 : decode cX1_beginAnew 41 = .ok (.iconst 0, 1) := by decide +kernel
theorem dX1_beginAnew_42 : decode cX1_beginAnew 42 = .ok (.putfield 66, 3) := by decide +kernel
theorem dX1_beginAnew_45 : decode cX1_beginAnew 45 = .ok (.aload_n 0, 1) := by decide +kernel
theorem dX1_beginAnew_46 : decode cX1_beginAnew 46 = .ok (.iconst 0, 1) := by decide +kernel
theorem dX1_beginAnew_47 : decode cX1_beginAnew 47 = .ok (.putfield 69, 3) := by decide +kernel
theorem dX1_beginAnew_50 : decode cX1_beginAnew 50 = .ok (.aload_n 0, 1) := by decide +kernel
theorem dX1_beginAnew_51 : decode cX1_beginAnew 51 = .ok (.iconst 0, 1) := by decide +kernel
theorem dX1_beginAnew_52 : decode cX1_beginAnew 52 = .ok (.putfield 72, 3) := by decide +kernel
theorem dX1_beginAnew_55 : decode cX1_beginAnew 55 = .ok (.aload_n 0, 1) := by decide +kernel
theorem dX1_beginAnew_56 : decode cX1_beginAnew 56 = .ok (.iconst 0, 1) := by decide +kernel
theorem dX1_beginAnew_57 : decode cX1_beginAnew 57 = .ok (.putfield 75, 3) := by decide +kernel
theorem dX1_beginAnew_60 : decode cX1_beginAnew 60 = .ok (.return_, 1) := by decide +kernel
theorem dX1_doCycle_0 : decode cX1_doCycle 0 = .ok (.aload_n 0, 1) := by decide +kernel
theorem dX1_doCycle_1 : decode cX1_doCycle 1 = .ok (.getfield 28, 3) := by decide +kernel
theorem dX1_doCycle_4 : decode cX1_doCycle 4 = .ok (.dup, 1) := by decide +kernel
theorem dX1_doCycle_5 : decode cX1_doCycle 5 = .ok (.getfield 78, 3) := by decide +kernel
theorem dX1_doCycle_8 : decode cX1_doCycle 8 = .ok (.iconst 1, 1) := by decide +kernel
theorem dX1_doCycle_9 : decode cX1_doCycle 9 = .ok (.iadd, 1) := by decide +kernel
theorem dX1_doCycle_10 : decode cX1_doCycle 10 = .ok (.putfield 78, 3) := by decide +kernel
theorem dX1_doCycle_13 : decode cX1_doCycle 13 = .ok (.aload_n 0, 1) := by decide +kernel
theorem dX1_doCycle_14 : decode cX1_doCycle 14 = .ok (.iconst 0, 1) := by decide +kernel
theorem dX1_doCycle_15 : decode cX1_doCycle 15 = .ok (.putfield 72, 3) := by decide +kernel
theorem dX1_doCycle_18 : decode cX1_doCycle 18 = .ok (.aload_n 0, 1) := by decide +kernel
theorem dX1_doCycle_19 : decode cX1_doCycle 19 = .ok (.invokevirtual 81, 3) := by decide +kernel
theorem dX1_doCycle_22 : decode cX1_doCycle 22 = .ok (.istore_n 1, 1) := by decide +kernel
theorem dX1_doCycle_23 : decode cX1_doCycle 23 = .ok (.aload_n 0, 1) := by decide +kernel
theorem dX1_doCycle_24 : decode cX1_doCycle 24 = .ok (.getfield 28, 3) := by decide +kernel
theorem dX1_doCycle_27 : decode cX1_doCycle 27 = .ok (.getfield 85, 3) := by decide +kernel
theorem dX1_doCycle_30 : decode cX1_doCycle 30 = .ok (.ifCond .ne 23, 3) := by decide +kernel
theorem dX1_doCycle_33 : decode cX1_doCycle 33 = .ok (.aload_n 0, 1) := by decide +kernel
theorem dX1_doCycle_34 : decode cX1_doCycle 34 = .ok (.invokevirtual 88, 3) := by decide +kernel
theorem dX1_doCycle_37 : decode cX1_doCycle 37 = .ok (.istore_n 2, 1) := by decide +kernel
theorem dX1_doCycle_38 : decode cX1_doCycle 38 = .ok (.iload_n 1, 1) := by decide +kernel
theorem dX1_doCycle_39 : decode cX1_doCycle 39 = .ok (.iconst 4, 1) := by decide +kernel
theorem dX1_doCycle_40 : decode cX1_doCycle 40 = .ok (.if_icmp .ne 7, 3) := by decide +kernel
theorem dX1_doCycle_43 : decode cX1_doCycle 43 = .ok (.iload_n 2, 1) := by decide +kernel
theorem dX1_doCycle_44 : decode cX1_doCycle 44 = .ok (.goto 4, 3) := by decide +kernel
theorem dX1_doCycle_47 : decode cX1_doCycle 47 = .ok (.iload_n 1, 1) := by decide +kernel
theorem dX1_doCycle_48 : decode cX1_doCycle 48 = .ok (.istore_n 1, 1) := by decide +kernel
theorem dX1_doCycle_49 : decode cX1_doCycle 49 = .ok (.aload_n 0, 1) := by decide +kernel
theorem dX1_doCycle_50 : decode cX1_doCycle 50 = .ok (.invokevirtual 91, 3) := by decide +kernel
theorem dX1_doCycle_53 : decode cX1_doCycle 53 = .ok (.aload_n 0, 1) := by decide +kernel
theorem dX1_doCycle_54 : decode cX1_doCycle 54 = .ok (.getfield 28, 3) := by decide +kernel
theorem dX1_doCycle_57 : decode cX1_doCycle 57 = .ok (.iload_n 1, 1) := by decide +kernel
theorem dX1_doCycle_58 : decode cX1_doCycle 58 = .ok (.invokevirtual 94, 3) := by decide +kernel
theorem dX1_doCycle_61 : decode cX1_doCycle 61 = .ok (.return_, 1) := by decide +kernel
theorem dX1_leave_0 : decode cX1_leave 0 = .ok (.aload_n 0, 1) := by decide +kernel
theorem dX1_leave_1 : decode cX1_leave 1 = .ok (.getfield 36, 3) := by decide +kernel
theorem dX1_leave_4 : decode cX1_leave 4 = .ok (.invokevirtual 98, 3) := by decide +kernel
theorem dX1_leave_7 : decode cX1_leave 7 = .ok (.istore_n 1, 1) := by decide +kernel
theorem dX1_leave_8 : decode cX1_leave 8 = .ok (.aload_n 0, 1) := by decide +kernel
theorem dX1_leave_9 : decode cX1_leave 9 = .ok (.getfield 12, 3) := by decide +kernel
theorem dX1_leave_12 : decode cX1_leave 12 = .ok (.iload_n 1, 1) := by decide +kernel
theorem dX1_leave_13 : decode cX1_leave 13 = .ok (.invokevirtual 103, 3) := by decide +kernel
theorem dX1_leave_16 : decode cX1_leave 16 = .ok (.istore_n 2, 1) := by decide +kernel
theorem dX1_leave_17 : decode cX1_leave 17 = .ok (.iload_n 2, 1) := by decide +kernel
theorem dX1_leave_18 : decode cX1_leave 18 = .ok (.iconst (-1), 1) := by decide +kernel
theorem dX1_leave_19 : decode cX1_leave 19 = .ok (.if_icmp .ne 5, 3) := by decide +kernel
theorem dX1_leave_22 : decode cX1_leave 22 = .ok (.iconst 4, 1) := by decide +kernel
theorem dX1_leave_23 : decode cX1_leave 23 = .ok (.ireturn, 1) := by decide +kernel
theorem dX1_leave_24 : decode cX1_leave 24 = .ok (.aload_n 0, 1) := by decide +kernel
theorem dX1_leave_25 : decode cX1_leave 25 = .ok (.getfield 12, 3) := by decide +kernel
theorem dX1_leave_28 : decode cX1_leave 28 = .ok (.iload_n 1, 1) := by decide +kernel
theorem dX1_leave_29 : decode cX1_leave 29 = .ok (.invokevirtual 107, 3) := by decide +kernel
theorem dX1_leave_32 : decode cX1_leave 32 = .ok (.istore_n 3, 1) := by decide +kernel
theorem dX1_leave_33 : decode cX1_leave 33 = .ok (.aload_n 0, 1) := by decide +kernel
theorem dX1_leave_34 : decode cX1_leave 34 = .ok (.getfield 12, 3) := by decide +kernel
theorem dX1_leave_37 : decode cX1_leave 37 = .ok (.iload_n 1, 1) := by decide +kernel
theorem dX1_leave_38 : decode cX1_leave 38 = .ok (.invokevirtual 111, 3) := by decide +kernel
theorem dX1_leave_41 : decode cX1_leave 41 = .ok (.aload_n 0, 1) := by decide +kernel
theorem dX1_leave_42 : decode cX1_leave 42 = .ok (.getfield 40, 3) := by decide +kernel
theorem dX1_leave_45 : decode cX1_leave 45 = .ok (.iload_n 2, 1) := by decide +kernel
theorem dX1_leave_46 : decode cX1_leave 46 = .ok (.invokevirtual 114, 3) := by decide +kernel
theorem dX1_leave_49 : decode cX1_leave 49 = .ok (.iconst 5, 1) := by decide +kernel
theorem dX1_leave_50 : decode cX1_leave 50 = .ok (.if_icmp .ne 27, 3) := by decide +kernel
theorem dX1_leave_53 : decode cX1_leave 53 = .ok (.aload_n 0, 1) := by decide +kernel
theorem dX1_leave_54 : decode cX1_leave 54 = .ok (.getfield 28, 3) := by decide +kernel
theorem dX1_leave_57 : decode cX1_leave 57 = .ok (.dup, 1) := by decide +kernel
theorem dX1_leave_58 : decode cX1_leave 58 = .ok (.getfield 119, 3) := by decide +kernel
theorem dX1_leave_61 : decode cX1_leave 61 = .ok (.iconst 1, 1) := by decide +kernel
theorem dX1_leave_62 : decode cX1_leave 62 = .ok (.iadd, 1) := by decide +kernel
theorem dX1_leave_63 : decode cX1_leave 63 = .ok (.putfield 119, 3) := by decide +kernel
theorem dX1_leave_66 : decode cX1_leave 66 = .ok (.aload_n 0, 1) := by decide +kernel
theorem dX1_leave_67 : decode cX1_leave 67 = .ok (.iload_n 1, 1) := by decide +kernel
theorem dX1_leave_68 : decode cX1_leave 68 = .ok (.aload_n 0, 1) := by decide +kernel
theorem dX1_leave_69 : decode cX1_leave 69 = .ok (.getfield 122, 3) := by decide +kernel
theorem dX1_leave_72 : decode cX1_leave 72 = .ok (.invokevirtual 125, 3) := by decide +kernel
theorem dX1_leave_75 : decode cX1_leave 75 = .ok (.iconst 1, 1) := by decide +kernel
theorem dX1_leave_76 : decode cX1_leave 76 = .ok (.ireturn, 1) := by decide +kernel
theorem dX1_leave_77 : decode cX1_leave 77 = .ok (.aload_n 0, 1) := by decide +kernel
theorem dX1_leave_78 : decode cX1_leave 78 = .ok (.iload_n 2, 1) := by decide +kernel
theorem dX1_leave_79 : decode cX1_leave 79 = .ok (.invokevirtual 129, 3) := by decide +kernel
theorem dX1_leave_82 : decode cX1_leave 82 = .ok (.iload_n 3, 1) := by decide +kernel
theorem dX1_leave_83 : decode cX1_leave 83 = .ok (.ifCond .eq 20, 3) := by decide +kernel
theorem dX1_leave_86 : decode cX1_leave 86 = .ok (.aload_n 0, 1) := by decide +kernel
theorem dX1_leave_87 : decode cX1_leave 87 = .ok (.getfield 36, 3) := by decide +kernel
theorem dX1_leave_90 : decode cX1_leave 90 = .ok (.getfield 132, 3) := by decide +kernel
theorem dX1_leave_93 : decode cX1_leave 93 = .ok (.iload_n 1, 1) := by decide +kernel
theorem dX1_leave_94 : decode cX1_leave 94 = .ok (.if_icmp .ne 9, 3) := by decide +kernel
theorem dX1_leave_97 : decode cX1_leave 97 = .ok (.aload_n 0, 1) := by decide +kernel
theorem dX1_leave_98 : decode cX1_leave 98 = .ok (.iload_n 1, 1) := by decide +kernel
theorem dX1_leave_99 : decode cX1_leave 99 = .ok (.iload_n 2, 1) := by decide +kernel
theorem dX1_leave_100 : decode cX1_leave 100 = .ok (.invokevirtual 135, 3) := by decide +kernel
theorem dX1_leave_103 : decode cX1_leave 103 = .ok (.iconst 0, 1) := by decide +kernel
theorem dX1_leave_104 : decode cX1_leave 104 = .ok (.ireturn, 1) := by decide +kernel
theorem dX1_commit_0 : decode cX1_commit 0 = .ok (.aload_n 0, 1) := by decide +kernel
theorem dX1_commit_1 : decode cX1_commit 1 = .ok (.getfield 53, 3) := by decide +kernel
theorem dX1_commit_4 : decode cX1_commit 4 = .ok (.iload_n 1, 1) := by decide +kernel
theorem dX1_commit_5 : decode cX1_commit 5 = .ok (.invokevirtual 138, 3) := by decide +kernel
theorem dX1_commit_8 : decode cX1_commit 8 = .ok (.istore_n 2, 1) := by decide +kernel
theorem dX1_commit_9 : decode cX1_commit 9 = .ok (.aload_n 0, 1) := by decide +kernel
theorem dX1_commit_10 : decode cX1_commit 10 = .ok (.getfield 28, 3) := by decide +kernel
theorem dX1_commit_13 : decode cX1_commit 13 = .ok (.dup, 1) := by decide +kernel
theorem dX1_commit_14 : decode cX1_commit 14 = .ok (.getfield 141, 3) := by decide +kernel
theorem dX1_commit_17 : decode cX1_commit 17 = .ok (.iconst 1, 1) := by decide +kernel
theorem dX1_commit_18 : decode cX1_commit 18 = .ok (.iadd, 1) := by decide +kernel
theorem dX1_commit_19 : decode cX1_commit 19 = .ok (.putfield 141, 3) := by decide +kernel
theorem dX1_commit_22 : decode cX1_commit 22 = .ok (.aload_n 0, 1) := by decide +kernel
theorem dX1_commit_23 : decode cX1_commit 23 = .ok (.getfield 21, 3) := by decide +kernel
theorem dX1_commit_26 : decode cX1_commit 26 = .ok (.iload_n 1, 1) := by decide +kernel
theorem dX1_commit_27 : decode cX1_commit 27 = .ok (.aload_n 0, 1) := by decide +kernel
theorem dX1_commit_28 : decode cX1_commit 28 = .ok (.getfield 28, 3) := by decide +kernel
theorem dX1_commit_31 : decode cX1_commit 31 = .ok (.getfield 78, 3) := by decide +kernel
theorem dX1_commit_34 : decode cX1_commit 34 = .ok (.iload_n 2, 1) := by decide +kernel
theorem dX1_commit_35 : decode cX1_commit 35 = .ok (.invokevirtual 144, 3) := by decide +kernel
theorem dX1_commit_38 : decode cX1_commit 38 = .ok (.aload_n 0, 1) := by decide +kernel
theorem dX1_commit_39 : decode cX1_commit 39 = .ok (.getfield 40, 3) := by decide +kernel
theorem dX1_commit_42 : decode cX1_commit 42 = .ok (.iload_n 1, 1) := by decide +kernel
theorem dX1_commit_43 : decode cX1_commit 43 = .ok (.invokevirtual 114, 3) := by decide +kernel
theorem dX1_commit_46 : decode cX1_commit 46 = .ok (.bipush 6, 2) := by decide +kernel
theorem dX1_commit_48 : decode cX1_commit 48 = .ok (.if_icmp .ne 11, 3) := by decide +kernel
theorem dX1_commit_51 : decode cX1_commit 51 = .ok (.aload_n 0, 1) := by decide +kernel
theorem dX1_commit_52 : decode cX1_commit 52 = .ok (.getfield 28, 3) := by decide +kernel
theorem dX1_commit_55 : decode cX1_commit 55 = .ok (.iconst 1, 1) := by decide +kernel
theorem dX1_commit_56 : decode cX1_commit 56 = .ok (.putfield 85, 3) := by decide +kernel
theorem dX1_commit_59 : decode cX1_commit 59 = .ok (.return_, 1) := by decide +kernel
theorem dX1_takeBranch_0 : decode cX1_takeBranch 0 = .ok (.aload_n 0, 1) := by decide +kernel
theorem dX1_takeBranch_1 : decode cX1_takeBranch 1 = .ok (.getfield 28, 3) := by decide +kernel
theorem dX1_takeBranch_4 : decode cX1_takeBranch 4 = .ok (.dup, 1) := by decide +kernel
theorem dX1_takeBranch_5 : decode cX1_takeBranch 5 = .ok (.getfield 148, 3) := by decide +kernel
theorem dX1_takeBranch_8 : decode cX1_takeBranch 8 = .ok (.iconst 1, 1) := by decide +kernel
theorem dX1_takeBranch_9 : decode cX1_takeBranch 9 = .ok (.iadd, 1) := by decide +kernel
theorem dX1_takeBranch_10 : decode cX1_takeBranch 10 = .ok (.putfield 148, 3) := by decide +kernel
theorem dX1_takeBranch_13 : decode cX1_takeBranch 13 = .ok (.aload_n 0, 1) := by decide +kernel
theorem dX1_takeBranch_14 : decode cX1_takeBranch 14 = .ok (.iload_n 1, 1) := by decide +kernel
theorem dX1_takeBranch_15 : decode cX1_takeBranch 15 = .ok (.aload_n 0, 1) := by decide +kernel
theorem dX1_takeBranch_16 : decode cX1_takeBranch 16 = .ok (.getfield 40, 3) := by decide +kernel
theorem dX1_takeBranch_19 : decode cX1_takeBranch 19 = .ok (.iload_n 2, 1) := by decide +kernel
theorem dX1_takeBranch_20 : decode cX1_takeBranch 20 = .ok (.invokevirtual 151, 3) := by decide +kernel
theorem dX1_takeBranch_23 : decode cX1_takeBranch 23 = .ok (.invokevirtual 125, 3) := by decide +kernel
theorem dX1_takeBranch_26 : decode cX1_takeBranch 26 = .ok (.return_, 1) := by decide +kernel
theorem dX1_squashAndGoTo_0 : decode cX1_squashAndGoTo 0 = .ok (.aload_n 0, 1) := by decide +kernel
theorem dX1_squashAndGoTo_1 : decode cX1_squashAndGoTo 1 = .ok (.getfield 28, 3) := by decide +kernel
theorem dX1_squashAndGoTo_4 : decode cX1_squashAndGoTo 4 = .ok (.dup, 1) := by decide +kernel
theorem dX1_squashAndGoTo_5 : decode cX1_squashAndGoTo 5 = .ok (.getfield 154, 3) := by decide +kernel
theorem dX1_squashAndGoTo_8 : decode cX1_squashAndGoTo 8 = .ok (.aload_n 0, 1) := by decide +kernel
theorem dX1_squashAndGoTo_9 : decode cX1_squashAndGoTo 9 = .ok (.getfield 12, 3) := by decide +kernel
theorem dX1_squashAndGoTo_12 : decode cX1_squashAndGoTo 12 = .ok (.iload_n 1, 1) := by decide +kernel
theorem dX1_squashAndGoTo_13 : decode cX1_squashAndGoTo 13 = .ok (.invokevirtual 157, 3) := by decide +kernel
theorem dX1_squashAndGoTo_16 : decode cX1_squashAndGoTo 16 = .ok (.iadd, 1) := by decide +kernel
theorem dX1_squashAndGoTo_17 : decode cX1_squashAndGoTo 17 = .ok (.putfield 154, 3) := by decide +kernel
theorem dX1_squashAndGoTo_20 : decode cX1_squashAndGoTo 20 = .ok (.aload_n 0, 1) := by decide +kernel
theorem dX1_squashAndGoTo_21 : decode cX1_squashAndGoTo 21 = .ok (.aload_n 0, 1) := by decide +kernel
theorem dX1_squashAndGoTo_22 : decode cX1_squashAndGoTo 22 = .ok (.getfield 40, 3) := by decide +kernel
theorem dX1_squashAndGoTo_25 : decode cX1_squashAndGoTo 25 = .ok (.iload_n 2, 1) := by decide +kernel
theorem dX1_squashAndGoTo_26 : decode cX1_squashAndGoTo 26 = .ok (.invokevirtual 160, 3) := by decide +kernel
theorem dX1_squashAndGoTo_29 : decode cX1_squashAndGoTo 29 = .ok (.putfield 62, 3) := by decide +kernel
theorem dX1_squashAndGoTo_32 : decode cX1_squashAndGoTo 32 = .ok (.aload_n 0, 1) := by decide +kernel
theorem dX1_squashAndGoTo_33 : decode cX1_squashAndGoTo 33 = .ok (.iconst 0, 1) := by decide +kernel
theorem dX1_squashAndGoTo_34 : decode cX1_squashAndGoTo 34 = .ok (.putfield 66, 3) := by decide +kernel
theorem dX1_squashAndGoTo_37 : decode cX1_squashAndGoTo 37 = .ok (.aload_n 0, 1) := by decide +kernel
theorem dX1_squashAndGoTo_38 : decode cX1_squashAndGoTo 38 = .ok (.iconst 1, 1) := by decide +kernel
theorem dX1_squashAndGoTo_39 : decode cX1_squashAndGoTo 39 = .ok (.putfield 72, 3) := by decide +kernel
theorem dX1_squashAndGoTo_42 : decode cX1_squashAndGoTo 42 = .ok (.return_, 1) := by decide +kernel
theorem dX1_goOn_0 : decode cX1_goOn 0 = .ok (.iconst 4, 1) := by decide +kernel
theorem dX1_goOn_1 : decode cX1_goOn 1 = .ok (.istore_n 1, 1) := by decide +kernel
theorem dX1_goOn_2 : decode cX1_goOn 2 = .ok (.aload_n 0, 1) := by decide +kernel
theorem dX1_goOn_3 : decode cX1_goOn 3 = .ok (.getfield 36, 3) := by decide +kernel
theorem dX1_goOn_6 : decode cX1_goOn 6 = .ok (.invokevirtual 98, 3) := by decide +kernel
theorem dX1_goOn_9 : decode cX1_goOn 9 = .ok (.iconst 1, 1) := by decide +kernel
theorem dX1_goOn_10 : decode cX1_goOn 10 = .ok (.isub, 1) := by decide +kernel
theorem dX1_goOn_11 : decode cX1_goOn 11 = .ok (.istore_n 2, 1) := by decide +kernel
theorem dX1_goOn_12 : decode cX1_goOn 12 = .ok (.iload_n 2, 1) := by decide +kernel
theorem dX1_goOn_13 : decode cX1_goOn 13 = .ok (.ifCond .lt 139, 3) := by decide +kernel
theorem dX1_goOn_16 : decode cX1_goOn 16 = .ok (.aload_n 0, 1) := by decide +kernel
theorem dX1_goOn_17 : decode cX1_goOn 17 = .ok (.getfield 12, 3) := by decide +kernel
theorem dX1_goOn_20 : decode cX1_goOn 20 = .ok (.iload_n 2, 1) := by decide +kernel
theorem dX1_goOn_21 : decode cX1_goOn 21 = .ok (.invokevirtual 103, 3) := by decide +kernel
theorem dX1_goOn_24 : decode cX1_goOn 24 = .ok (.istore_n 3, 1) := by decide +kernel
theorem dX1_goOn_25 : decode cX1_goOn 25 = .ok (.iload_n 3, 1) := by decide +kernel
theorem dX1_goOn_26 : decode cX1_goOn 26 = .ok (.iconst (-1), 1) := by decide +kernel
theorem dX1_goOn_27 : decode cX1_goOn 27 = .ok (.if_icmp .eq 22, 3) := by decide +kernel
theorem dX1_goOn_30 : decode cX1_goOn 30 = .ok (.iload_n 2, 1) := by decide +kernel
theorem dX1_goOn_31 : decode cX1_goOn 31 = .ok (.aload_n 0, 1) := by decide +kernel
theorem dX1_goOn_32 : decode cX1_goOn 32 = .ok (.getfield 36, 3) := by decide +kernel
theorem dX1_goOn_35 : decode cX1_goOn 35 = .ok (.getfield 163, 3) := by decide +kernel
theorem dX1_goOn_38 : decode cX1_goOn 38 = .ok (.if_icmp .ne 11, 3) := by decide +kernel
theorem dX1_goOn_41 : decode cX1_goOn 41 = .ok (.aload_n 0, 1) := by decide +kernel
theorem dX1_goOn_42 : decode cX1_goOn 42 = .ok (.iload_n 3, 1) := by decide +kernel
theorem dX1_goOn_43 : decode cX1_goOn 43 = .ok (.invokevirtual 166, 3) := by decide +kernel
theorem dX1_goOn_46 : decode cX1_goOn 46 = .ok (.goto 4, 3) := by decide +kernel
theorem dX1_goOn_49 : decode cX1_goOn 49 = .ok (.iconst 4, 1) := by decide +kernel
theorem dX1_goOn_50 : decode cX1_goOn 50 = .ok (.istore 4, 2) := by decide +kernel
theorem dX1_goOn_52 : decode cX1_goOn 52 = .ok (.iload 4, 2) := by decide +kernel
theorem dX1_goOn_54 : decode cX1_goOn 54 = .ok (.iconst 4, 1) := by decide +kernel
theorem dX1_goOn_55 : decode cX1_goOn 55 = .ok (.if_icmp .eq 9, 3) := by decide +kernel
theorem dX1_goOn_58 : decode cX1_goOn 58 = .ok (.iload 4, 2) := by decide +kernel
theorem dX1_goOn_60 : decode cX1_goOn 60 = .ok (.istore_n 1, 1) := by decide +kernel
theorem dX1_goOn_61 : decode cX1_goOn 61 = .ok (.goto 85, 3) := by decide +kernel
theorem dX1_goOn_64 : decode cX1_goOn 64 = .ok (.iload_n 3, 1) := by decide +kernel
theorem dX1_goOn_65 : decode cX1_goOn 65 = .ok (.iconst (-1), 1) := by decide +kernel
theorem dX1_goOn_66 : decode cX1_goOn 66 = .ok (.if_icmp .eq 80, 3) := by decide +kernel
theorem dX1_goOn_69 : decode cX1_goOn 69 = .ok (.aload_n 0, 1) := by decide +kernel
theorem dX1_goOn_70 : decode cX1_goOn 70 = .ok (.getfield 12, 3) := by decide +kernel
theorem dX1_goOn_73 : decode cX1_goOn 73 = .ok (.iload_n 2, 1) := by decide +kernel
theorem dX1_goOn_74 : decode cX1_goOn 74 = .ok (.iconst 1, 1) := by decide +kernel
theorem dX1_goOn_75 : decode cX1_goOn 75 = .ok (.iadd, 1) := by decide +kernel
theorem dX1_goOn_76 : decode cX1_goOn 76 = .ok (.invokevirtual 103, 3) := by decide +kernel
theorem dX1_goOn_79 : decode cX1_goOn 79 = .ok (.iconst (-1), 1) := by decide +kernel
theorem dX1_goOn_80 : decode cX1_goOn 80 = .ok (.if_icmp .ne 66, 3) := by decide +kernel
theorem dX1_goOn_83 : decode cX1_goOn 83 = .ok (.aload_n 0, 1) := by decide +kernel
theorem dX1_goOn_84 : decode cX1_goOn 84 = .ok (.getfield 12, 3) := by decide +kernel
theorem dX1_goOn_87 : decode cX1_goOn 87 = .ok (.iload_n 2, 1) := by decide +kernel
theorem dX1_goOn_88 : decode cX1_goOn 88 = .ok (.invokevirtual 169, 3) := by decide +kernel
theorem dX1_goOn_91 : decode cX1_goOn 91 = .ok (.aload_n 0, 1) := by decide +kernel
theorem dX1_goOn_92 : decode cX1_goOn 92 = .ok (.iload_n 2, 1) := by decide +kernel
theorem dX1_goOn_93 : decode cX1_goOn 93 = .ok (.iconst 1, 1) := by decide +kernel
theorem dX1_goOn_94 : decode cX1_goOn 94 = .ok (.iadd, 1) := by decide +kernel
theorem dX1_goOn_95 : decode cX1_goOn 95 = .ok (.aload_n 0, 1) := by decide +kernel
theorem dX1_goOn_96 : decode cX1_goOn 96 = .ok (.getfield 36, 3) := by decide +kernel
theorem dX1_goOn_99 : decode cX1_goOn 99 = .ok (.getfield 163, 3) := by decide +kernel
theorem dX1_goOn_102 : decode cX1_goOn 102 = .ok (.if_icmp .ne 7, 3) := by decide +kernel
theorem dX1_goOn_105 : decode cX1_goOn 105 = .ok (.iconst 0, 1) := by decide +kernel
theorem dX1_goOn_106 : decode cX1_goOn 106 = .ok (.goto 7, 3) := by decide +kernel
theorem dX1_goOn_109 : decode cX1_goOn 109 = .ok (.aload_n 0, 1) := by decide +kernel
theorem dX1_goOn_110 : decode cX1_goOn 110 = .ok (.getfield 75, 3) := by decide +kernel
theorem dX1_goOn_113 : decode cX1_goOn 113 = .ok (.putfield 75, 3) := by decide +kernel
theorem dX1_goOn_116 : decode cX1_goOn 116 = .ok (.iload_n 2, 1) := by decide +kernel
theorem dX1_goOn_117 : decode cX1_goOn 117 = .ok (.aload_n 0, 1) := by decide +kernel
theorem dX1_goOn_118 : decode cX1_goOn 118 = .ok (.getfield 36, 3) := by decide +kernel
theorem dX1_goOn_121 : decode cX1_goOn 121 = .ok (.getfield 132, 3) := by decide +kernel
theorem dX1_goOn_124 : decode cX1_goOn 124 = .ok (.if_icmp .ne 22, 3) := by decide +kernel
theorem dX1_goOn_127 : decode cX1_goOn 127 = .ok (.aload_n 0, 1) := by decide +kernel
theorem dX1_goOn_128 : decode cX1_goOn 128 = .ok (.getfield 12, 3) := by decide +kernel
theorem dX1_goOn_131 : decode cX1_goOn 131 = .ok (.iload_n 2, 1) := by decide +kernel
theorem dX1_goOn_132 : decode cX1_goOn 132 = .ok (.iconst 1, 1) := by decide +kernel
theorem dX1_goOn_133 : decode cX1_goOn 133 = .ok (.iadd, 1) := by decide +kernel
theorem dX1_goOn_134 : decode cX1_goOn 134 = .ok (.invokevirtual 107, 3) := by decide +kernel
theorem dX1_goOn_137 : decode cX1_goOn 137 = .ok (.ifCond .eq 9, 3) := by decide +kernel
theorem dX1_goOn_140 : decode cX1_goOn 140 = .ok (.aload_n 0, 1) := by decide +kernel
theorem dX1_goOn_141 : decode cX1_goOn 141 = .ok (.iload_n 2, 1) := by decide +kernel
theorem dX1_goOn_142 : decode cX1_goOn 142 = .ok (.iload_n 3, 1) := by decide +kernel
theorem dX1_goOn_143 : decode cX1_goOn 143 = .ok (.invokevirtual 135, 3) := by decide +kernel
theorem dX1_goOn_146 : decode cX1_goOn 146 = .ok (.iinc 2 (-1), 3) := by decide +kernel
theorem dX1_goOn_149 : decode cX1_goOn 149 = .ok (.goto (-137), 3) := by decide +kernel
theorem dX1_goOn_152 : decode cX1_goOn 152 = .ok (.iload_n 1, 1) := by decide +kernel
theorem dX1_goOn_153 : decode cX1_goOn 153 = .ok (.ireturn, 1) := by decide +kernel
theorem dX1_work_0 : decode cX1_work 0 = .ok (.aload_n 0, 1) := by decide +kernel
theorem dX1_work_1 : decode cX1_work 1 = .ok (.getfield 75, 3) := by decide +kernel
theorem dX1_work_4 : decode cX1_work 4 = .ok (.ifCond .ne 13, 3) := by decide +kernel
theorem dX1_work_7 : decode cX1_work 7 = .ok (.aload_n 0, 1) := by decide +kernel
theorem dX1_work_8 : decode cX1_work 8 = .ok (.iload_n 1, 1) := by decide +kernel
theorem dX1_work_9 : decode cX1_work 9 = .ok (.invokevirtual 172, 3) := by decide +kernel
theorem dX1_work_12 : decode cX1_work 12 = .ok (.ifCond .ne 5, 3) := by decide +kernel
theorem dX1_work_15 : decode cX1_work 15 = .ok (.iconst 2, 1) := by decide +kernel
theorem dX1_work_16 : decode cX1_work 16 = .ok (.ireturn, 1) := by decide +kernel
theorem dX1_work_17 : decode cX1_work 17 = .ok (.aload_n 0, 1) := by decide +kernel
theorem dX1_work_18 : decode cX1_work 18 = .ok (.getfield 36, 3) := by decide +kernel
theorem dX1_work_21 : decode cX1_work 21 = .ok (.aload_n 0, 1) := by decide +kernel
theorem dX1_work_22 : decode cX1_work 22 = .ok (.getfield 40, 3) := by decide +kernel
theorem dX1_work_25 : decode cX1_work 25 = .ok (.iload_n 1, 1) := by decide +kernel
theorem dX1_work_26 : decode cX1_work 26 = .ok (.invokevirtual 114, 3) := by decide +kernel
theorem dX1_work_29 : decode cX1_work 29 = .ok (.invokevirtual 175, 3) := by decide +kernel
theorem dX1_work_32 : decode cX1_work 32 = .ok (.istore_n 2, 1) := by decide +kernel
theorem dX1_work_33 : decode cX1_work 33 = .ok (.aload_n 0, 1) := by decide +kernel
theorem dX1_work_34 : decode cX1_work 34 = .ok (.getfield 75, 3) := by decide +kernel
theorem dX1_work_37 : decode cX1_work 37 = .ok (.iload_n 2, 1) := by decide +kernel
theorem dX1_work_38 : decode cX1_work 38 = .ok (.if_icmp .ge 13, 3) := by decide +kernel
theorem dX1_work_41 : decode cX1_work 41 = .ok (.aload_n 0, 1) := by decide +kernel
theorem dX1_work_42 : decode cX1_work 42 = .ok (.dup, 1) := by decide +kernel
theorem dX1_work_43 : decode cX1_work 43 = .ok (.getfield 75, 3) := by decide +kernel
theorem dX1_work_46 : decode cX1_work 46 = .ok (.iconst 1, 1) := by decide +kernel
theorem dX1_work_47 : decode cX1_work 47 = .ok (.iadd, 1) := by decide +kernel
theorem dX1_work_48 : decode cX1_work 48 = .ok (.putfield 75, 3) := by decide +kernel
theorem dX1_work_51 : decode cX1_work 51 = .ok (.aload_n 0, 1) := by decide +kernel
theorem dX1_work_52 : decode cX1_work 52 = .ok (.getfield 75, 3) := by decide +kernel
theorem dX1_work_55 : decode cX1_work 55 = .ok (.iload_n 2, 1) := by decide +kernel
theorem dX1_work_56 : decode cX1_work 56 = .ok (.if_icmp .ge 7, 3) := by decide +kernel
theorem dX1_work_59 : decode cX1_work 59 = .ok (.iconst 3, 1) := by decide +kernel
theorem dX1_work_60 : decode cX1_work 60 = .ok (.goto 4, 3) := by decide +kernel
theorem dX1_work_63 : decode cX1_work 63 = .ok (.iconst 4, 1) := by decide +kernel
theorem dX1_work_64 : decode cX1_work 64 = .ok (.ireturn, 1) := by decide +kernel
theorem dX1_isReady_0 : decode cX1_isReady 0 = .ok (.aload_n 0, 1) := by decide +kernel
theorem dX1_isReady_1 : decode cX1_isReady 1 = .ok (.aload_n 0, 1) := by decide +kernel
theorem dX1_isReady_2 : decode cX1_isReady 2 = .ok (.getfield 40, 3) := by decide +kernel
theorem dX1_isReady_5 : decode cX1_isReady 5 = .ok (.iload_n 1, 1) := by decide +kernel
theorem dX1_isReady_6 : decode cX1_isReady 6 = .ok (.invokevirtual 178, 3) := by decide +kernel
theorem dX1_isReady_9 : decode cX1_isReady 9 = .ok (.invokevirtual 181, 3) := by decide +kernel
theorem dX1_isReady_12 : decode cX1_isReady 12 = .ok (.ifCond .eq 22, 3) := by decide +kernel
theorem dX1_isReady_15 : decode cX1_isReady 15 = .ok (.aload_n 0, 1) := by decide +kernel
theorem dX1_isReady_16 : decode cX1_isReady 16 = .ok (.aload_n 0, 1) := by decide +kernel
theorem dX1_isReady_17 : decode cX1_isReady 17 = .ok (.getfield 40, 3) := by decide +kernel
theorem dX1_isReady_20 : decode cX1_isReady 20 = .ok (.iload_n 1, 1) := by decide +kernel
theorem dX1_isReady_21 : decode cX1_isReady 21 = .ok (.invokevirtual 184, 3) := by decide +kernel
theorem dX1_isReady_24 : decode cX1_isReady 24 = .ok (.invokevirtual 181, 3) := by decide +kernel
theorem dX1_isReady_27 : decode cX1_isReady 27 = .ok (.ifCond .eq 7, 3) := by decide +kernel
theorem dX1_isReady_30 : decode cX1_isReady 30 = .ok (.iconst 1, 1) := by decide +kernel
theorem dX1_isReady_31 : decode cX1_isReady 31 = .ok (.goto 4, 3) := by decide +kernel
theorem dX1_isReady_34 : decode cX1_isReady 34 = .ok (.iconst 0, 1) := by decide +kernel
theorem dX1_isReady_35 : decode cX1_isReady 35 = .ok (.ireturn, 1) := by decide +kernel
theorem dX1_isThere_0 : decode cX1_isThere 0 = .ok (.iload_n 1, 1) := by decide +kernel
theorem dX1_isThere_1 : decode cX1_isThere 1 = .ok (.iconst (-1), 1) := by decide +kernel
theorem dX1_isThere_2 : decode cX1_isThere 2 = .ok (.if_icmp .ne 5, 3) := by decide +kernel
theorem dX1_isThere_5 : decode cX1_isThere 5 = .ok (.iconst 1, 1) := by decide +kernel
theorem dX1_isThere_6 : decode cX1_isThere 6 = .ok (.ireturn, 1) := by decide +kernel
theorem dX1_isThere_7 : decode cX1_isThere 7 = .ok (.aload_n 0, 1) := by decide +kernel
theorem dX1_isThere_8 : decode cX1_isThere 8 = .ok (.getfield 36, 3) := by decide +kernel
theorem dX1_isThere_11 : decode cX1_isThere 11 = .ok (.getfield 163, 3) := by decide +kernel
theorem dX1_isThere_14 : decode cX1_isThere 14 = .ok (.iconst 1, 1) := by decide +kernel
theorem dX1_isThere_15 : decode cX1_isThere 15 = .ok (.iadd, 1) := by decide +kernel
theorem dX1_isThere_16 : decode cX1_isThere 16 = .ok (.istore_n 2, 1) := by decide +kernel
theorem dX1_isThere_17 : decode cX1_isThere 17 = .ok (.iload_n 2, 1) := by decide +kernel
theorem dX1_isThere_18 : decode cX1_isThere 18 = .ok (.aload_n 0, 1) := by decide +kernel
theorem dX1_isThere_19 : decode cX1_isThere 19 = .ok (.getfield 36, 3) := by decide +kernel
theorem dX1_isThere_22 : decode cX1_isThere 22 = .ok (.getfield 187, 3) := by decide +kernel
theorem dX1_isThere_25 : decode cX1_isThere 25 = .ok (.if_icmp .ge 62, 3) := by decide +kernel
theorem dX1_isThere_28 : decode cX1_isThere 28 = .ok (.aload_n 0, 1) := by decide +kernel
theorem dX1_isThere_29 : decode cX1_isThere 29 = .ok (.getfield 12, 3) := by decide +kernel
theorem dX1_isThere_32 : decode cX1_isThere 32 = .ok (.iload_n 2, 1) := by decide +kernel
theorem dX1_isThere_33 : decode cX1_isThere 33 = .ok (.invokevirtual 103, 3) := by decide +kernel
theorem dX1_isThere_36 : decode cX1_isThere 36 = .ok (.istore_n 3, 1) := by decide +kernel
theorem dX1_isThere_37 : decode cX1_isThere 37 = .ok (.aload_n 0, 1) := by decide +kernel
theorem dX1_isThere_38 : decode cX1_isThere 38 = .ok (.getfield 40, 3) := by decide +kernel
theorem dX1_isThere_41 : decode cX1_isThere 41 = .ok (.iload_n 3, 1) := by decide +kernel
theorem dX1_isThere_42 : decode cX1_isThere 42 = .ok (.invokevirtual 190, 3) := by decide +kernel
theorem dX1_isThere_45 : decode cX1_isThere 45 = .ok (.iload_n 1, 1) := by decide +kernel
theorem dX1_isThere_46 : decode cX1_isThere 46 = .ok (.if_icmp .ne 35, 3) := by decide +kernel
theorem dX1_isThere_49 : decode cX1_isThere 49 = .ok (.aload_n 0, 1) := by decide +kernel
theorem dX1_isThere_50 : decode cX1_isThere 50 = .ok (.getfield 32, 3) := by decide +kernel
theorem dX1_isThere_53 : decode cX1_isThere 53 = .ok (.ifCond .eq 26, 3) := by decide +kernel
theorem dX1_isThere_56 : decode cX1_isThere 56 = .ok (.iload_n 2, 1) := by decide +kernel
theorem dX1_isThere_57 : decode cX1_isThere 57 = .ok (.aload_n 0, 1) := by decide +kernel
theorem dX1_isThere_58 : decode cX1_isThere 58 = .ok (.getfield 36, 3) := by decide +kernel
theorem dX1_isThere_61 : decode cX1_isThere 61 = .ok (.aload_n 0, 1) := by decide +kernel
theorem dX1_isThere_62 : decode cX1_isThere 62 = .ok (.getfield 40, 3) := by decide +kernel
theorem dX1_isThere_65 : decode cX1_isThere 65 = .ok (.iload_n 3, 1) := by decide +kernel
theorem dX1_isThere_66 : decode cX1_isThere 66 = .ok (.invokevirtual 114, 3) := by decide +kernel
theorem dX1_isThere_69 : decode cX1_isThere 69 = .ok (.invokevirtual 193, 3) := by decide +kernel
theorem dX1_isThere_72 : decode cX1_isThere 72 = .ok (.if_icmp .le 7, 3) := by decide +kernel
theorem dX1_isThere_75 : decode cX1_isThere 75 = .ok (.iconst 1, 1) := by decide +kernel
theorem dX1_isThere_76 : decode cX1_isThere 76 = .ok (.goto 4, 3) := by decide +kernel
theorem dX1_isThere_79 : decode cX1_isThere 79 = .ok (.iconst 0, 1) := by decide +kernel
theorem dX1_isThere_80 : decode cX1_isThere 80 = .ok (.ireturn, 1) := by decide +kernel
end
section
theorem dX1_isThere_81 : decode cX1_isThere 81 = .ok (.iinc 2 1, 3) := by decide +kernel
theorem dX1_isThere_84 : decode cX1_isThere 84 = .ok (.goto (-67), 3) := by decide +kernel
theorem dX1_isThere_87 : decode cX1_isThere 87 = .ok (.iconst 1, 1) := by decide +kernel
theorem dX1_isThere_88 : decode cX1_isThere 88 = .ok (.ireturn, 1) := by decide +kernel
theorem dX1_fetch_0 : decode cX1_fetch 0 = .ok (.aload_n 0, 1) := by decide +kernel
theorem dX1_fetch_1 : decode cX1_fetch 1 = .ok (.getfield 72, 3) := by decide +kernel
theorem dX1_fetch_4 : decode cX1_fetch 4 = .ok (.ifCond .ne 22, 3) := by decide +kernel
theorem dX1_fetch_7 : decode cX1_fetch 7 = .ok (.aload_n 0, 1) := by decide +kernel
theorem dX1_fetch_8 : decode cX1_fetch 8 = .ok (.getfield 69, 3) := by decide +kernel
theorem dX1_fetch_11 : decode cX1_fetch 11 = .ok (.ifCond .ne 15, 3) := by decide +kernel
theorem dX1_fetch_14 : decode cX1_fetch 14 = .ok (.aload_n 0, 1) := by decide +kernel
theorem dX1_fetch_15 : decode cX1_fetch 15 = .ok (.getfield 12, 3) := by decide +kernel
theorem dX1_fetch_18 : decode cX1_fetch 18 = .ok (.iconst 0, 1) := by decide +kernel
theorem dX1_fetch_19 : decode cX1_fetch 19 = .ok (.invokevirtual 103, 3) := by decide +kernel
theorem dX1_fetch_22 : decode cX1_fetch 22 = .ok (.iconst (-1), 1) := by decide +kernel
theorem dX1_fetch_23 : decode cX1_fetch 23 = .ok (.if_icmp .eq 4, 3) := by decide +kernel
theorem dX1_fetch_26 : decode cX1_fetch 26 = .ok (.return_, 1) := by decide +kernel
theorem dX1_fetch_27 : decode cX1_fetch 27 = .ok (.aload_n 0, 1) := by decide +kernel
theorem dX1_fetch_28 : decode cX1_fetch 28 = .ok (.getfield 62, 3) := by decide +kernel
theorem dX1_fetch_31 : decode cX1_fetch 31 = .ok (.istore_n 1, 1) := by decide +kernel
theorem dX1_fetch_32 : decode cX1_fetch 32 = .ok (.aload_n 0, 1) := by decide +kernel
theorem dX1_fetch_33 : decode cX1_fetch 33 = .ok (.getfield 66, 3) := by decide +kernel
theorem dX1_fetch_36 : decode cX1_fetch 36 = .ok (.ifCond .ne 7, 3) := by decide +kernel
theorem dX1_fetch_39 : decode cX1_fetch 39 = .ok (.iconst 1, 1) := by decide +kernel
theorem dX1_fetch_40 : decode cX1_fetch 40 = .ok (.goto 4, 3) := by decide +kernel
theorem dX1_fetch_43 : decode cX1_fetch 43 = .ok (.iconst 0, 1) := by decide +kernel
theorem dX1_fetch_44 : decode cX1_fetch 44 = .ok (.istore_n 2, 1) := by decide +kernel
theorem dX1_fetch_45 : decode cX1_fetch 45 = .ok (.iload_n 2, 1) := by decide +kernel
theorem dX1_fetch_46 : decode cX1_fetch 46 = .ok (.ifCond .eq 18, 3) := by decide +kernel
theorem dX1_fetch_49 : decode cX1_fetch 49 = .ok (.aload_n 0, 1) := by decide +kernel
theorem dX1_fetch_50 : decode cX1_fetch 50 = .ok (.getfield 49, 3) := by decide +kernel
theorem dX1_fetch_53 : decode cX1_fetch 53 = .ok (.iload_n 1, 1) := by decide +kernel
theorem dX1_fetch_54 : decode cX1_fetch 54 = .ok (.invokevirtual 196, 3) := by decide +kernel
theorem dX1_fetch_57 : decode cX1_fetch 57 = .ok (.ifCond .eq 7, 3) := by decide +kernel
theorem dX1_fetch_60 : decode cX1_fetch 60 = .ok (.iconst 1, 1) := by decide +kernel
theorem dX1_fetch_61 : decode cX1_fetch 61 = .ok (.goto 4, 3) := by decide +kernel
theorem dX1_fetch_64 : decode cX1_fetch 64 = .ok (.iconst 0, 1) := by decide +kernel
theorem dX1_fetch_65 : decode cX1_fetch 65 = .ok (.istore_n 3, 1) := by decide +kernel
theorem dX1_fetch_66 : decode cX1_fetch 66 = .ok (.aload_n 0, 1) := by decide +kernel
theorem dX1_fetch_67 : decode cX1_fetch 67 = .ok (.getfield 12, 3) := by decide +kernel
theorem dX1_fetch_70 : decode cX1_fetch 70 = .ok (.iconst 0, 1) := by decide +kernel
theorem dX1_fetch_71 : decode cX1_fetch 71 = .ok (.iload_n 1, 1) := by decide +kernel
theorem dX1_fetch_72 : decode cX1_fetch 72 = .ok (.iload_n 2, 1) := by decide +kernel
theorem dX1_fetch_73 : decode cX1_fetch 73 = .ok (.iload_n 3, 1) := by decide +kernel
theorem dX1_fetch_74 : decode cX1_fetch 74 = .ok (.invokevirtual 199, 3) := by decide +kernel
theorem dX1_fetch_77 : decode cX1_fetch 77 = .ok (.aload_n 0, 1) := by decide +kernel
theorem dX1_fetch_78 : decode cX1_fetch 78 = .ok (.getfield 28, 3) := by decide +kernel
theorem dX1_fetch_81 : decode cX1_fetch 81 = .ok (.dup, 1) := by decide +kernel
theorem dX1_fetch_82 : decode cX1_fetch 82 = .ok (.getfield 203, 3) := by decide +kernel
theorem dX1_fetch_85 : decode cX1_fetch 85 = .ok (.iconst 1, 1) := by decide +kernel
theorem dX1_fetch_86 : decode cX1_fetch 86 = .ok (.iadd, 1) := by decide +kernel
theorem dX1_fetch_87 : decode cX1_fetch 87 = .ok (.putfield 203, 3) := by decide +kernel
theorem dX1_fetch_90 : decode cX1_fetch 90 = .ok (.aload_n 0, 1) := by decide +kernel
theorem dX1_fetch_91 : decode cX1_fetch 91 = .ok (.aload_n 0, 1) := by decide +kernel
theorem dX1_fetch_92 : decode cX1_fetch 92 = .ok (.getfield 40, 3) := by decide +kernel
theorem dX1_fetch_95 : decode cX1_fetch 95 = .ok (.iload_n 1, 1) := by decide +kernel
theorem dX1_fetch_96 : decode cX1_fetch 96 = .ok (.invokevirtual 206, 3) := by decide +kernel
theorem dX1_fetch_99 : decode cX1_fetch 99 = .ok (.putfield 62, 3) := by decide +kernel
theorem dX1_fetch_102 : decode cX1_fetch 102 = .ok (.iload_n 2, 1) := by decide +kernel
theorem dX1_fetch_103 : decode cX1_fetch 103 = .ok (.ifCond .eq 57, 3) := by decide +kernel
theorem dX1_fetch_106 : decode cX1_fetch 106 = .ok (.aload_n 0, 1) := by decide +kernel
theorem dX1_fetch_107 : decode cX1_fetch 107 = .ok (.getfield 49, 3) := by decide +kernel
theorem dX1_fetch_110 : decode cX1_fetch 110 = .ok (.iload_n 1, 1) := by decide +kernel
theorem dX1_fetch_111 : decode cX1_fetch 111 = .ok (.invokevirtual 138, 3) := by decide +kernel
theorem dX1_fetch_114 : decode cX1_fetch 114 = .ok (.pop, 1) := by decide +kernel
theorem dX1_fetch_115 : decode cX1_fetch 115 = .ok (.aload_n 0, 1) := by decide +kernel
theorem dX1_fetch_116 : decode cX1_fetch 116 = .ok (.getfield 40, 3) := by decide +kernel
theorem dX1_fetch_119 : decode cX1_fetch 119 = .ok (.iload_n 1, 1) := by decide +kernel
theorem dX1_fetch_120 : decode cX1_fetch 120 = .ok (.invokevirtual 114, 3) := by decide +kernel
theorem dX1_fetch_123 : decode cX1_fetch 123 = .ok (.istore 4, 2) := by decide +kernel
theorem dX1_fetch_125 : decode cX1_fetch 125 = .ok (.aload_n 0, 1) := by decide +kernel
theorem dX1_fetch_126 : decode cX1_fetch 126 = .ok (.iload_n 3, 1) := by decide +kernel
theorem dX1_fetch_127 : decode cX1_fetch 127 = .ok (.ifCond .ne 9, 3) := by decide +kernel
theorem dX1_fetch_130 : decode cX1_fetch 130 = .ok (.iload 4, 2) := by decide +kernel
theorem dX1_fetch_132 : decode cX1_fetch 132 = .ok (.iconst 5, 1) := by decide +kernel
theorem dX1_fetch_133 : decode cX1_fetch 133 = .ok (.if_icmp .ne 7, 3) := by decide +kernel
theorem dX1_fetch_136 : decode cX1_fetch 136 = .ok (.iconst 1, 1) := by decide +kernel
theorem dX1_fetch_137 : decode cX1_fetch 137 = .ok (.goto 4, 3) := by decide +kernel
theorem dX1_fetch_140 : decode cX1_fetch 140 = .ok (.iconst 0, 1) := by decide +kernel
theorem dX1_fetch_141 : decode cX1_fetch 141 = .ok (.putfield 66, 3) := by decide +kernel
theorem dX1_fetch_144 : decode cX1_fetch 144 = .ok (.aload_n 0, 1) := by decide +kernel
theorem dX1_fetch_145 : decode cX1_fetch 145 = .ok (.iload 4, 2) := by decide +kernel
theorem dX1_fetch_147 : decode cX1_fetch 147 = .ok (.bipush 6, 2) := by decide +kernel
theorem dX1_fetch_149 : decode cX1_fetch 149 = .ok (.if_icmp .ne 7, 3) := by decide +kernel
theorem dX1_fetch_152 : decode cX1_fetch 152 = .ok (.iconst 1, 1) := by decide +kernel
theorem dX1_fetch_153 : decode cX1_fetch 153 = .ok (.goto 4, 3) := by decide +kernel
theorem dX1_fetch_156 : decode cX1_fetch 156 = .ok (.iconst 0, 1) := by decide +kernel
theorem dX1_fetch_157 : decode cX1_fetch 157 = .ok (.putfield 69, 3) := by decide +kernel
theorem dX1_fetch_160 : decode cX1_fetch 160 = .ok (.return_, 1) := by decide +kernel
theorem dX2_init_0 : decode cX2_init 0 = .ok (.aload_n 0, 1) := by decide +kernel
theorem dX2_init_1 : decode cX2_init 1 = .ok (.invokespecial 3, 3) := by decide +kernel
theorem dX2_init_4 : decode cX2_init 4 = .ok (.aload_n 0, 1) := by decide +kernel
theorem dX2_init_5 : decode cX2_init 5 = .ok (.bipush 8, 2) := by decide +kernel
theorem dX2_init_7 : decode cX2_init 7 = .ok (.newarray .int, 2) := by decide +kernel
theorem dX2_init_9 : decode cX2_init 9 = .ok (.putfield 9, 3) := by decide +kernel
theorem dX2_init_12 : decode cX2_init 12 = .ok (.aload_n 0, 1) := by decide +kernel
theorem dX2_init_13 : decode cX2_init 13 = .ok (.bipush 64, 2) := by decide +kernel
theorem dX2_init_15 : decode cX2_init 15 = .ok (.newarray .int, 2) := by decide +kernel
theorem dX2_init_17 : decode cX2_init 17 = .ok (.putfield 15, 3) := by decide +kernel
theorem dX2_init_20 : decode cX2_init 20 = .ok (.aload_n 0, 1) := by decide +kernel
theorem dX2_init_21 : decode cX2_init 21 = .ok (.aload_n 1, 1) := by decide +kernel
theorem dX2_init_22 : decode cX2_init 22 = .ok (.putfield 18, 3) := by decide +kernel
theorem dX2_init_25 : decode cX2_init 25 = .ok (.return_, 1) := by decide +kernel
theorem dX2_beginAnew_0 : decode cX2_beginAnew 0 = .ok (.aload_n 0, 1) := by decide +kernel
theorem dX2_beginAnew_1 : decode cX2_beginAnew 1 = .ok (.getfield 9, 3) := by decide +kernel
theorem dX2_beginAnew_4 : decode cX2_beginAnew 4 = .ok (.iconst 0, 1) := by decide +kernel
theorem dX2_beginAnew_5 : decode cX2_beginAnew 5 = .ok (.invokestatic 22, 3) := by decide +kernel
theorem dX2_beginAnew_8 : decode cX2_beginAnew 8 = .ok (.aload_n 0, 1) := by decide +kernel
theorem dX2_beginAnew_9 : decode cX2_beginAnew 9 = .ok (.getfield 15, 3) := by decide +kernel
theorem dX2_beginAnew_12 : decode cX2_beginAnew 12 = .ok (.iconst 0, 1) := by decide +kernel
theorem dX2_beginAnew_13 : decode cX2_beginAnew 13 = .ok (.invokestatic 22, 3) := by decide +kernel
theorem dX2_beginAnew_16 : decode cX2_beginAnew 16 = .ok (.return_, 1) := by decide +kernel
theorem dX2_valueOf_0 : decode cX2_valueOf 0 = .ok (.iload_n 1, 1) := by decide +kernel
theorem dX2_valueOf_1 : decode cX2_valueOf 1 = .ok (.ifCond .lt 18, 3) := by decide +kernel
theorem dX2_valueOf_4 : decode cX2_valueOf 4 = .ok (.iload_n 1, 1) := by decide +kernel
theorem dX2_valueOf_5 : decode cX2_valueOf 5 = .ok (.bipush 8, 2) := by decide +kernel
theorem dX2_valueOf_7 : decode cX2_valueOf 7 = .ok (.if_icmp .ge 12, 3) := by decide +kernel
theorem dX2_valueOf_10 : decode cX2_valueOf 10 = .ok (.aload_n 0, 1) := by decide +kernel
theorem dX2_valueOf_11 : decode cX2_valueOf 11 = .ok (.getfield 9, 3) := by decide +kernel
theorem dX2_valueOf_14 : decode cX2_valueOf 14 = .ok (.iload_n 1, 1) := by decide +kernel
theorem dX2_valueOf_15 : decode cX2_valueOf 15 = .ok (.iaload, 1) := by decide +kernel
theorem dX2_valueOf_16 : decode cX2_valueOf 16 = .ok (.goto 4, 3) := by decide +kernel
theorem dX2_valueOf_19 : decode cX2_valueOf 19 = .ok (.iconst 0, 1) := by decide +kernel
theorem dX2_valueOf_20 : decode cX2_valueOf 20 = .ok (.ireturn, 1) := by decide +kernel
theorem dX2_valueAt_0 : decode cX2_valueAt 0 = .ok (.aload_n 0, 1) := by decide +kernel
theorem dX2_valueAt_1 : decode cX2_valueAt 1 = .ok (.getfield 15, 3) := by decide +kernel
theorem dX2_valueAt_4 : decode cX2_valueAt 4 = .ok (.iload_n 1, 1) := by decide +kernel
theorem dX2_valueAt_5 : decode cX2_valueAt 5 = .ok (.bipush 64, 2) := by decide +kernel
theorem dX2_valueAt_7 : decode cX2_valueAt 7 = .ok (.invokestatic 28, 3) := by decide +kernel
theorem dX2_valueAt_10 : decode cX2_valueAt 10 = .ok (.iaload, 1) := by decide +kernel
theorem dX2_valueAt_11 : decode cX2_valueAt 11 = .ok (.ireturn, 1) := by decide +kernel
theorem dX2_goes_0 : decode cX2_goes 0 = .ok (.aload_n 0, 1) := by decide +kernel
theorem dX2_goes_1 : decode cX2_goes 1 = .ok (.getfield 18, 3) := by decide +kernel
theorem dX2_goes_4 : decode cX2_goes 4 = .ok (.iload_n 1, 1) := by decide +kernel
theorem dX2_goes_5 : decode cX2_goes 5 = .ok (.invokevirtual 34, 3) := by decide +kernel
theorem dX2_goes_8 : decode cX2_goes 8 = .ok (.iconst 4, 1) := by decide +kernel
theorem dX2_goes_9 : decode cX2_goes 9 = .ok (.if_icmp .ne 22, 3) := by decide +kernel
theorem dX2_goes_12 : decode cX2_goes 12 = .ok (.aload_n 0, 1) := by decide +kernel
theorem dX2_goes_13 : decode cX2_goes 13 = .ok (.aload_n 0, 1) := by decide +kernel
theorem dX2_goes_14 : decode cX2_goes 14 = .ok (.getfield 18, 3) := by decide +kernel
theorem dX2_goes_17 : decode cX2_goes 17 = .ok (.iload_n 1, 1) := by decide +kernel
theorem dX2_goes_18 : decode cX2_goes 18 = .ok (.invokevirtual 40, 3) := by decide +kernel
theorem dX2_goes_21 : decode cX2_goes 21 = .ok (.invokevirtual 43, 3) := by decide +kernel
theorem dX2_goes_24 : decode cX2_goes 24 = .ok (.ifCond .eq 7, 3) := by decide +kernel
theorem dX2_goes_27 : decode cX2_goes 27 = .ok (.iconst 1, 1) := by decide +kernel
theorem dX2_goes_28 : decode cX2_goes 28 = .ok (.goto 4, 3) := by decide +kernel
theorem dX2_goes_31 : decode cX2_goes 31 = .ok (.iconst 0, 1) := by decide +kernel
theorem dX2_goes_32 : decode cX2_goes 32 = .ok (.ireturn, 1) := by decide +kernel
theorem dX2_perform_0 : decode cX2_perform 0 = .ok (.aload_n 0, 1) := by decide +kernel
theorem dX2_perform_1 : decode cX2_perform 1 = .ok (.aload_n 0, 1) := by decide +kernel
theorem dX2_perform_2 : decode cX2_perform 2 = .ok (.getfield 18, 3) := by decide +kernel
theorem dX2_perform_5 : decode cX2_perform 5 = .ok (.iload_n 1, 1) := by decide +kernel
theorem dX2_perform_6 : decode cX2_perform 6 = .ok (.invokevirtual 40, 3) := by decide +kernel
theorem dX2_perform_9 : decode cX2_perform 9 = .ok (.invokevirtual 43, 3) := by decide +kernel
theorem dX2_perform_12 : decode cX2_perform 12 = .ok (.istore_n 2, 1) := by decide +kernel
theorem dX2_perform_13 : decode cX2_perform 13 = .ok (.aload_n 0, 1) := by decide +kernel
theorem dX2_perform_14 : decode cX2_perform 14 = .ok (.aload_n 0, 1) := by decide +kernel
theorem dX2_perform_15 : decode cX2_perform 15 = .ok (.getfield 18, 3) := by decide +kernel
theorem dX2_perform_18 : decode cX2_perform 18 = .ok (.iload_n 1, 1) := by decide +kernel
theorem dX2_perform_19 : decode cX2_perform 19 = .ok (.invokevirtual 46, 3) := by decide +kernel
theorem dX2_perform_22 : decode cX2_perform 22 = .ok (.invokevirtual 43, 3) := by decide +kernel
theorem dX2_perform_25 : decode cX2_perform 25 = .ok (.istore_n 3, 1) := by decide +kernel
theorem dX2_perform_26 : decode cX2_perform 26 = .ok (.aload_n 0, 1) := by decide +kernel
theorem dX2_perform_27 : decode cX2_perform 27 = .ok (.getfield 18, 3) := by decide +kernel
theorem dX2_perform_30 : decode cX2_perform 30 = .ok (.iload_n 1, 1) := by decide +kernel
theorem dX2_perform_31 : decode cX2_perform 31 = .ok (.invokevirtual 49, 3) := by decide +kernel
theorem dX2_perform_34 : decode cX2_perform 34 = .ok (.istore 4, 2) := by decide +kernel
theorem dX2_perform_36 : decode cX2_perform 36 = .ok (.aload_n 0, 1) := by decide +kernel
theorem dX2_perform_37 : decode cX2_perform 37 = .ok (.getfield 18, 3) := by decide +kernel
theorem dX2_perform_40 : decode cX2_perform 40 = .ok (.iload_n 1, 1) := by decide +kernel
theorem dX2_perform_41 : decode cX2_perform 41 = .ok (.invokevirtual 52, 3) := by decide +kernel
theorem dX2_perform_44 : decode cX2_perform 44 = .ok (.istore 5, 2) := by decide +kernel
theorem dX2_perform_46 : decode cX2_perform 46 = .ok (.aload_n 0, 1) := by decide +kernel
theorem dX2_perform_47 : decode cX2_perform 47 = .ok (.getfield 18, 3) := by decide +kernel
theorem dX2_perform_50 : decode cX2_perform 50 = .ok (.iload_n 1, 1) := by decide +kernel
theorem dX2_perform_51 : decode cX2_perform 51 = .ok (.invokevirtual 34, 3) := by decide +kernel
theorem dX2_perform_54 : decode cX2_perform 54 = .ok (.tableswitch 97 0 7 #[46, 59, 71, 78, 97, 97, 97, 88], 46) := by decide +kernel
theorem dX2_perform_100 : decode cX2_perform 100 = .ok (.aload_n 0, 1) := by decide +kernel
theorem dX2_perform_101 : decode cX2_perform 101 = .ok (.iload 5, 2) := by decide +kernel
theorem dX2_perform_103 : decode cX2_perform 103 = .ok (.iload_n 2, 1) := by decide +kernel
theorem dX2_perform_104 : decode cX2_perform 104 = .ok (.iload_n 3, 1) := by decide +kernel
theorem dX2_perform_105 : decode cX2_perform 105 = .ok (.iadd, 1) := by decide +kernel
theorem dX2_perform_106 : decode cX2_perform 106 = .ok (.iload 4, 2) := by decide +kernel
theorem dX2_perform_108 : decode cX2_perform 108 = .ok (.iadd, 1) := by decide +kernel
theorem dX2_perform_109 : decode cX2_perform 109 = .ok (.invokevirtual 55, 3) := by decide +kernel
theorem dX2_perform_112 : decode cX2_perform 112 = .ok (.ireturn, 1) := by decide +kernel
theorem dX2_perform_113 : decode cX2_perform 113 = .ok (.aload_n 0, 1) := by decide +kernel
theorem dX2_perform_114 : decode cX2_perform 114 = .ok (.iload 5, 2) := by decide +kernel
theorem dX2_perform_116 : decode cX2_perform 116 = .ok (.aload_n 0, 1) := by decide +kernel
theorem dX2_perform_117 : decode cX2_perform 117 = .ok (.iload_n 2, 1) := by decide +kernel
theorem dX2_perform_118 : decode cX2_perform 118 = .ok (.invokevirtual 58, 3) := by decide +kernel
theorem dX2_perform_121 : decode cX2_perform 121 = .ok (.invokevirtual 55, 3) := by decide +kernel
theorem dX2_perform_124 : decode cX2_perform 124 = .ok (.ireturn, 1) := by decide +kernel
theorem dX2_perform_125 : decode cX2_perform 125 = .ok (.aload_n 0, 1) := by decide +kernel
theorem dX2_perform_126 : decode cX2_perform 126 = .ok (.iload_n 2, 1) := by decide +kernel
theorem dX2_perform_127 : decode cX2_perform 127 = .ok (.iload_n 3, 1) := by decide +kernel
theorem dX2_perform_128 : decode cX2_perform 128 = .ok (.invokevirtual 61, 3) := by decide +kernel
theorem dX2_perform_131 : decode cX2_perform 131 = .ok (.ireturn, 1) := by decide +kernel
theorem dX2_perform_132 : decode cX2_perform 132 = .ok (.aload_n 0, 1) := by decide +kernel
theorem dX2_perform_133 : decode cX2_perform 133 = .ok (.iload 5, 2) := by decide +kernel
theorem dX2_perform_135 : decode cX2_perform 135 = .ok (.iload_n 2, 1) := by decide +kernel
theorem dX2_perform_136 : decode cX2_perform 136 = .ok (.iload_n 3, 1) := by decide +kernel
theorem dX2_perform_137 : decode cX2_perform 137 = .ok (.imul, 1) := by decide +kernel
theorem dX2_perform_138 : decode cX2_perform 138 = .ok (.invokevirtual 55, 3) := by decide +kernel
theorem dX2_perform_141 : decode cX2_perform 141 = .ok (.ireturn, 1) := by decide +kernel
theorem dX2_perform_142 : decode cX2_perform 142 = .ok (.aload_n 0, 1) := by decide +kernel
theorem dX2_perform_143 : decode cX2_perform 143 = .ok (.iload 5, 2) := by decide +kernel
theorem dX2_perform_145 : decode cX2_perform 145 = .ok (.iload 4, 2) := by decide +kernel
theorem dX2_perform_147 : decode cX2_perform 147 = .ok (.invokevirtual 55, 3) := by decide +kernel
theorem dX2_perform_150 : decode cX2_perform 150 = .ok (.ireturn, 1) := by decide +kernel
theorem dX2_perform_151 : decode cX2_perform 151 = .ok (.iconst 0, 1) := by decide +kernel
theorem dX2_perform_152 : decode cX2_perform 152 = .ok (.ireturn, 1) := by decide +kernel
theorem dX2_write_0 : decode cX2_write 0 = .ok (.iload_n 1, 1) := by decide +kernel
theorem dX2_write_1 : decode cX2_write 1 = .ok (.ifCond .lt 16, 3) := by decide +kernel
theorem dX2_write_4 : decode cX2_write 4 = .ok (.iload_n 1, 1) := by decide +kernel
theorem dX2_write_5 : decode cX2_write 5 = .ok (.bipush 8, 2) := by decide +kernel
theorem dX2_write_7 : decode cX2_write 7 = .ok (.if_icmp .ge 10, 3) := by decide +kernel
theorem dX2_write_10 : decode cX2_write 10 = .ok (.aload_n 0, 1) := by decide +kernel
theorem dX2_write_11 : decode cX2_write 11 = .ok (.getfield 9, 3) := by decide +kernel
theorem dX2_write_14 : decode cX2_write 14 = .ok (.iload_n 1, 1) := by decide +kernel
theorem dX2_write_15 : decode cX2_write 15 = .ok (.iload_n 2, 1) := by decide +kernel
theorem dX2_write_16 : decode cX2_write 16 = .ok (.iastore, 1) := by decide +kernel
theorem dX2_write_17 : decode cX2_write 17 = .ok (.iload_n 2, 1) := by decide +kernel
theorem dX2_write_18 : decode cX2_write 18 = .ok (.ireturn, 1) := by decide +kernel
theorem dX2_store_0 : decode cX2_store 0 = .ok (.aload_n 0, 1) := by decide +kernel
theorem dX2_store_1 : decode cX2_store 1 = .ok (.getfield 15, 3) := by decide +kernel
theorem dX2_store_4 : decode cX2_store 4 = .ok (.iload_n 1, 1) := by decide +kernel
theorem dX2_store_5 : decode cX2_store 5 = .ok (.bipush 64, 2) := by decide +kernel
theorem dX2_store_7 : decode cX2_store 7 = .ok (.invokestatic 28, 3) := by decide +kernel
theorem dX2_store_10 : decode cX2_store 10 = .ok (.iload_n 2, 1) := by decide +kernel
theorem dX2_store_11 : decode cX2_store 11 = .ok (.iastore, 1) := by decide +kernel
theorem dX2_store_12 : decode cX2_store 12 = .ok (.iload_n 2, 1) := by decide +kernel
theorem dX2_store_13 : decode cX2_store 13 = .ok (.ireturn, 1) := by decide +kernel
theorem dX3_init_0 : decode cX3_init 0 = .ok (.aload_n 0, 1) := by decide +kernel
theorem dX3_init_1 : decode cX3_init 1 = .ok (.invokespecial 3, 3) := by decide +kernel
theorem dX3_init_4 : decode cX3_init 4 = .ok (.aload_n 0, 1) := by decide +kernel
theorem dX3_init_5 : decode cX3_init 5 = .ok (.bipush 64, 2) := by decide +kernel
theorem dX3_init_7 : decode cX3_init 7 = .ok (.newarray .int, 2) := by decide +kernel
theorem dX3_init_9 : decode cX3_init 9 = .ok (.putfield 9, 3) := by decide +kernel
theorem dX3_init_12 : decode cX3_init 12 = .ok (.aload_n 0, 1) := by decide +kernel
theorem dX3_init_13 : decode cX3_init 13 = .ok (.bipush 64, 2) := by decide +kernel
theorem dX3_init_15 : decode cX3_init 15 = .ok (.newarray .int, 2) := by decide +kernel
theorem dX3_init_17 : decode cX3_init 17 = .ok (.putfield 15, 3) := by decide +kernel
theorem dX3_init_20 : decode cX3_init 20 = .ok (.aload_n 0, 1) := by decide +kernel
theorem dX3_init_21 : decode cX3_init 21 = .ok (.bipush 64, 2) := by decide +kernel
theorem dX3_init_23 : decode cX3_init 23 = .ok (.newarray .int, 2) := by decide +kernel
theorem dX3_init_25 : decode cX3_init 25 = .ok (.putfield 18, 3) := by decide +kernel
theorem dX3_init_28 : decode cX3_init 28 = .ok (.aload_n 0, 1) := by decide +kernel
theorem dX3_init_29 : decode cX3_init 29 = .ok (.bipush 64, 2) := by decide +kernel
theorem dX3_init_31 : decode cX3_init 31 = .ok (.newarray .int, 2) := by decide +kernel
theorem dX3_init_33 : decode cX3_init 33 = .ok (.putfield 21, 3) := by decide +kernel
theorem dX3_init_36 : decode cX3_init 36 = .ok (.aload_n 0, 1) := by decide +kernel
theorem dX3_init_37 : decode cX3_init 37 = .ok (.bipush 64, 2) := by decide +kernel
theorem dX3_init_39 : decode cX3_init 39 = .ok (.newarray .int, 2) := by decide +kernel
theorem dX3_init_41 : decode cX3_init 41 = .ok (.putfield 24, 3) := by decide +kernel
theorem dX3_init_44 : decode cX3_init 44 = .ok (.return_, 1) := by decide +kernel
theorem dX3_append_0 : decode cX3_append 0 = .ok (.aload_n 0, 1) := by decide +kernel
theorem dX3_append_1 : decode cX3_append 1 = .ok (.getfield 27, 3) := by decide +kernel
theorem dX3_append_4 : decode cX3_append 4 = .ok (.ifCond .lt 12, 3) := by decide +kernel
theorem dX3_append_7 : decode cX3_append 7 = .ok (.aload_n 0, 1) := by decide +kernel
theorem dX3_append_8 : decode cX3_append 8 = .ok (.getfield 27, 3) := by decide +kernel
theorem dX3_append_11 : decode cX3_append 11 = .ok (.bipush 64, 2) := by decide +kernel
theorem dX3_append_13 : decode cX3_append 13 = .ok (.if_icmp .lt 5, 3) := by decide +kernel
theorem dX3_append_16 : decode cX3_append 16 = .ok (.iconst (-1), 1) := by decide +kernel
theorem dX3_append_17 : decode cX3_append 17 = .ok (.ireturn, 1) := by decide +kernel
theorem dX3_append_18 : decode cX3_append 18 = .ok (.aload_n 0, 1) := by decide +kernel
theorem dX3_append_19 : decode cX3_append 19 = .ok (.getfield 9, 3) := by decide +kernel
theorem dX3_append_22 : decode cX3_append 22 = .ok (.aload_n 0, 1) := by decide +kernel
theorem dX3_append_23 : decode cX3_append 23 = .ok (.getfield 27, 3) := by decide +kernel
theorem dX3_append_26 : decode cX3_append 26 = .ok (.iload_n 1, 1) := by decide +kernel
theorem dX3_append_27 : decode cX3_append 27 = .ok (.iastore, 1) := by decide +kernel
theorem dX3_append_28 : decode cX3_append 28 = .ok (.aload_n 0, 1) := by decide +kernel
theorem dX3_append_29 : decode cX3_append 29 = .ok (.getfield 15, 3) := by decide +kernel
theorem dX3_append_32 : decode cX3_append 32 = .ok (.aload_n 0, 1) := by decide +kernel
theorem dX3_append_33 : decode cX3_append 33 = .ok (.getfield 27, 3) := by decide +kernel
theorem dX3_append_36 : decode cX3_append 36 = .ok (.iload_n 1, 1) := by decide +kernel
theorem dX3_append_37 : decode cX3_append 37 = .ok (.invokestatic 31, 3) := by decide +kernel
theorem dX3_append_40 : decode cX3_append 40 = .ok (.ifCond .eq 7, 3) := by decide +kernel
theorem dX3_append_43 : decode cX3_append 43 = .ok (.iload_n 2, 1) := by decide +kernel
theorem dX3_append_44 : decode cX3_append 44 = .ok (.goto 4, 3) := by decide +kernel
theorem dX3_append_47 : decode cX3_append 47 = .ok (.iconst (-1), 1) := by decide +kernel
theorem dX3_append_48 : decode cX3_append 48 = .ok (.iastore, 1) := by decide +kernel
theorem dX3_append_49 : decode cX3_append 49 = .ok (.aload_n 0, 1) := by decide +kernel
theorem dX3_append_50 : decode cX3_append 50 = .ok (.getfield 18, 3) := by decide +kernel
theorem dX3_append_53 : decode cX3_append 53 = .ok (.aload_n 0, 1) := by decide +kernel
theorem dX3_append_54 : decode cX3_append 54 = .ok (.getfield 27, 3) := by decide +kernel
theorem dX3_append_57 : decode cX3_append 57 = .ok (.iload_n 1, 1) := by decide +kernel
theorem dX3_append_58 : decode cX3_append 58 = .ok (.invokestatic 35, 3) := by decide +kernel
theorem dX3_append_61 : decode cX3_append 61 = .ok (.ifCond .eq 7, 3) := by decide +kernel
theorem dX3_append_64 : decode cX3_append 64 = .ok (.iload_n 3, 1) := by decide +kernel
theorem dX3_append_65 : decode cX3_append 65 = .ok (.goto 4, 3) := by decide +kernel
theorem dX3_append_68 : decode cX3_append 68 = .ok (.iconst (-1), 1) := by decide +kernel
theorem dX3_append_69 : decode cX3_append 69 = .ok (.iastore, 1) := by decide +kernel
theorem dX3_append_70 : decode cX3_append 70 = .ok (.aload_n 0, 1) := by decide +kernel
theorem dX3_append_71 : decode cX3_append 71 = .ok (.getfield 21, 3) := by decide +kernel
theorem dX3_append_74 : decode cX3_append 74 = .ok (.aload_n 0, 1) := by decide +kernel
theorem dX3_append_75 : decode cX3_append 75 = .ok (.getfield 27, 3) := by decide +kernel
theorem dX3_append_78 : decode cX3_append 78 = .ok (.iload_n 1, 1) := by decide +kernel
theorem dX3_append_79 : decode cX3_append 79 = .ok (.invokestatic 38, 3) := by decide +kernel
theorem dX3_append_82 : decode cX3_append 82 = .ok (.ifCond .eq 8, 3) := by decide +kernel
theorem dX3_append_85 : decode cX3_append 85 = .ok (.iload 4, 2) := by decide +kernel
theorem dX3_append_87 : decode cX3_append 87 = .ok (.goto 4, 3) := by decide +kernel
theorem dX3_append_90 : decode cX3_append 90 = .ok (.iconst (-1), 1) := by decide +kernel
theorem dX3_append_91 : decode cX3_append 91 = .ok (.iastore, 1) := by decide +kernel
theorem dX3_append_92 : decode cX3_append 92 = .ok (.aload_n 0, 1) := by decide +kernel
theorem dX3_append_93 : decode cX3_append 93 = .ok (.getfield 24, 3) := by decide +kernel
theorem dX3_append_96 : decode cX3_append 96 = .ok (.aload_n 0, 1) := by decide +kernel
theorem dX3_append_97 : decode cX3_append 97 = .ok (.getfield 27, 3) := by decide +kernel
theorem dX3_append_100 : decode cX3_append 100 = .ok (.iload 5, 2) := by decide +kernel
theorem dX3_append_102 : decode cX3_append 102 = .ok (.iastore, 1) := by decide +kernel
theorem dX3_append_103 : decode cX3_append 103 = .ok (.aload_n 0, 1) := by decide +kernel
theorem dX3_append_104 : decode cX3_append 104 = .ok (.dup, 1) := by decide +kernel
theorem dX3_append_105 : decode cX3_append 105 = .ok (.getfield 27, 3) := by decide +kernel
theorem dX3_append_108 : decode cX3_append 108 = .ok (.iconst 1, 1) := by decide +kernel
theorem dX3_append_109 : decode cX3_append 109 = .ok (.iadd, 1) := by decide +kernel
theorem dX3_append_110 : decode cX3_append 110 = .ok (.putfield 27, 3) := by decide +kernel
theorem dX3_append_113 : decode cX3_append 113 = .ok (.aload_n 0, 1) := by decide +kernel
theorem dX3_append_114 : decode cX3_append 114 = .ok (.getfield 27, 3) := by decide +kernel
theorem dX3_append_117 : decode cX3_append 117 = .ok (.iconst 1, 1) := by decide +kernel
theorem dX3_append_118 : decode cX3_append 118 = .ok (.isub, 1) := by decide +kernel
theorem dX3_append_119 : decode cX3_append 119 = .ok (.ireturn, 1) := by decide +kernel
theorem dX3_hasTarget_0 : decode cX3_hasTarget 0 = .ok (.iload_n 0, 1) := by decide +kernel
theorem dX3_hasTarget_1 : decode cX3_hasTarget 1 = .ok (.ifCond .eq 19, 3) := by decide +kernel
theorem dX3_hasTarget_4 : decode cX3_hasTarget 4 = .ok (.iload_n 0, 1) := by decide +kernel
theorem dX3_hasTarget_5 : decode cX3_hasTarget 5 = .ok (.iconst 1, 1) := by decide +kernel
theorem dX3_hasTarget_6 : decode cX3_hasTarget 6 = .ok (.if_icmp .eq 14, 3) := by decide +kernel
theorem dX3_hasTarget_9 : decode cX3_hasTarget 9 = .ok (.iload_n 0, 1) := by decide +kernel
theorem dX3_hasTarget_10 : decode cX3_hasTarget 10 = .ok (.iconst 3, 1) := by decide +kernel
theorem dX3_hasTarget_11 : decode cX3_hasTarget 11 = .ok (.if_icmp .eq 9, 3) := by decide +kernel
theorem dX3_hasTarget_14 : decode cX3_hasTarget 14 = .ok (.iload_n 0, 1) := by decide +kernel
theorem dX3_hasTarget_15 : decode cX3_hasTarget 15 = .ok (.bipush 7, 2) := by decide +kernel
theorem dX3_hasTarget_17 : decode cX3_hasTarget 17 = .ok (.if_icmp .ne 7, 3) := by decide +kernel
theorem dX3_hasTarget_20 : decode cX3_hasTarget 20 = .ok (.iconst 1, 1) := by decide +kernel
theorem dX3_hasTarget_21 : decode cX3_hasTarget 21 = .ok (.goto 4, 3) := by decide +kernel
theorem dX3_hasTarget_24 : decode cX3_hasTarget 24 = .ok (.iconst 0, 1) := by decide +kernel
theorem dX3_hasTarget_25 : decode cX3_hasTarget 25 = .ok (.ireturn, 1) := by decide +kernel
theorem dX3_readsFirst_0 : decode cX3_readsFirst 0 = .ok (.iload_n 0, 1) := by decide +kernel
theorem dX3_readsFirst_1 : decode cX3_readsFirst 1 = .ok (.iconst 1, 1) := by decide +kernel
theorem dX3_readsFirst_2 : decode cX3_readsFirst 2 = .ok (.if_icmp .eq 15, 3) := by decide +kernel
theorem dX3_readsFirst_5 : decode cX3_readsFirst 5 = .ok (.iload_n 0, 1) := by decide +kernel
theorem dX3_readsFirst_6 : decode cX3_readsFirst 6 = .ok (.iconst 4, 1) := by decide +kernel
theorem dX3_readsFirst_7 : decode cX3_readsFirst 7 = .ok (.if_icmp .eq 10, 3) := by decide +kernel
theorem dX3_readsFirst_10 : decode cX3_readsFirst 10 = .ok (.iload_n 0, 1) := by decide +kernel
theorem dX3_readsFirst_11 : decode cX3_readsFirst 11 = .ok (.invokestatic 38, 3) := by decide +kernel
theorem dX3_readsFirst_14 : decode cX3_readsFirst 14 = .ok (.ifCond .eq 7, 3) := by decide +kernel
theorem dX3_readsFirst_17 : decode cX3_readsFirst 17 = .ok (.iconst 1, 1) := by decide +kernel
theorem dX3_readsFirst_18 : decode cX3_readsFirst 18 = .ok (.goto 4, 3) := by decide +kernel
theorem dX3_readsFirst_21 : decode cX3_readsFirst 21 = .ok (.iconst 0, 1) := by decide +kernel
theorem dX3_readsFirst_22 : decode cX3_readsFirst 22 = .ok (.ireturn, 1) := by decide +kernel
theorem dX3_readsSecond_0 : decode cX3_readsSecond 0 = .ok (.iload_n 0, 1) := by decide +kernel
theorem dX3_readsSecond_1 : decode cX3_readsSecond 1 = .ok (.ifCond .eq 13, 3) := by decide +kernel
theorem dX3_readsSecond_4 : decode cX3_readsSecond 4 = .ok (.iload_n 0, 1) := by decide +kernel
theorem dX3_readsSecond_5 : decode cX3_readsSecond 5 = .ok (.iconst 2, 1) := by decide +kernel
theorem dX3_readsSecond_6 : decode cX3_readsSecond 6 = .ok (.if_icmp .eq 8, 3) := by decide +kernel
theorem dX3_readsSecond_9 : decode cX3_readsSecond 9 = .ok (.iload_n 0, 1) := by decide +kernel
theorem dX3_readsSecond_10 : decode cX3_readsSecond 10 = .ok (.iconst 3, 1) := by decide +kernel
theorem dX3_readsSecond_11 : decode cX3_readsSecond 11 = .ok (.if_icmp .ne 7, 3) := by decide +kernel
theorem dX3_readsSecond_14 : decode cX3_readsSecond 14 = .ok (.iconst 1, 1) := by decide +kernel
theorem dX3_readsSecond_15 : decode cX3_readsSecond 15 = .ok (.goto 4, 3) := by decide +kernel
theorem dX3_readsSecond_18 : decode cX3_readsSecond 18 = .ok (.iconst 0, 1) := by decide +kernel
theorem dX3_readsSecond_19 : decode cX3_readsSecond 19 = .ok (.ireturn, 1) := by decide +kernel
theorem dX3_forget_0 : decode cX3_forget 0 = .ok (.aload_n 0, 1) := by decide +kernel
theorem dX3_forget_1 : decode cX3_forget 1 = .ok (.iconst 0, 1) := by decide +kernel
theorem dX3_forget_2 : decode cX3_forget 2 = .ok (.putfield 27, 3) := by decide +kernel
theorem dX3_forget_5 : decode cX3_forget 5 = .ok (.return_, 1) := by decide +kernel
theorem dX3_size_0 : decode cX3_size 0 = .ok (.aload_n 0, 1) := by decide +kernel
theorem dX3_size_1 : decode cX3_size 1 = .ok (.getfield 27, 3) := by decide +kernel
theorem dX3_size_4 : decode cX3_size 4 = .ok (.ireturn, 1) := by decide +kernel
theorem dX3_kindOf_0 : decode cX3_kindOf 0 = .ok (.iload_n 1, 1) := by decide +kernel
theorem dX3_kindOf_1 : decode cX3_kindOf 1 = .ok (.ifCond .lt 18, 3) := by decide +kernel
theorem dX3_kindOf_4 : decode cX3_kindOf 4 = .ok (.iload_n 1, 1) := by decide +kernel
theorem dX3_kindOf_5 : decode cX3_kindOf 5 = .ok (.bipush 64, 2) := by decide +kernel
theorem dX3_kindOf_7 : decode cX3_kindOf 7 = .ok (.if_icmp .ge 12, 3) := by decide +kernel
theorem dX3_kindOf_10 : decode cX3_kindOf 10 = .ok (.aload_n 0, 1) := by decide +kernel
theorem dX3_kindOf_11 : decode cX3_kindOf 11 = .ok (.getfield 9, 3) := by decide +kernel
theorem dX3_kindOf_14 : decode cX3_kindOf 14 = .ok (.iload_n 1, 1) := by decide +kernel
theorem dX3_kindOf_15 : decode cX3_kindOf 15 = .ok (.iaload, 1) := by decide +kernel
theorem dX3_kindOf_16 : decode cX3_kindOf 16 = .ok (.goto 4, 3) := by decide +kernel
theorem dX3_kindOf_19 : decode cX3_kindOf 19 = .ok (.iconst (-1), 1) := by decide +kernel
theorem dX3_kindOf_20 : decode cX3_kindOf 20 = .ok (.ireturn, 1) := by decide +kernel
theorem dX3_written_0 : decode cX3_written 0 = .ok (.iload_n 1, 1) := by decide +kernel
theorem dX3_written_1 : decode cX3_written 1 = .ok (.ifCond .lt 18, 3) := by decide +kernel
theorem dX3_written_4 : decode cX3_written 4 = .ok (.iload_n 1, 1) := by decide +kernel
theorem dX3_written_5 : decode cX3_written 5 = .ok (.bipush 64, 2) := by decide +kernel
theorem dX3_written_7 : decode cX3_written 7 = .ok (.if_icmp .ge 12, 3) := by decide +kernel
theorem dX3_written_10 : decode cX3_written 10 = .ok (.aload_n 0, 1) := by decide +kernel
theorem dX3_written_11 : decode cX3_written 11 = .ok (.getfield 15, 3) := by decide +kernel
theorem dX3_written_14 : decode cX3_written 14 = .ok (.iload_n 1, 1) := by decide +kernel
theorem dX3_written_15 : decode cX3_written 15 = .ok (.iaload, 1) := by decide +kernel
theorem dX3_written_16 : decode cX3_written 16 = .ok (.goto 4, 3) := by decide +kernel
theorem dX3_written_19 : decode cX3_written 19 = .ok (.iconst (-1), 1) := by decide +kernel
theorem dX3_written_20 : decode cX3_written 20 = .ok (.ireturn, 1) := by decide +kernel
theorem dX3_firstRead_0 : decode cX3_firstRead 0 = .ok (.iload_n 1, 1) := by decide +kernel
theorem dX3_firstRead_1 : decode cX3_firstRead 1 = .ok (.ifCond .lt 18, 3) := by decide +kernel
theorem dX3_firstRead_4 : decode cX3_firstRead 4 = .ok (.iload_n 1, 1) := by decide +kernel
theorem dX3_firstRead_5 : decode cX3_firstRead 5 = .ok (.bipush 64, 2) := by decide +kernel
theorem dX3_firstRead_7 : decode cX3_firstRead 7 = .ok (.if_icmp .ge 12, 3) := by decide +kernel
theorem dX3_firstRead_10 : decode cX3_firstRead 10 = .ok (.aload_n 0, 1) := by decide +kernel
theorem dX3_firstRead_11 : decode cX3_firstRead 11 = .ok (.getfield 18, 3) := by decide +kernel
theorem dX3_firstRead_14 : decode cX3_firstRead 14 = .ok (.iload_n 1, 1) := by decide +kernel
theorem dX3_firstRead_15 : decode cX3_firstRead 15 = .ok (.iaload, 1) := by decide +kernel
theorem dX3_firstRead_16 : decode cX3_firstRead 16 = .ok (.goto 4, 3) := by decide +kernel
theorem dX3_firstRead_19 : decode cX3_firstRead 19 = .ok (.iconst (-1), 1) := by decide +kernel
theorem dX3_firstRead_20 : decode cX3_firstRead 20 = .ok (.ireturn, 1) := by decide +kernel
theorem dX3_secondRead_0 : decode cX3_secondRead 0 = .ok (.iload_n 1, 1) := by decide +kernel
theorem dX3_secondRead_1 : decode cX3_secondRead 1 = .ok (.ifCond .lt 18, 3) := by decide +kernel
theorem dX3_secondRead_4 : decode cX3_secondRead 4 = .ok (.iload_n 1, 1) := by decide +kernel
theorem dX3_secondRead_5 : decode cX3_secondRead 5 = .ok (.bipush 64, 2) := by decide +kernel
theorem dX3_secondRead_7 : decode cX3_secondRead 7 = .ok (.if_icmp .ge 12, 3) := by decide +kernel
theorem dX3_secondRead_10 : decode cX3_secondRead 10 = .ok (.aload_n 0, 1) := by decide +kernel
theorem dX3_secondRead_11 : decode cX3_secondRead 11 = .ok (.getfield 21, 3) := by decide +kernel
theorem dX3_secondRead_14 : decode cX3_secondRead 14 = .ok (.iload_n 1, 1) := by decide +kernel
theorem dX3_secondRead_15 : decode cX3_secondRead 15 = .ok (.iaload, 1) := by decide +kernel
theorem dX3_secondRead_16 : decode cX3_secondRead 16 = .ok (.goto 4, 3) := by decide +kernel
theorem dX3_secondRead_19 : decode cX3_secondRead 19 = .ok (.iconst (-1), 1) := by decide +kernel
theorem dX3_secondRead_20 : decode cX3_secondRead 20 = .ok (.ireturn, 1) := by decide +kernel
theorem dX3_number_0 : decode cX3_number 0 = .ok (.iload_n 1, 1) := by decide +kernel
theorem dX3_number_1 : decode cX3_number 1 = .ok (.ifCond .lt 18, 3) := by decide +kernel
theorem dX3_number_4 : decode cX3_number 4 = .ok (.iload_n 1, 1) := by decide +kernel
theorem dX3_number_5 : decode cX3_number 5 = .ok (.bipush 64, 2) := by decide +kernel
theorem dX3_number_7 : decode cX3_number 7 = .ok (.if_icmp .ge 12, 3) := by decide +kernel
theorem dX3_number_10 : decode cX3_number 10 = .ok (.aload_n 0, 1) := by decide +kernel
theorem dX3_number_11 : decode cX3_number 11 = .ok (.getfield 24, 3) := by decide +kernel
theorem dX3_number_14 : decode cX3_number 14 = .ok (.iload_n 1, 1) := by decide +kernel
theorem dX3_number_15 : decode cX3_number 15 = .ok (.iaload, 1) := by decide +kernel
theorem dX3_number_16 : decode cX3_number 16 = .ok (.goto 4, 3) := by decide +kernel
theorem dX3_number_19 : decode cX3_number 19 = .ok (.iconst 0, 1) := by decide +kernel
theorem dX3_number_20 : decode cX3_number 20 = .ok (.ireturn, 1) := by decide +kernel
theorem dX3_behind_0 : decode cX3_behind 0 = .ok (.iload_n 1, 1) := by decide +kernel
theorem dX3_behind_1 : decode cX3_behind 1 = .ok (.iconst 1, 1) := by decide +kernel
theorem dX3_behind_2 : decode cX3_behind 2 = .ok (.iadd, 1) := by decide +kernel
theorem dX3_behind_3 : decode cX3_behind 3 = .ok (.aload_n 0, 1) := by decide +kernel
theorem dX3_behind_4 : decode cX3_behind 4 = .ok (.getfield 27, 3) := by decide +kernel
theorem dX3_behind_7 : decode cX3_behind 7 = .ok (.if_icmp .ge 9, 3) := by decide +kernel
theorem dX3_behind_10 : decode cX3_behind 10 = .ok (.iload_n 1, 1) := by decide +kernel
theorem dX3_behind_11 : decode cX3_behind 11 = .ok (.iconst 1, 1) := by decide +kernel
theorem dX3_behind_12 : decode cX3_behind 12 = .ok (.iadd, 1) := by decide +kernel
theorem dX3_behind_13 : decode cX3_behind 13 = .ok (.goto 4, 3) := by decide +kernel
theorem dX3_behind_16 : decode cX3_behind 16 = .ok (.iconst 0, 1) := by decide +kernel
theorem dX3_behind_17 : decode cX3_behind 17 = .ok (.ireturn, 1) := by decide +kernel
theorem dX3_wordAt_0 : decode cX3_wordAt 0 = .ok (.aload_n 0, 1) := by decide +kernel
theorem dX3_wordAt_1 : decode cX3_wordAt 1 = .ok (.getfield 27, 3) := by decide +kernel
theorem dX3_wordAt_4 : decode cX3_wordAt 4 = .ok (.ifCond .le 14, 3) := by decide +kernel
theorem dX3_wordAt_7 : decode cX3_wordAt 7 = .ok (.iload_n 1, 1) := by decide +kernel
theorem dX3_wordAt_8 : decode cX3_wordAt 8 = .ok (.aload_n 0, 1) := by decide +kernel
theorem dX3_wordAt_9 : decode cX3_wordAt 9 = .ok (.getfield 27, 3) := by decide +kernel
theorem dX3_wordAt_12 : decode cX3_wordAt 12 = .ok (.invokestatic 41, 3) := by decide +kernel
theorem dX3_wordAt_15 : decode cX3_wordAt 15 = .ok (.goto 4, 3) := by decide +kernel
theorem dX3_wordAt_18 : decode cX3_wordAt 18 = .ok (.iconst 0, 1) := by decide +kernel
theorem dX3_wordAt_19 : decode cX3_wordAt 19 = .ok (.ireturn, 1) := by decide +kernel
theorem dX4_init_0 : decode cX4_init 0 = .ok (.aload_n 0, 1) := by decide +kernel
theorem dX4_init_1 : decode cX4_init 1 = .ok (.invokespecial 3, 3) := by decide +kernel
theorem dX4_init_4 : decode cX4_init 4 = .ok (.aload_n 0, 1) := by decide +kernel
theorem dX4_init_5 : decode cX4_init 5 = .ok (.iconst 3, 1) := by decide +kernel
theorem dX4_init_6 : decode cX4_init 6 = .ok (.iload_n 1, 1) := by decide +kernel
theorem dX4_init_7 : decode cX4_init 7 = .ok (.bipush 6, 2) := by decide +kernel
theorem dX4_init_9 : decode cX4_init 9 = .ok (.invokestatic 9, 3) := by decide +kernel
theorem dX4_init_12 : decode cX4_init 12 = .ok (.iadd, 1) := by decide +kernel
theorem dX4_init_13 : decode cX4_init 13 = .ok (.putfield 15, 3) := by decide +kernel
theorem dX4_init_16 : decode cX4_init 16 = .ok (.aload_n 0, 1) := by decide +kernel
theorem dX4_init_17 : decode cX4_init 17 = .ok (.iconst 1, 1) := by decide +kernel
theorem dX4_init_18 : decode cX4_init 18 = .ok (.iload_n 2, 1) := by decide +kernel
theorem dX4_init_19 : decode cX4_init 19 = .ok (.aload_n 0, 1) := by decide +kernel
theorem dX4_init_20 : decode cX4_init 20 = .ok (.getfield 15, 3) := by decide +kernel
theorem dX4_init_23 : decode cX4_init 23 = .ok (.iconst 2, 1) := by decide +kernel
theorem dX4_init_24 : decode cX4_init 24 = .ok (.isub, 1) := by decide +kernel
theorem dX4_init_25 : decode cX4_init 25 = .ok (.invokestatic 9, 3) := by decide +kernel
theorem dX4_init_28 : decode cX4_init 28 = .ok (.iadd, 1) := by decide +kernel
theorem dX4_init_29 : decode cX4_init 29 = .ok (.putfield 19, 3) := by decide +kernel
theorem dX4_init_32 : decode cX4_init 32 = .ok (.aload_n 0, 1) := by decide +kernel
theorem dX4_init_33 : decode cX4_init 33 = .ok (.getfield 15, 3) := by decide +kernel
theorem dX4_init_36 : decode cX4_init 36 = .ok (.aload_n 0, 1) := by decide +kernel
theorem dX4_init_37 : decode cX4_init 37 = .ok (.getfield 19, 3) := by decide +kernel
theorem dX4_init_40 : decode cX4_init 40 = .ok (.isub, 1) := by decide +kernel
theorem dX4_init_41 : decode cX4_init 41 = .ok (.istore 7, 2) := by decide +kernel
theorem dX4_init_43 : decode cX4_init 43 = .ok (.aload_n 0, 1) := by decide +kernel
theorem dX4_init_44 : decode cX4_init 44 = .ok (.aload_n 0, 1) := by decide +kernel
theorem dX4_init_45 : decode cX4_init 45 = .ok (.getfield 19, 3) := by decide +kernel
theorem dX4_init_48 : decode cX4_init 48 = .ok (.iload_n 3, 1) := by decide +kernel
theorem dX4_init_49 : decode cX4_init 49 = .ok (.iload 7, 2) := by decide +kernel
theorem dX4_init_51 : decode cX4_init 51 = .ok (.invokestatic 9, 3) := by decide +kernel
theorem dX4_init_54 : decode cX4_init 54 = .ok (.iadd, 1) := by decide +kernel
theorem dX4_init_55 : decode cX4_init 55 = .ok (.putfield 22, 3) := by decide +kernel
theorem dX4_init_58 : decode cX4_init 58 = .ok (.aload_n 0, 1) := by decide +kernel
theorem dX4_init_59 : decode cX4_init 59 = .ok (.aload_n 0, 1) := by decide +kernel
theorem dX4_init_60 : decode cX4_init 60 = .ok (.getfield 19, 3) := by decide +kernel
theorem dX4_init_63 : decode cX4_init 63 = .ok (.iload 4, 2) := by decide +kernel
theorem dX4_init_65 : decode cX4_init 65 = .ok (.iload 7, 2) := by decide +kernel
theorem dX4_init_67 : decode cX4_init 67 = .ok (.invokestatic 9, 3) := by decide +kernel
theorem dX4_init_70 : decode cX4_init 70 = .ok (.iadd, 1) := by decide +kernel
theorem dX4_init_71 : decode cX4_init 71 = .ok (.putfield 25, 3) := by decide +kernel
theorem dX4_init_74 : decode cX4_init 74 = .ok (.aload_n 0, 1) := by decide +kernel
theorem dX4_init_75 : decode cX4_init 75 = .ok (.aload_n 0, 1) := by decide +kernel
theorem dX4_init_76 : decode cX4_init 76 = .ok (.getfield 19, 3) := by decide +kernel
theorem dX4_init_79 : decode cX4_init 79 = .ok (.iload 5, 2) := by decide +kernel
theorem dX4_init_81 : decode cX4_init 81 = .ok (.iload 7, 2) := by decide +kernel
theorem dX4_init_83 : decode cX4_init 83 = .ok (.invokestatic 9, 3) := by decide +kernel
theorem dX4_init_86 : decode cX4_init 86 = .ok (.iadd, 1) := by decide +kernel
theorem dX4_init_87 : decode cX4_init 87 = .ok (.putfield 28, 3) := by decide +kernel
theorem dX4_init_90 : decode cX4_init 90 = .ok (.aload_n 0, 1) := by decide +kernel
theorem dX4_init_91 : decode cX4_init 91 = .ok (.iconst 1, 1) := by decide +kernel
theorem dX4_init_92 : decode cX4_init 92 = .ok (.iload 6, 2) := by decide +kernel
theorem dX4_init_94 : decode cX4_init 94 = .ok (.bipush 8, 2) := by decide +kernel
theorem dX4_init_96 : decode cX4_init 96 = .ok (.invokestatic 9, 3) := by decide +kernel
theorem dX4_init_99 : decode cX4_init 99 = .ok (.iadd, 1) := by decide +kernel
theorem dX4_init_100 : decode cX4_init 100 = .ok (.putfield 31, 3) := by decide +kernel
theorem dX4_init_103 : decode cX4_init 103 = .ok (.return_, 1) := by decide +kernel
theorem dX4_rest_0 : decode cX4_rest 0 = .ok (.iload_n 1, 1) := by decide +kernel
theorem dX4_rest_1 : decode cX4_rest 1 = .ok (.ifCond .le 11, 3) := by decide +kernel
theorem dX4_rest_4 : decode cX4_rest 4 = .ok (.iload_n 0, 1) := by decide +kernel
theorem dX4_rest_5 : decode cX4_rest 5 = .ok (.iload_n 1, 1) := by decide +kernel
theorem dX4_rest_6 : decode cX4_rest 6 = .ok (.invokestatic 34, 3) := by decide +kernel
theorem dX4_rest_9 : decode cX4_rest 9 = .ok (.goto 4, 3) := by decide +kernel
theorem dX4_rest_12 : decode cX4_rest 12 = .ok (.iconst 0, 1) := by decide +kernel
theorem dX4_rest_13 : decode cX4_rest 13 = .ok (.ireturn, 1) := by decide +kernel
theorem dX4_last_0 : decode cX4_last 0 = .ok (.aload_n 0, 1) := by decide +kernel
theorem dX4_last_1 : decode cX4_last 1 = .ok (.getfield 15, 3) := by decide +kernel
theorem dX4_last_4 : decode cX4_last 4 = .ok (.iconst 1, 1) := by decide +kernel
theorem dX4_last_5 : decode cX4_last 5 = .ok (.isub, 1) := by decide +kernel
theorem dX4_last_6 : decode cX4_last 6 = .ok (.ireturn, 1) := by decide +kernel
theorem dX4_behindWhichReady_0 : decode cX4_behindWhichReady 0 = .ok (.iload_n 1, 1) := by decide +kernel
theorem dX4_behindWhichReady_1 : decode cX4_behindWhichReady 1 = .ok (.iconst 1, 1) := by decide +kernel
theorem dX4_behindWhichReady_2 : decode cX4_behindWhichReady 2 = .ok (.if_icmp .ne 10, 3) := by decide +kernel
theorem dX4_behindWhichReady_5 : decode cX4_behindWhichReady 5 = .ok (.aload_n 0, 1) := by decide +kernel
theorem dX4_behindWhichReady_6 : decode cX4_behindWhichReady 6 = .ok (.getfield 25, 3) := by decide +kernel
theorem dX4_behindWhichReady_9 : decode cX4_behindWhichReady 9 = .ok (.goto 7, 3) := by decide +kernel
theorem dX4_behindWhichReady_12 : decode cX4_behindWhichReady 12 = .ok (.aload_n 0, 1) := by decide +kernel
theorem dX4_behindWhichReady_13 : decode cX4_behindWhichReady 13 = .ok (.getfield 22, 3) := by decide +kernel
theorem dX4_behindWhichReady_16 : decode cX4_behindWhichReady 16 = .ok (.ireturn, 1) := by decide +kernel
theorem dX4_cyclesToWork_0 : decode cX4_cyclesToWork 0 = .ok (.iload_n 1, 1) := by decide +kernel
theorem dX4_cyclesToWork_1 : decode cX4_cyclesToWork 1 = .ok (.iconst 3, 1) := by decide +kernel
theorem dX4_cyclesToWork_2 : decode cX4_cyclesToWork 2 = .ok (.if_icmp .ne 10, 3) := by decide +kernel
theorem dX4_cyclesToWork_5 : decode cX4_cyclesToWork 5 = .ok (.aload_n 0, 1) := by decide +kernel
theorem dX4_cyclesToWork_6 : decode cX4_cyclesToWork 6 = .ok (.getfield 31, 3) := by decide +kernel
theorem dX4_cyclesToWork_9 : decode cX4_cyclesToWork 9 = .ok (.goto 4, 3) := by decide +kernel
theorem dX4_cyclesToWork_12 : decode cX4_cyclesToWork 12 = .ok (.iconst 1, 1) := by decide +kernel
theorem dX4_cyclesToWork_13 : decode cX4_cyclesToWork 13 = .ok (.ireturn, 1) := by decide +kernel
theorem dX5_init_0 : decode cX5_init 0 = .ok (.aload_n 0, 1) := by decide +kernel
theorem dX5_init_1 : decode cX5_init 1 = .ok (.invokespecial 3, 3) := by decide +kernel
theorem dX5_init_4 : decode cX5_init 4 = .ok (.aload_n 0, 1) := by decide +kernel
theorem dX5_init_5 : decode cX5_init 5 = .ok (.bipush 8, 2) := by decide +kernel
theorem dX5_init_7 : decode cX5_init 7 = .ok (.newarray .int, 2) := by decide +kernel
theorem dX5_init_9 : decode cX5_init 9 = .ok (.putfield 9, 3) := by decide +kernel
theorem dX5_init_12 : decode cX5_init 12 = .ok (.aload_n 0, 1) := by decide +kernel
theorem dX5_init_13 : decode cX5_init 13 = .ok (.bipush 8, 2) := by decide +kernel
theorem dX5_init_15 : decode cX5_init 15 = .ok (.newarray .boolean, 2) := by decide +kernel
theorem dX5_init_17 : decode cX5_init 17 = .ok (.putfield 15, 3) := by decide +kernel
theorem dX5_init_20 : decode cX5_init 20 = .ok (.aload_n 0, 1) := by decide +kernel
theorem dX5_init_21 : decode cX5_init 21 = .ok (.bipush 8, 2) := by decide +kernel
theorem dX5_init_23 : decode cX5_init 23 = .ok (.newarray .boolean, 2) := by decide +kernel
theorem dX5_init_25 : decode cX5_init 25 = .ok (.putfield 19, 3) := by decide +kernel
theorem dX5_init_28 : decode cX5_init 28 = .ok (.aload_n 0, 1) := by decide +kernel
theorem dX5_init_29 : decode cX5_init 29 = .ok (.getfield 9, 3) := by decide +kernel
theorem dX5_init_32 : decode cX5_init 32 = .ok (.iconst (-1), 1) := by decide +kernel
theorem dX5_init_33 : decode cX5_init 33 = .ok (.invokestatic 22, 3) := by decide +kernel
theorem dX5_init_36 : decode cX5_init 36 = .ok (.return_, 1) := by decide +kernel
theorem dX5_wordIn_0 : decode cX5_wordIn 0 = .ok (.iload_n 1, 1) := by decide +kernel
theorem dX5_wordIn_1 : decode cX5_wordIn 1 = .ok (.ifCond .lt 18, 3) := by decide +kernel
theorem dX5_wordIn_4 : decode cX5_wordIn 4 = .ok (.iload_n 1, 1) := by decide +kernel
theorem dX5_wordIn_5 : decode cX5_wordIn 5 = .ok (.bipush 8, 2) := by decide +kernel
theorem dX5_wordIn_7 : decode cX5_wordIn 7 = .ok (.if_icmp .ge 12, 3) := by decide +kernel
theorem dX5_wordIn_10 : decode cX5_wordIn 10 = .ok (.aload_n 0, 1) := by decide +kernel
theorem dX5_wordIn_11 : decode cX5_wordIn 11 = .ok (.getfield 9, 3) := by decide +kernel
theorem dX5_wordIn_14 : decode cX5_wordIn 14 = .ok (.iload_n 1, 1) := by decide +kernel
theorem dX5_wordIn_15 : decode cX5_wordIn 15 = .ok (.iaload, 1) := by decide +kernel
theorem dX5_wordIn_16 : decode cX5_wordIn 16 = .ok (.goto 4, 3) := by decide +kernel
theorem dX5_wordIn_19 : decode cX5_wordIn 19 = .ok (.iconst (-1), 1) := by decide +kernel
theorem dX5_wordIn_20 : decode cX5_wordIn 20 = .ok (.ireturn, 1) := by decide +kernel
theorem dX5_isOnTheWay_0 : decode cX5_isOnTheWay 0 = .ok (.iload_n 1, 1) := by decide +kernel
theorem dX5_isOnTheWay_1 : decode cX5_isOnTheWay 1 = .ok (.ifCond .lt 22, 3) := by decide +kernel
theorem dX5_isOnTheWay_4 : decode cX5_isOnTheWay 4 = .ok (.iload_n 1, 1) := by decide +kernel
theorem dX5_isOnTheWay_5 : decode cX5_isOnTheWay 5 = .ok (.bipush 8, 2) := by decide +kernel
theorem dX5_isOnTheWay_7 : decode cX5_isOnTheWay 7 = .ok (.if_icmp .ge 16, 3) := by decide +kernel
theorem dX5_isOnTheWay_10 : decode cX5_isOnTheWay 10 = .ok (.aload_n 0, 1) := by decide +kernel
theorem dX5_isOnTheWay_11 : decode cX5_isOnTheWay 11 = .ok (.getfield 15, 3) := by decide +kernel
theorem dX5_isOnTheWay_14 : decode cX5_isOnTheWay 14 = .ok (.iload_n 1, 1) := by decide +kernel
theorem dX5_isOnTheWay_15 : decode cX5_isOnTheWay 15 = .ok (.baload, 1) := by decide +kernel
theorem dX5_isOnTheWay_16 : decode cX5_isOnTheWay 16 = .ok (.ifCond .eq 7, 3) := by decide +kernel
theorem dX5_isOnTheWay_19 : decode cX5_isOnTheWay 19 = .ok (.iconst 1, 1) := by decide +kernel
theorem dX5_isOnTheWay_20 : decode cX5_isOnTheWay 20 = .ok (.goto 4, 3) := by decide +kernel
theorem dX5_isOnTheWay_23 : decode cX5_isOnTheWay 23 = .ok (.iconst 0, 1) := by decide +kernel
theorem dX5_isOnTheWay_24 : decode cX5_isOnTheWay 24 = .ok (.ireturn, 1) := by decide +kernel
theorem dX5_isGoing_0 : decode cX5_isGoing 0 = .ok (.iload_n 1, 1) := by decide +kernel
theorem dX5_isGoing_1 : decode cX5_isGoing 1 = .ok (.ifCond .lt 22, 3) := by decide +kernel
theorem dX5_isGoing_4 : decode cX5_isGoing 4 = .ok (.iload_n 1, 1) := by decide +kernel
theorem dX5_isGoing_5 : decode cX5_isGoing 5 = .ok (.bipush 8, 2) := by decide +kernel
theorem dX5_isGoing_7 : decode cX5_isGoing 7 = .ok (.if_icmp .ge 16, 3) := by decide +kernel
theorem dX5_isGoing_10 : decode cX5_isGoing 10 = .ok (.aload_n 0, 1) := by decide +kernel
theorem dX5_isGoing_11 : decode cX5_isGoing 11 = .ok (.getfield 19, 3) := by decide +kernel
theorem dX5_isGoing_14 : decode cX5_isGoing 14 = .ok (.iload_n 1, 1) := by decide +kernel
theorem dX5_isGoing_15 : decode cX5_isGoing 15 = .ok (.baload, 1) := by decide +kernel
theorem dX5_isGoing_16 : decode cX5_isGoing 16 = .ok (.ifCond .eq 7, 3) := by decide +kernel
theorem dX5_isGoing_19 : decode cX5_isGoing 19 = .ok (.iconst 1, 1) := by decide +kernel
theorem dX5_isGoing_20 : decode cX5_isGoing 20 = .ok (.goto 4, 3) := by decide +kernel
theorem dX5_isGoing_23 : decode cX5_isGoing 23 = .ok (.iconst 0, 1) := by decide +kernel
theorem dX5_isGoing_24 : decode cX5_isGoing 24 = .ok (.ireturn, 1) := by decide +kernel
theorem dX5_put_0 : decode cX5_put 0 = .ok (.iload_n 1, 1) := by decide +kernel
theorem dX5_put_1 : decode cX5_put 1 = .ok (.ifCond .lt 31, 3) := by decide +kernel
theorem dX5_put_4 : decode cX5_put 4 = .ok (.iload_n 1, 1) := by decide +kernel
theorem dX5_put_5 : decode cX5_put 5 = .ok (.bipush 8, 2) := by decide +kernel
theorem dX5_put_7 : decode cX5_put 7 = .ok (.if_icmp .ge 25, 3) := by decide +kernel
theorem dX5_put_10 : decode cX5_put 10 = .ok (.aload_n 0, 1) := by decide +kernel
theorem dX5_put_11 : decode cX5_put 11 = .ok (.getfield 9, 3) := by decide +kernel
theorem dX5_put_14 : decode cX5_put 14 = .ok (.iload_n 1, 1) := by decide +kernel
theorem dX5_put_15 : decode cX5_put 15 = .ok (.iload_n 2, 1) := by decide +kernel
theorem dX5_put_16 : decode cX5_put 16 = .ok (.iastore, 1) := by decide +kernel
theorem dX5_put_17 : decode cX5_put 17 = .ok (.aload_n 0, 1) := by decide +kernel
theorem dX5_put_18 : decode cX5_put 18 = .ok (.getfield 15, 3) := by decide +kernel
theorem dX5_put_21 : decode cX5_put 21 = .ok (.iload_n 1, 1) := by decide +kernel
theorem dX5_put_22 : decode cX5_put 22 = .ok (.iload_n 3, 1) := by decide +kernel
theorem dX5_put_23 : decode cX5_put 23 = .ok (.bastore, 1) := by decide +kernel
theorem dX5_put_24 : decode cX5_put 24 = .ok (.aload_n 0, 1) := by decide +kernel
theorem dX5_put_25 : decode cX5_put 25 = .ok (.getfield 19, 3) := by decide +kernel
theorem dX5_put_28 : decode cX5_put 28 = .ok (.iload_n 1, 1) := by decide +kernel
theorem dX5_put_29 : decode cX5_put 29 = .ok (.iload 4, 2) := by decide +kernel
theorem dX5_put_31 : decode cX5_put 31 = .ok (.bastore, 1) := by decide +kernel
theorem dX5_put_32 : decode cX5_put 32 = .ok (.return_, 1) := by decide +kernel
theorem dX5_empty_0 : decode cX5_empty 0 = .ok (.aload_n 0, 1) := by decide +kernel
theorem dX5_empty_1 : decode cX5_empty 1 = .ok (.iload_n 1, 1) := by decide +kernel
theorem dX5_empty_2 : decode cX5_empty 2 = .ok (.iconst (-1), 1) := by decide +kernel
theorem dX5_empty_3 : decode cX5_empty 3 = .ok (.iconst 0, 1) := by decide +kernel
theorem dX5_empty_4 : decode cX5_empty 4 = .ok (.iconst 0, 1) := by decide +kernel
theorem dX5_empty_5 : decode cX5_empty 5 = .ok (.invokevirtual 28, 3) := by decide +kernel
theorem dX5_empty_8 : decode cX5_empty 8 = .ok (.return_, 1) := by decide +kernel
theorem dX5_moveOnFrom_0 : decode cX5_moveOnFrom 0 = .ok (.aload_n 0, 1) := by decide +kernel
theorem dX5_moveOnFrom_1 : decode cX5_moveOnFrom 1 = .ok (.iload_n 1, 1) := by decide +kernel
theorem dX5_moveOnFrom_2 : decode cX5_moveOnFrom 2 = .ok (.iconst 1, 1) := by decide +kernel
theorem dX5_moveOnFrom_3 : decode cX5_moveOnFrom 3 = .ok (.iadd, 1) := by decide +kernel
theorem dX5_moveOnFrom_4 : decode cX5_moveOnFrom 4 = .ok (.aload_n 0, 1) := by decide +kernel
theorem dX5_moveOnFrom_5 : decode cX5_moveOnFrom 5 = .ok (.iload_n 1, 1) := by decide +kernel
theorem dX5_moveOnFrom_6 : decode cX5_moveOnFrom 6 = .ok (.invokevirtual 32, 3) := by decide +kernel
theorem dX5_moveOnFrom_9 : decode cX5_moveOnFrom 9 = .ok (.aload_n 0, 1) := by decide +kernel
theorem dX5_moveOnFrom_10 : decode cX5_moveOnFrom 10 = .ok (.iload_n 1, 1) := by decide +kernel
theorem dX5_moveOnFrom_11 : decode cX5_moveOnFrom 11 = .ok (.invokevirtual 36, 3) := by decide +kernel
theorem dX5_moveOnFrom_14 : decode cX5_moveOnFrom 14 = .ok (.aload_n 0, 1) := by decide +kernel
theorem dX5_moveOnFrom_15 : decode cX5_moveOnFrom 15 = .ok (.iload_n 1, 1) := by decide +kernel
theorem dX5_moveOnFrom_16 : decode cX5_moveOnFrom 16 = .ok (.invokevirtual 40, 3) := by decide +kernel
theorem dX5_moveOnFrom_19 : decode cX5_moveOnFrom 19 = .ok (.invokevirtual 28, 3) := by decide +kernel
theorem dX5_moveOnFrom_22 : decode cX5_moveOnFrom 22 = .ok (.aload_n 0, 1) := by decide +kernel
theorem dX5_moveOnFrom_23 : decode cX5_moveOnFrom 23 = .ok (.iload_n 1, 1) := by decide +kernel
theorem dX5_moveOnFrom_24 : decode cX5_moveOnFrom 24 = .ok (.invokevirtual 43, 3) := by decide +kernel
theorem dX5_moveOnFrom_27 : decode cX5_moveOnFrom 27 = .ok (.return_, 1) := by decide +kernel
theorem dX5_squashBelow_0 : decode cX5_squashBelow 0 = .ok (.iconst 0, 1) := by decide +kernel
theorem dX5_squashBelow_1 : decode cX5_squashBelow 1 = .ok (.istore_n 2, 1) := by decide +kernel
theorem dX5_squashBelow_2 : decode cX5_squashBelow 2 = .ok (.iconst 0, 1) := by decide +kernel
theorem dX5_squashBelow_3 : decode cX5_squashBelow 3 = .ok (.istore_n 3, 1) := by decide +kernel
theorem dX5_squashBelow_4 : decode cX5_squashBelow 4 = .ok (.iload_n 3, 1) := by decide +kernel
theorem dX5_squashBelow_5 : decode cX5_squashBelow 5 = .ok (.bipush 8, 2) := by decide +kernel
theorem dX5_squashBelow_7 : decode cX5_squashBelow 7 = .ok (.if_icmp .ge 35, 3) := by decide +kernel
theorem dX5_squashBelow_10 : decode cX5_squashBelow 10 = .ok (.iload_n 3, 1) := by decide +kernel
theorem dX5_squashBelow_11 : decode cX5_squashBelow 11 = .ok (.iload_n 1, 1) := by decide +kernel
theorem dX5_squashBelow_12 : decode cX5_squashBelow 12 = .ok (.if_icmp .ge 30, 3) := by decide +kernel
theorem dX5_squashBelow_15 : decode cX5_squashBelow 15 = .ok (.aload_n 0, 1) := by decide +kernel
theorem dX5_squashBelow_16 : decode cX5_squashBelow 16 = .ok (.getfield 9, 3) := by decide +kernel
theorem dX5_squashBelow_19 : decode cX5_squashBelow 19 = .ok (.iload_n 3, 1) := by decide +kernel
theorem dX5_squashBelow_20 : decode cX5_squashBelow 20 = .ok (.iaload, 1) := by decide +kernel
theorem dX5_squashBelow_21 : decode cX5_squashBelow 21 = .ok (.iconst (-1), 1) := by decide +kernel
theorem dX5_squashBelow_22 : decode cX5_squashBelow 22 = .ok (.if_icmp .eq 6, 3) := by decide +kernel
theorem dX5_squashBelow_25 : decode cX5_squashBelow 25 = .ok (.iinc 2 1, 3) := by decide +kernel
theorem dX5_squashBelow_28 : decode cX5_squashBelow 28 = .ok (.aload_n 0, 1) := by decide +kernel
theorem dX5_squashBelow_29 : decode cX5_squashBelow 29 = .ok (.iload_n 3, 1) := by decide +kernel
theorem dX5_squashBelow_30 : decode cX5_squashBelow 30 = .ok (.iconst (-1), 1) := by decide +kernel
theorem dX5_squashBelow_31 : decode cX5_squashBelow 31 = .ok (.iconst 0, 1) := by decide +kernel
theorem dX5_squashBelow_32 : decode cX5_squashBelow 32 = .ok (.iconst 0, 1) := by decide +kernel
theorem dX5_squashBelow_33 : decode cX5_squashBelow 33 = .ok (.invokevirtual 28, 3) := by decide +kernel
theorem dX5_squashBelow_36 : decode cX5_squashBelow 36 = .ok (.iinc 3 1, 3) := by decide +kernel
theorem dX5_squashBelow_39 : decode cX5_squashBelow 39 = .ok (.goto (-35), 3) := by decide +kernel
theorem dX5_squashBelow_42 : decode cX5_squashBelow 42 = .ok (.iload_n 2, 1) := by decide +kernel
theorem dX5_squashBelow_43 : decode cX5_squashBelow 43 = .ok (.ireturn, 1) := by decide +kernel
theorem dX5_beginAnew_0 : decode cX5_beginAnew 0 = .ok (.aload_n 0, 1) := by decide +kernel
theorem dX5_beginAnew_1 : decode cX5_beginAnew 1 = .ok (.bipush 8, 2) := by decide +kernel
theorem dX5_beginAnew_3 : decode cX5_beginAnew 3 = .ok (.invokevirtual 47, 3) := by decide +kernel
theorem dX5_beginAnew_6 : decode cX5_beginAnew 6 = .ok (.pop, 1) := by decide +kernel
theorem dX5_beginAnew_7 : decode cX5_beginAnew 7 = .ok (.return_, 1) := by decide +kernel
theorem dX6_init_0 : decode cX6_init 0 = .ok (.aload_n 0, 1) := by decide +kernel
theorem dX6_init_1 : decode cX6_init 1 = .ok (.invokespecial 3, 3) := by decide +kernel
theorem dX6_init_4 : decode cX6_init 4 = .ok (.aload_n 0, 1) := by decide +kernel
theorem dX6_init_5 : decode cX6_init 5 = .ok (.iconst 5, 1) := by decide +kernel
theorem dX6_init_6 : decode cX6_init 6 = .ok (.newarray .int, 2) := by decide +kernel
theorem dX6_init_8 : decode cX6_init 8 = .ok (.putfield 9, 3) := by decide +kernel
theorem dX6_init_11 : decode cX6_init 11 = .ok (.return_, 1) := by decide +kernel
theorem dX6_beginAnew_0 : decode cX6_beginAnew 0 = .ok (.aload_n 0, 1) := by decide +kernel
theorem dX6_beginAnew_1 : decode cX6_beginAnew 1 = .ok (.getfield 9, 3) := by decide +kernel
theorem dX6_beginAnew_4 : decode cX6_beginAnew 4 = .ok (.iconst 0, 1) := by decide +kernel
theorem dX6_beginAnew_5 : decode cX6_beginAnew 5 = .ok (.invokestatic 15, 3) := by decide +kernel
theorem dX6_beginAnew_8 : decode cX6_beginAnew 8 = .ok (.aload_n 0, 1) := by decide +kernel
theorem dX6_beginAnew_9 : decode cX6_beginAnew 9 = .ok (.iconst 0, 1) := by decide +kernel
theorem dX6_beginAnew_10 : decode cX6_beginAnew 10 = .ok (.putfield 21, 3) := by decide +kernel
theorem dX6_beginAnew_13 : decode cX6_beginAnew 13 = .ok (.aload_n 0, 1) := by decide +kernel
theorem dX6_beginAnew_14 : decode cX6_beginAnew 14 = .ok (.iconst 0, 1) := by decide +kernel
theorem dX6_beginAnew_15 : decode cX6_beginAnew 15 = .ok (.putfield 25, 3) := by decide +kernel
theorem dX6_beginAnew_18 : decode cX6_beginAnew 18 = .ok (.aload_n 0, 1) := by decide +kernel
theorem dX6_beginAnew_19 : decode cX6_beginAnew 19 = .ok (.iconst 0, 1) := by decide +kernel
theorem dX6_beginAnew_20 : decode cX6_beginAnew 20 = .ok (.putfield 28, 3) := by decide +kernel
theorem dX6_beginAnew_23 : decode cX6_beginAnew 23 = .ok (.aload_n 0, 1) := by decide +kernel
theorem dX6_beginAnew_24 : decode cX6_beginAnew 24 = .ok (.iconst 0, 1) := by decide +kernel
theorem dX6_beginAnew_25 : decode cX6_beginAnew 25 = .ok (.putfield 31, 3) := by decide +kernel
theorem dX6_beginAnew_28 : decode cX6_beginAnew 28 = .ok (.aload_n 0, 1) := by decide +kernel
theorem dX6_beginAnew_29 : decode cX6_beginAnew 29 = .ok (.iconst 0, 1) := by decide +kernel
theorem dX6_beginAnew_30 : decode cX6_beginAnew 30 = .ok (.putfield 34, 3) := by decide +kernel
theorem dX6_beginAnew_33 : decode cX6_beginAnew 33 = .ok (.aload_n 0, 1) := by decide +kernel
theorem dX6_beginAnew_34 : decode cX6_beginAnew 34 = .ok (.iconst 0, 1) := by decide +kernel
theorem dX6_beginAnew_35 : decode cX6_beginAnew 35 = .ok (.putfield 37, 3) := by decide +kernel
theorem dX6_beginAnew_38 : decode cX6_beginAnew 38 = .ok (.aload_n 0, 1) := by decide +kernel
theorem dX6_beginAnew_39 : decode cX6_beginAnew 39 = .ok (.iconst 0, 1) := by decide +kernel
theorem dX6_beginAnew_40 : decode cX6_beginAnew 40 = .ok (.putfield 40, 3) := by decide +kernel
theorem dX6_beginAnew_43 : decode cX6_beginAnew 43 = .ok (.return_, 1) := by decide +kernel
theorem dX6_addCause_0 : decode cX6_addCause 0 = .ok (.iload_n 1, 1) := by decide +kernel
theorem dX6_addCause_1 : decode cX6_addCause 1 = .ok (.ifCond .lt 18, 3) := by decide +kernel
theorem dX6_addCause_4 : decode cX6_addCause 4 = .ok (.iload_n 1, 1) := by decide +kernel
theorem dX6_addCause_5 : decode cX6_addCause 5 = .ok (.iconst 5, 1) := by decide +kernel
theorem dX6_addCause_6 : decode cX6_addCause 6 = .ok (.if_icmp .ge 13, 3) := by decide +kernel
theorem dX6_addCause_9 : decode cX6_addCause 9 = .ok (.aload_n 0, 1) := by decide +kernel
theorem dX6_addCause_10 : decode cX6_addCause 10 = .ok (.getfield 9, 3) := by decide +kernel
theorem dX6_addCause_13 : decode cX6_addCause 13 = .ok (.iload_n 1, 1) := by decide +kernel
theorem dX6_addCause_14 : decode cX6_addCause 14 = .ok (.dup2, 1) := by decide +kernel
theorem dX6_addCause_15 : decode cX6_addCause 15 = .ok (.iaload, 1) := by decide +kernel
theorem dX6_addCause_16 : decode cX6_addCause 16 = .ok (.iconst 1, 1) := by decide +kernel
theorem dX6_addCause_17 : decode cX6_addCause 17 = .ok (.iadd, 1) := by decide +kernel
theorem dX6_addCause_18 : decode cX6_addCause 18 = .ok (.iastore, 1) := by decide +kernel
theorem dX6_addCause_19 : decode cX6_addCause 19 = .ok (.return_, 1) := by decide +kernel
theorem dX6_cyclesWith_0 : decode cX6_cyclesWith 0 = .ok (.iload_n 1, 1) := by decide +kernel
theorem dX6_cyclesWith_1 : decode cX6_cyclesWith 1 = .ok (.ifCond .lt 17, 3) := by decide +kernel
theorem dX6_cyclesWith_4 : decode cX6_cyclesWith 4 = .ok (.iload_n 1, 1) := by decide +kernel
theorem dX6_cyclesWith_5 : decode cX6_cyclesWith 5 = .ok (.iconst 5, 1) := by decide +kernel
theorem dX6_cyclesWith_6 : decode cX6_cyclesWith 6 = .ok (.if_icmp .ge 12, 3) := by decide +kernel
theorem dX6_cyclesWith_9 : decode cX6_cyclesWith 9 = .ok (.aload_n 0, 1) := by decide +kernel
theorem dX6_cyclesWith_10 : decode cX6_cyclesWith 10 = .ok (.getfield 9, 3) := by decide +kernel
theorem dX6_cyclesWith_13 : decode cX6_cyclesWith 13 = .ok (.iload_n 1, 1) := by decide +kernel
theorem dX6_cyclesWith_14 : decode cX6_cyclesWith 14 = .ok (.iaload, 1) := by decide +kernel
theorem dX6_cyclesWith_15 : decode cX6_cyclesWith 15 = .ok (.goto 4, 3) := by decide +kernel
theorem dX6_cyclesWith_18 : decode cX6_cyclesWith 18 = .ok (.iconst 0, 1) := by decide +kernel
theorem dX6_cyclesWith_19 : decode cX6_cyclesWith 19 = .ok (.ireturn, 1) := by decide +kernel
theorem dJ9_floorMod_0 : decode cJ9_floorMod 0 = .ok (.iload_n 0, 1) := by decide +kernel
theorem dJ9_floorMod_1 : decode cJ9_floorMod 1 = .ok (.iload_n 1, 1) := by decide +kernel
theorem dJ9_floorMod_2 : decode cJ9_floorMod 2 = .ok (.irem, 1) := by decide +kernel
theorem dJ9_floorMod_3 : decode cJ9_floorMod 3 = .ok (.istore_n 2, 1) := by decide +kernel
theorem dJ9_floorMod_4 : decode cJ9_floorMod 4 = .ok (.iload_n 0, 1) := by decide +kernel
theorem dJ9_floorMod_5 : decode cJ9_floorMod 5 = .ok (.iload_n 1, 1) := by decide +kernel
theorem dJ9_floorMod_6 : decode cJ9_floorMod 6 = .ok (.ixor, 1) := by decide +kernel
theorem dJ9_floorMod_7 : decode cJ9_floorMod 7 = .ok (.ifCond .ge 11, 3) := by decide +kernel
theorem dJ9_floorMod_10 : decode cJ9_floorMod 10 = .ok (.iload_n 2, 1) := by decide +kernel
theorem dJ9_floorMod_11 : decode cJ9_floorMod 11 = .ok (.ifCond .eq 7, 3) := by decide +kernel
theorem dJ9_floorMod_14 : decode cJ9_floorMod 14 = .ok (.iload_n 2, 1) := by decide +kernel
theorem dJ9_floorMod_15 : decode cJ9_floorMod 15 = .ok (.iload_n 1, 1) := by decide +kernel
theorem dJ9_floorMod_16 : decode cJ9_floorMod 16 = .ok (.iadd, 1) := by decide +kernel
theorem dJ9_floorMod_17 : decode cJ9_floorMod 17 = .ok (.ireturn, 1) := by decide +kernel
theorem dJ9_floorMod_18 : decode cJ9_floorMod 18 = .ok (.iload_n 2, 1) := by decide +kernel
theorem dJ9_floorMod_19 : decode cJ9_floorMod 19 = .ok (.ireturn, 1) := by decide +kernel
theorem dJ7_fill_0 : decode cJ7_fill 0 = .ok (.iconst 0, 1) := by decide +kernel
theorem dJ7_fill_1 : decode cJ7_fill 1 = .ok (.istore_n 2, 1) := by decide +kernel
theorem dJ7_fill_2 : decode cJ7_fill 2 = .ok (.aload_n 0, 1) := by decide +kernel
theorem dJ7_fill_3 : decode cJ7_fill 3 = .ok (.arraylength, 1) := by decide +kernel
theorem dJ7_fill_4 : decode cJ7_fill 4 = .ok (.istore_n 3, 1) := by decide +kernel
theorem dJ7_fill_5 : decode cJ7_fill 5 = .ok (.iload_n 2, 1) := by decide +kernel
theorem dJ7_fill_6 : decode cJ7_fill 6 = .ok (.iload_n 3, 1) := by decide +kernel
theorem dJ7_fill_7 : decode cJ7_fill 7 = .ok (.if_icmp .ge 13, 3) := by decide +kernel
theorem dJ7_fill_10 : decode cJ7_fill 10 = .ok (.aload_n 0, 1) := by decide +kernel
theorem dJ7_fill_11 : decode cJ7_fill 11 = .ok (.iload_n 2, 1) := by decide +kernel
theorem dJ7_fill_12 : decode cJ7_fill 12 = .ok (.iload_n 1, 1) := by decide +kernel
theorem dJ7_fill_13 : decode cJ7_fill 13 = .ok (.iastore, 1) := by decide +kernel
theorem dJ7_fill_14 : decode cJ7_fill 14 = .ok (.iinc 2 1, 3) := by decide +kernel
theorem dJ7_fill_17 : decode cJ7_fill 17 = .ok (.goto (-12), 3) := by decide +kernel
theorem dJ7_fill_20 : decode cJ7_fill 20 = .ok (.return_, 1) := by decide +kernel
end
section
theorem dX8_init_0 : decode cX8_init 0 = .ok (.aload_n 0, 1) := by decide +kernel
theorem dX8_init_1 : decode cX8_init 1 = .ok (.invokespecial 1, 3) := by decide +kernel
theorem dX8_init_4 : decode cX8_init 4 = .ok (.aload_n 0, 1) := by decide +kernel
theorem dX8_init_5 : decode cX8_init 5 = .ok (.iconst 1, 1) := by decide +kernel
theorem dX8_init_6 : decode cX8_init 6 = .ok (.putfield 7, 3) := by decide +kernel
theorem dX8_init_9 : decode cX8_init 9 = .ok (.aload_n 0, 1) := by decide +kernel
theorem dX8_init_10 : decode cX8_init 10 = .ok (.bipush 64, 2) := by decide +kernel
theorem dX8_init_12 : decode cX8_init 12 = .ok (.newarray .int, 2) := by decide +kernel
theorem dX8_init_14 : decode cX8_init 14 = .ok (.putfield 13, 3) := by decide +kernel
theorem dX8_init_17 : decode cX8_init 17 = .ok (.aload_n 0, 1) := by decide +kernel
theorem dX8_init_18 : decode cX8_init 18 = .ok (.bipush 64, 2) := by decide +kernel
theorem dX8_init_20 : decode cX8_init 20 = .ok (.newarray .int, 2) := by decide +kernel
theorem dX8_init_22 : decode cX8_init 22 = .ok (.putfield 17, 3) := by decide +kernel
theorem dX8_init_25 : decode cX8_init 25 = .ok (.aload_n 0, 1) := by decide +kernel
theorem dX8_init_26 : decode cX8_init 26 = .ok (.bipush 64, 2) := by decide +kernel
theorem dX8_init_28 : decode cX8_init 28 = .ok (.newarray .int, 2) := by decide +kernel
theorem dX8_init_30 : decode cX8_init 30 = .ok (.putfield 20, 3) := by decide +kernel
theorem dX8_init_33 : decode cX8_init 33 = .ok (.aload_n 0, 1) := by decide +kernel
theorem dX8_init_34 : decode cX8_init 34 = .ok (.bipush 64, 2) := by decide +kernel
theorem dX8_init_36 : decode cX8_init 36 = .ok (.newarray .int, 2) := by decide +kernel
theorem dX8_init_38 : decode cX8_init 38 = .ok (.putfield 23, 3) := by decide +kernel
theorem dX8_init_41 : decode cX8_init 41 = .ok (.aload_n 0, 1) := by decide +kernel
theorem dX8_init_42 : decode cX8_init 42 = .ok (.bipush 64, 2) := by decide +kernel
theorem dX8_init_44 : decode cX8_init 44 = .ok (.newarray .int, 2) := by decide +kernel
theorem dX8_init_46 : decode cX8_init 46 = .ok (.putfield 26, 3) := by decide +kernel
theorem dX8_init_49 : decode cX8_init 49 = .ok (.aload_n 0, 1) := by decide +kernel
theorem dX8_init_50 : decode cX8_init 50 = .ok (.bipush 8, 2) := by decide +kernel
theorem dX8_init_52 : decode cX8_init 52 = .ok (.newarray .int, 2) := by decide +kernel
theorem dX8_init_54 : decode cX8_init 54 = .ok (.putfield 29, 3) := by decide +kernel
theorem dX8_init_57 : decode cX8_init 57 = .ok (.aload_n 0, 1) := by decide +kernel
theorem dX8_init_58 : decode cX8_init 58 = .ok (.bipush 8, 2) := by decide +kernel
theorem dX8_init_60 : decode cX8_init 60 = .ok (.newarray .boolean, 2) := by decide +kernel
theorem dX8_init_62 : decode cX8_init 62 = .ok (.putfield 32, 3) := by decide +kernel
theorem dX8_init_65 : decode cX8_init 65 = .ok (.aload_n 0, 1) := by decide +kernel
theorem dX8_init_66 : decode cX8_init 66 = .ok (.bipush 8, 2) := by decide +kernel
theorem dX8_init_68 : decode cX8_init 68 = .ok (.newarray .boolean, 2) := by decide +kernel
theorem dX8_init_70 : decode cX8_init 70 = .ok (.putfield 36, 3) := by decide +kernel
theorem dX8_init_73 : decode cX8_init 73 = .ok (.aload_n 0, 1) := by decide +kernel
theorem dX8_init_74 : decode cX8_init 74 = .ok (.bipush 8, 2) := by decide +kernel
theorem dX8_init_76 : decode cX8_init 76 = .ok (.newarray .int, 2) := by decide +kernel
theorem dX8_init_78 : decode cX8_init 78 = .ok (.putfield 39, 3) := by decide +kernel
theorem dX8_init_81 : decode cX8_init 81 = .ok (.aload_n 0, 1) := by decide +kernel
theorem dX8_init_82 : decode cX8_init 82 = .ok (.bipush 8, 2) := by decide +kernel
theorem dX8_init_84 : decode cX8_init 84 = .ok (.newarray .int, 2) := by decide +kernel
theorem dX8_init_86 : decode cX8_init 86 = .ok (.putfield 42, 3) := by decide +kernel
theorem dX8_init_89 : decode cX8_init 89 = .ok (.aload_n 0, 1) := by decide +kernel
theorem dX8_init_90 : decode cX8_init 90 = .ok (.bipush 8, 2) := by decide +kernel
theorem dX8_init_92 : decode cX8_init 92 = .ok (.newarray .int, 2) := by decide +kernel
theorem dX8_init_94 : decode cX8_init 94 = .ok (.putfield 45, 3) := by decide +kernel
theorem dX8_init_97 : decode cX8_init 97 = .ok (.aload_n 0, 1) := by decide +kernel
theorem dX8_init_98 : decode cX8_init 98 = .ok (.bipush 8, 2) := by decide +kernel
theorem dX8_init_100 : decode cX8_init 100 = .ok (.newarray .int, 2) := by decide +kernel
theorem dX8_init_102 : decode cX8_init 102 = .ok (.putfield 48, 3) := by decide +kernel
theorem dX8_init_105 : decode cX8_init 105 = .ok (.aload_n 0, 1) := by decide +kernel
theorem dX8_init_106 : decode cX8_init 106 = .ok (.bipush 8, 2) := by decide +kernel
theorem dX8_init_108 : decode cX8_init 108 = .ok (.newarray .int, 2) := by decide +kernel
theorem dX8_init_110 : decode cX8_init 110 = .ok (.putfield 51, 3) := by decide +kernel
theorem dX8_init_113 : decode cX8_init 113 = .ok (.aload_n 0, 1) := by decide +kernel
theorem dX8_init_114 : decode cX8_init 114 = .ok (.bipush 64, 2) := by decide +kernel
theorem dX8_init_116 : decode cX8_init 116 = .ok (.newarray .int, 2) := by decide +kernel
theorem dX8_init_118 : decode cX8_init 118 = .ok (.putfield 54, 3) := by decide +kernel
theorem dX8_init_121 : decode cX8_init 121 = .ok (.aload_n 0, 1) := by decide +kernel
theorem dX8_init_122 : decode cX8_init 122 = .ok (.bipush 8, 2) := by decide +kernel
theorem dX8_init_124 : decode cX8_init 124 = .ok (.newarray .int, 2) := by decide +kernel
theorem dX8_init_126 : decode cX8_init 126 = .ok (.putfield 57, 3) := by decide +kernel
theorem dX8_init_129 : decode cX8_init 129 = .ok (.aload_n 0, 1) := by decide +kernel
theorem dX8_init_130 : decode cX8_init 130 = .ok (.bipush 64, 2) := by decide +kernel
theorem dX8_init_132 : decode cX8_init 132 = .ok (.newarray .int, 2) := by decide +kernel
theorem dX8_init_134 : decode cX8_init 134 = .ok (.putfield 60, 3) := by decide +kernel
theorem dX8_init_137 : decode cX8_init 137 = .ok (.aload_n 0, 1) := by decide +kernel
theorem dX8_init_138 : decode cX8_init 138 = .ok (.iconst 5, 1) := by decide +kernel
theorem dX8_init_139 : decode cX8_init 139 = .ok (.newarray .int, 2) := by decide +kernel
theorem dX8_init_141 : decode cX8_init 141 = .ok (.putfield 63, 3) := by decide +kernel
theorem dX8_init_144 : decode cX8_init 144 = .ok (.aload_n 0, 1) := by decide +kernel
theorem dX8_init_145 : decode cX8_init 145 = .ok (.sipush 400, 3) := by decide +kernel
theorem dX8_init_148 : decode cX8_init 148 = .ok (.newarray .int, 2) := by decide +kernel
theorem dX8_init_150 : decode cX8_init 150 = .ok (.putfield 66, 3) := by decide +kernel
theorem dX8_init_153 : decode cX8_init 153 = .ok (.aload_n 0, 1) := by decide +kernel
theorem dX8_init_154 : decode cX8_init 154 = .ok (.sipush 400, 3) := by decide +kernel
theorem dX8_init_157 : decode cX8_init 157 = .ok (.newarray .int, 2) := by decide +kernel
theorem dX8_init_159 : decode cX8_init 159 = .ok (.putfield 69, 3) := by decide +kernel
theorem dX8_init_162 : decode cX8_init 162 = .ok (.aload_n 0, 1) := by decide +kernel
theorem dX8_init_163 : decode cX8_init 163 = .ok (.sipush 400, 3) := by decide +kernel
theorem dX8_init_166 : decode cX8_init 166 = .ok (.newarray .int, 2) := by decide +kernel
theorem dX8_init_168 : decode cX8_init 168 = .ok (.putfield 72, 3) := by decide +kernel
theorem dX8_init_171 : decode cX8_init 171 = .ok (.aload_n 0, 1) := by decide +kernel
theorem dX8_init_172 : decode cX8_init 172 = .ok (.iconst 3, 1) := by decide +kernel
theorem dX8_init_173 : decode cX8_init 173 = .ok (.iload_n 1, 1) := by decide +kernel
theorem dX8_init_174 : decode cX8_init 174 = .ok (.bipush 6, 2) := by decide +kernel
theorem dX8_init_176 : decode cX8_init 176 = .ok (.invokestatic 75, 3) := by decide +kernel
theorem dX8_init_179 : decode cX8_init 179 = .ok (.iadd, 1) := by decide +kernel
theorem dX8_init_180 : decode cX8_init 180 = .ok (.putfield 79, 3) := by decide +kernel
theorem dX8_init_183 : decode cX8_init 183 = .ok (.aload_n 0, 1) := by decide +kernel
theorem dX8_init_184 : decode cX8_init 184 = .ok (.iconst 1, 1) := by decide +kernel
theorem dX8_init_185 : decode cX8_init 185 = .ok (.iload_n 2, 1) := by decide +kernel
theorem dX8_init_186 : decode cX8_init 186 = .ok (.aload_n 0, 1) := by decide +kernel
theorem dX8_init_187 : decode cX8_init 187 = .ok (.getfield 79, 3) := by decide +kernel
theorem dX8_init_190 : decode cX8_init 190 = .ok (.iconst 2, 1) := by decide +kernel
theorem dX8_init_191 : decode cX8_init 191 = .ok (.isub, 1) := by decide +kernel
theorem dX8_init_192 : decode cX8_init 192 = .ok (.invokestatic 75, 3) := by decide +kernel
theorem dX8_init_195 : decode cX8_init 195 = .ok (.iadd, 1) := by decide +kernel
theorem dX8_init_196 : decode cX8_init 196 = .ok (.putfield 83, 3) := by decide +kernel
theorem dX8_init_199 : decode cX8_init 199 = .ok (.aload_n 0, 1) := by decide +kernel
theorem dX8_init_200 : decode cX8_init 200 = .ok (.aload_n 0, 1) := by decide +kernel
theorem dX8_init_201 : decode cX8_init 201 = .ok (.getfield 83, 3) := by decide +kernel
theorem dX8_init_204 : decode cX8_init 204 = .ok (.iload_n 3, 1) := by decide +kernel
theorem dX8_init_205 : decode cX8_init 205 = .ok (.aload_n 0, 1) := by decide +kernel
theorem dX8_init_206 : decode cX8_init 206 = .ok (.getfield 79, 3) := by decide +kernel
theorem dX8_init_209 : decode cX8_init 209 = .ok (.aload_n 0, 1) := by decide +kernel
theorem dX8_init_210 : decode cX8_init 210 = .ok (.getfield 83, 3) := by decide +kernel
theorem dX8_init_213 : decode cX8_init 213 = .ok (.isub, 1) := by decide +kernel
theorem dX8_init_214 : decode cX8_init 214 = .ok (.invokestatic 75, 3) := by decide +kernel
theorem dX8_init_217 : decode cX8_init 217 = .ok (.iadd, 1) := by decide +kernel
theorem dX8_init_218 : decode cX8_init 218 = .ok (.putfield 86, 3) := by decide +kernel
theorem dX8_init_221 : decode cX8_init 221 = .ok (.aload_n 0, 1) := by decide +kernel
theorem dX8_init_222 : decode cX8_init 222 = .ok (.aload_n 0, 1) := by decide +kernel
theorem dX8_init_223 : decode cX8_init 223 = .ok (.getfield 83, 3) := by decide +kernel
theorem dX8_init_226 : decode cX8_init 226 = .ok (.iload 4, 2) := by decide +kernel
theorem dX8_init_228 : decode cX8_init 228 = .ok (.aload_n 0, 1) := by decide +kernel
theorem dX8_init_229 : decode cX8_init 229 = .ok (.getfield 79, 3) := by decide +kernel
theorem dX8_init_232 : decode cX8_init 232 = .ok (.aload_n 0, 1) := by decide +kernel
theorem dX8_init_233 : decode cX8_init 233 = .ok (.getfield 83, 3) := by decide +kernel
theorem dX8_init_236 : decode cX8_init 236 = .ok (.isub, 1) := by decide +kernel
theorem dX8_init_237 : decode cX8_init 237 = .ok (.invokestatic 75, 3) := by decide +kernel
theorem dX8_init_240 : decode cX8_init 240 = .ok (.iadd, 1) := by decide +kernel
theorem dX8_init_241 : decode cX8_init 241 = .ok (.putfield 89, 3) := by decide +kernel
theorem dX8_init_244 : decode cX8_init 244 = .ok (.aload_n 0, 1) := by decide +kernel
theorem dX8_init_245 : decode cX8_init 245 = .ok (.aload_n 0, 1) := by decide +kernel
theorem dX8_init_246 : decode cX8_init 246 = .ok (.getfield 83, 3) := by decide +kernel
theorem dX8_init_249 : decode cX8_init 249 = .ok (.iload 5, 2) := by decide +kernel
theorem dX8_init_251 : decode cX8_init 251 = .ok (.aload_n 0, 1) := by decide +kernel
theorem dX8_init_252 : decode cX8_init 252 = .ok (.getfield 79, 3) := by decide +kernel
theorem dX8_init_255 : decode cX8_init 255 = .ok (.aload_n 0, 1) := by decide +kernel
theorem dX8_init_256 : decode cX8_init 256 = .ok (.getfield 83, 3) := by decide +kernel
theorem dX8_init_259 : decode cX8_init 259 = .ok (.isub, 1) := by decide +kernel
theorem dX8_init_260 : decode cX8_init 260 = .ok (.invokestatic 75, 3) := by decide +kernel
theorem dX8_init_263 : decode cX8_init 263 = .ok (.iadd, 1) := by decide +kernel
theorem dX8_init_264 : decode cX8_init 264 = .ok (.putfield 92, 3) := by decide +kernel
theorem dX8_init_267 : decode cX8_init 267 = .ok (.aload_n 0, 1) := by decide +kernel
theorem dX8_init_268 : decode cX8_init 268 = .ok (.iconst 1, 1) := by decide +kernel
theorem dX8_init_269 : decode cX8_init 269 = .ok (.iload 6, 2) := by decide +kernel
theorem dX8_init_271 : decode cX8_init 271 = .ok (.bipush 8, 2) := by decide +kernel
theorem dX8_init_273 : decode cX8_init 273 = .ok (.invokestatic 75, 3) := by decide +kernel
theorem dX8_init_276 : decode cX8_init 276 = .ok (.iadd, 1) := by decide +kernel
theorem dX8_init_277 : decode cX8_init 277 = .ok (.putfield 95, 3) := by decide +kernel
theorem dX8_init_280 : decode cX8_init 280 = .ok (.aload_n 0, 1) := by decide +kernel
theorem dX8_init_281 : decode cX8_init 281 = .ok (.invokevirtual 98, 3) := by decide +kernel
theorem dX8_init_284 : decode cX8_init 284 = .ok (.return_, 1) := by decide +kernel
theorem dX8_modulo_0 : decode cX8_modulo 0 = .ok (.iload_n 0, 1) := by decide +kernel
theorem dX8_modulo_1 : decode cX8_modulo 1 = .ok (.iload_n 1, 1) := by decide +kernel
theorem dX8_modulo_2 : decode cX8_modulo 2 = .ok (.irem, 1) := by decide +kernel
theorem dX8_modulo_3 : decode cX8_modulo 3 = .ok (.iload_n 1, 1) := by decide +kernel
theorem dX8_modulo_4 : decode cX8_modulo 4 = .ok (.iadd, 1) := by decide +kernel
theorem dX8_modulo_5 : decode cX8_modulo 5 = .ok (.iload_n 1, 1) := by decide +kernel
theorem dX8_modulo_6 : decode cX8_modulo 6 = .ok (.irem, 1) := by decide +kernel
theorem dX8_modulo_7 : decode cX8_modulo 7 = .ok (.ireturn, 1) := by decide +kernel
theorem dX8_thrown_0 : decode cX8_thrown 0 = .ok (.aload_n 0, 1) := by decide +kernel
theorem dX8_thrown_1 : decode cX8_thrown 1 = .ok (.getfield 101, 3) := by decide +kernel
theorem dX8_thrown_4 : decode cX8_thrown 4 = .ok (.ireturn, 1) := by decide +kernel
theorem dX8_fail_0 : decode cX8_fail 0 = .ok (.aload_n 0, 1) := by decide +kernel
theorem dX8_fail_1 : decode cX8_fail 1 = .ok (.iload_n 1, 1) := by decide +kernel
theorem dX8_fail_2 : decode cX8_fail 2 = .ok (.putfield 101, 3) := by decide +kernel
theorem dX8_fail_5 : decode cX8_fail 5 = .ok (.iconst 0, 1) := by decide +kernel
theorem dX8_fail_6 : decode cX8_fail 6 = .ok (.ireturn, 1) := by decide +kernel
theorem dX8_within_0 : decode cX8_within 0 = .ok (.iload_n 0, 1) := by decide +kernel
theorem dX8_within_1 : decode cX8_within 1 = .ok (.iload_n 1, 1) := by decide +kernel
theorem dX8_within_2 : decode cX8_within 2 = .ok (.if_icmp .lt 12, 3) := by decide +kernel
theorem dX8_within_5 : decode cX8_within 5 = .ok (.iload_n 0, 1) := by decide +kernel
theorem dX8_within_6 : decode cX8_within 6 = .ok (.iload_n 2, 1) := by decide +kernel
theorem dX8_within_7 : decode cX8_within 7 = .ok (.if_icmp .gt 7, 3) := by decide +kernel
theorem dX8_within_10 : decode cX8_within 10 = .ok (.iconst 1, 1) := by decide +kernel
theorem dX8_within_11 : decode cX8_within 11 = .ok (.goto 4, 3) := by decide +kernel
theorem dX8_within_14 : decode cX8_within 14 = .ok (.iconst 0, 1) := by decide +kernel
theorem dX8_within_15 : decode cX8_within 15 = .ok (.ireturn, 1) := by decide +kernel
theorem dX8_begin_0 : decode cX8_begin 0 = .ok (.aload_n 0, 1) := by decide +kernel
theorem dX8_begin_1 : decode cX8_begin 1 = .ok (.iconst 0, 1) := by decide +kernel
theorem dX8_begin_2 : decode cX8_begin 2 = .ok (.putfield 104, 3) := by decide +kernel
theorem dX8_begin_5 : decode cX8_begin 5 = .ok (.aload_n 0, 1) := by decide +kernel
theorem dX8_begin_6 : decode cX8_begin 6 = .ok (.iconst 0, 1) := by decide +kernel
theorem dX8_begin_7 : decode cX8_begin 7 = .ok (.putfield 107, 3) := by decide +kernel
theorem dX8_begin_10 : decode cX8_begin 10 = .ok (.aload_n 0, 1) := by decide +kernel
theorem dX8_begin_11 : decode cX8_begin 11 = .ok (.iconst 0, 1) := by decide +kernel
theorem dX8_begin_12 : decode cX8_begin 12 = .ok (.putfield 110, 3) := by decide +kernel
theorem dX8_begin_15 : decode cX8_begin 15 = .ok (.aload_n 0, 1) := by decide +kernel
theorem dX8_begin_16 : decode cX8_begin 16 = .ok (.iconst 0, 1) := by decide +kernel
theorem dX8_begin_17 : decode cX8_begin 17 = .ok (.putfield 113, 3) := by decide +kernel
theorem dX8_begin_20 : decode cX8_begin 20 = .ok (.aload_n 0, 1) := by decide +kernel
theorem dX8_begin_21 : decode cX8_begin 21 = .ok (.iconst 0, 1) := by decide +kernel
theorem dX8_begin_22 : decode cX8_begin 22 = .ok (.putfield 116, 3) := by decide +kernel
theorem dX8_begin_25 : decode cX8_begin 25 = .ok (.aload_n 0, 1) := by decide +kernel
theorem dX8_begin_26 : decode cX8_begin 26 = .ok (.iconst 0, 1) := by decide +kernel
theorem dX8_begin_27 : decode cX8_begin 27 = .ok (.putfield 119, 3) := by decide +kernel
theorem dX8_begin_30 : decode cX8_begin 30 = .ok (.aload_n 0, 1) := by decide +kernel
theorem dX8_begin_31 : decode cX8_begin 31 = .ok (.iconst 0, 1) := by decide +kernel
theorem dX8_begin_32 : decode cX8_begin 32 = .ok (.putfield 122, 3) := by decide +kernel
theorem dX8_begin_35 : decode cX8_begin 35 = .ok (.aload_n 0, 1) := by decide +kernel
theorem dX8_begin_36 : decode cX8_begin 36 = .ok (.iconst 0, 1) := by decide +kernel
theorem dX8_begin_37 : decode cX8_begin 37 = .ok (.putfield 125, 3) := by decide +kernel
theorem dX8_begin_40 : decode cX8_begin 40 = .ok (.aload_n 0, 1) := by decide +kernel
theorem dX8_begin_41 : decode cX8_begin 41 = .ok (.iconst 0, 1) := by decide +kernel
theorem dX8_begin_42 : decode cX8_begin 42 = .ok (.putfield 128, 3) := by decide +kernel
theorem dX8_begin_45 : decode cX8_begin 45 = .ok (.aload_n 0, 1) := by decide +kernel
theorem dX8_begin_46 : decode cX8_begin 46 = .ok (.iconst 0, 1) := by decide +kernel
theorem dX8_begin_47 : decode cX8_begin 47 = .ok (.putfield 131, 3) := by decide +kernel
theorem dX8_begin_50 : decode cX8_begin 50 = .ok (.aload_n 0, 1) := by decide +kernel
theorem dX8_begin_51 : decode cX8_begin 51 = .ok (.iconst 0, 1) := by decide +kernel
theorem dX8_begin_52 : decode cX8_begin 52 = .ok (.putfield 134, 3) := by decide +kernel
theorem dX8_begin_55 : decode cX8_begin 55 = .ok (.iconst 0, 1) := by decide +kernel
theorem dX8_begin_56 : decode cX8_begin 56 = .ok (.istore_n 1, 1) := by decide +kernel
theorem dX8_begin_57 : decode cX8_begin 57 = .ok (.iload_n 1, 1) := by decide +kernel
theorem dX8_begin_58 : decode cX8_begin 58 = .ok (.bipush 8, 2) := by decide +kernel
theorem dX8_begin_60 : decode cX8_begin 60 = .ok (.if_icmp .ge 30, 3) := by decide +kernel
theorem dX8_begin_63 : decode cX8_begin 63 = .ok (.aload_n 0, 1) := by decide +kernel
theorem dX8_begin_64 : decode cX8_begin 64 = .ok (.getfield 29, 3) := by decide +kernel
theorem dX8_begin_67 : decode cX8_begin 67 = .ok (.iload_n 1, 1) := by decide +kernel
theorem dX8_begin_68 : decode cX8_begin 68 = .ok (.iconst (-1), 1) := by decide +kernel
theorem dX8_begin_69 : decode cX8_begin 69 = .ok (.iastore, 1) := by decide +kernel
theorem dX8_begin_70 : decode cX8_begin 70 = .ok (.aload_n 0, 1) := by decide +kernel
theorem dX8_begin_71 : decode cX8_begin 71 = .ok (.getfield 51, 3) := by decide +kernel
theorem dX8_begin_74 : decode cX8_begin 74 = .ok (.iload_n 1, 1) := by decide +kernel
theorem dX8_begin_75 : decode cX8_begin 75 = .ok (.iconst 0, 1) := by decide +kernel
theorem dX8_begin_76 : decode cX8_begin 76 = .ok (.iastore, 1) := by decide +kernel
theorem dX8_begin_77 : decode cX8_begin 77 = .ok (.aload_n 0, 1) := by decide +kernel
theorem dX8_begin_78 : decode cX8_begin 78 = .ok (.getfield 57, 3) := by decide +kernel
theorem dX8_begin_81 : decode cX8_begin 81 = .ok (.iload_n 1, 1) := by decide +kernel
theorem dX8_begin_82 : decode cX8_begin 82 = .ok (.iconst 0, 1) := by decide +kernel
theorem dX8_begin_83 : decode cX8_begin 83 = .ok (.iastore, 1) := by decide +kernel
theorem dX8_begin_84 : decode cX8_begin 84 = .ok (.iinc 1 1, 3) := by decide +kernel
theorem dX8_begin_87 : decode cX8_begin 87 = .ok (.goto (-30), 3) := by decide +kernel
theorem dX8_begin_90 : decode cX8_begin 90 = .ok (.iconst 0, 1) := by decide +kernel
theorem dX8_begin_91 : decode cX8_begin 91 = .ok (.istore_n 1, 1) := by decide +kernel
theorem dX8_begin_92 : decode cX8_begin 92 = .ok (.iload_n 1, 1) := by decide +kernel
theorem dX8_begin_93 : decode cX8_begin 93 = .ok (.bipush 64, 2) := by decide +kernel
theorem dX8_begin_95 : decode cX8_begin 95 = .ok (.if_icmp .ge 23, 3) := by decide +kernel
theorem dX8_begin_98 : decode cX8_begin 98 = .ok (.aload_n 0, 1) := by decide +kernel
theorem dX8_begin_99 : decode cX8_begin 99 = .ok (.getfield 54, 3) := by decide +kernel
theorem dX8_begin_102 : decode cX8_begin 102 = .ok (.iload_n 1, 1) := by decide +kernel
theorem dX8_begin_103 : decode cX8_begin 103 = .ok (.iconst 0, 1) := by decide +kernel
theorem dX8_begin_104 : decode cX8_begin 104 = .ok (.iastore, 1) := by decide +kernel
theorem dX8_begin_105 : decode cX8_begin 105 = .ok (.aload_n 0, 1) := by decide +kernel
theorem dX8_begin_106 : decode cX8_begin 106 = .ok (.getfield 60, 3) := by decide +kernel
theorem dX8_begin_109 : decode cX8_begin 109 = .ok (.iload_n 1, 1) := by decide +kernel
theorem dX8_begin_110 : decode cX8_begin 110 = .ok (.iconst 0, 1) := by decide +kernel
theorem dX8_begin_111 : decode cX8_begin 111 = .ok (.iastore, 1) := by decide +kernel
theorem dX8_begin_112 : decode cX8_begin 112 = .ok (.iinc 1 1, 3) := by decide +kernel
theorem dX8_begin_115 : decode cX8_begin 115 = .ok (.goto (-23), 3) := by decide +kernel
theorem dX8_begin_118 : decode cX8_begin 118 = .ok (.iconst 0, 1) := by decide +kernel
theorem dX8_begin_119 : decode cX8_begin 119 = .ok (.istore_n 1, 1) := by decide +kernel
theorem dX8_begin_120 : decode cX8_begin 120 = .ok (.iload_n 1, 1) := by decide +kernel
theorem dX8_begin_121 : decode cX8_begin 121 = .ok (.iconst 5, 1) := by decide +kernel
theorem dX8_begin_122 : decode cX8_begin 122 = .ok (.if_icmp .ge 16, 3) := by decide +kernel
theorem dX8_begin_125 : decode cX8_begin 125 = .ok (.aload_n 0, 1) := by decide +kernel
theorem dX8_begin_126 : decode cX8_begin 126 = .ok (.getfield 63, 3) := by decide +kernel
theorem dX8_begin_129 : decode cX8_begin 129 = .ok (.iload_n 1, 1) := by decide +kernel
theorem dX8_begin_130 : decode cX8_begin 130 = .ok (.iconst 0, 1) := by decide +kernel
theorem dX8_begin_131 : decode cX8_begin 131 = .ok (.iastore, 1) := by decide +kernel
theorem dX8_begin_132 : decode cX8_begin 132 = .ok (.iinc 1 1, 3) := by decide +kernel
theorem dX8_begin_135 : decode cX8_begin 135 = .ok (.goto (-15), 3) := by decide +kernel
theorem dX8_begin_138 : decode cX8_begin 138 = .ok (.return_, 1) := by decide +kernel
theorem dX8_isRegister_0 : decode cX8_isRegister 0 = .ok (.iload_n 0, 1) := by decide +kernel
theorem dX8_isRegister_1 : decode cX8_isRegister 1 = .ok (.iconst 0, 1) := by decide +kernel
theorem dX8_isRegister_2 : decode cX8_isRegister 2 = .ok (.bipush 7, 2) := by decide +kernel
theorem dX8_isRegister_4 : decode cX8_isRegister 4 = .ok (.invokestatic 137, 3) := by decide +kernel
theorem dX8_isRegister_7 : decode cX8_isRegister 7 = .ok (.ireturn, 1) := by decide +kernel
theorem dX8_word_0 : decode cX8_word 0 = .ok (.aload_n 0, 1) := by decide +kernel
theorem dX8_word_1 : decode cX8_word 1 = .ok (.iconst 0, 1) := by decide +kernel
theorem dX8_word_2 : decode cX8_word 2 = .ok (.putfield 101, 3) := by decide +kernel
theorem dX8_word_5 : decode cX8_word 5 = .ok (.iload_n 1, 1) := by decide +kernel
theorem dX8_word_6 : decode cX8_word 6 = .ok (.iconst 0, 1) := by decide +kernel
theorem dX8_word_7 : decode cX8_word 7 = .ok (.bipush 7, 2) := by decide +kernel
theorem dX8_word_9 : decode cX8_word 9 = .ok (.invokestatic 137, 3) := by decide +kernel
theorem dX8_word_12 : decode cX8_word 12 = .ok (.ifCond .eq 25, 3) := by decide +kernel
theorem dX8_word_15 : decode cX8_word 15 = .ok (.iload_n 2, 1) := by decide +kernel
theorem dX8_word_16 : decode cX8_word 16 = .ok (.invokestatic 141, 3) := by decide +kernel
theorem dX8_word_19 : decode cX8_word 19 = .ok (.ifCond .eq 18, 3) := by decide +kernel
theorem dX8_word_22 : decode cX8_word 22 = .ok (.iload_n 3, 1) := by decide +kernel
theorem dX8_word_23 : decode cX8_word 23 = .ok (.invokestatic 141, 3) := by decide +kernel
theorem dX8_word_26 : decode cX8_word 26 = .ok (.ifCond .eq 11, 3) := by decide +kernel
theorem dX8_word_29 : decode cX8_word 29 = .ok (.iload 4, 2) := by decide +kernel
theorem dX8_word_31 : decode cX8_word 31 = .ok (.invokestatic 141, 3) := by decide +kernel
theorem dX8_word_34 : decode cX8_word 34 = .ok (.ifCond .ne 9, 3) := by decide +kernel
theorem dX8_word_37 : decode cX8_word 37 = .ok (.aload_n 0, 1) := by decide +kernel
theorem dX8_word_38 : decode cX8_word 38 = .ok (.iconst 1, 1) := by decide +kernel
theorem dX8_word_39 : decode cX8_word 39 = .ok (.invokevirtual 145, 3) := by decide +kernel
theorem dX8_word_42 : decode cX8_word 42 = .ok (.ireturn, 1) := by decide +kernel
theorem dX8_word_43 : decode cX8_word 43 = .ok (.aload_n 0, 1) := by decide +kernel
theorem dX8_word_44 : decode cX8_word 44 = .ok (.getfield 119, 3) := by decide +kernel
theorem dX8_word_47 : decode cX8_word 47 = .ok (.ifCond .le 9, 3) := by decide +kernel
theorem dX8_word_50 : decode cX8_word 50 = .ok (.aload_n 0, 1) := by decide +kernel
theorem dX8_word_51 : decode cX8_word 51 = .ok (.iconst 2, 1) := by decide +kernel
theorem dX8_word_52 : decode cX8_word 52 = .ok (.invokevirtual 145, 3) := by decide +kernel
theorem dX8_word_55 : decode cX8_word 55 = .ok (.ireturn, 1) := by decide +kernel
theorem dX8_word_56 : decode cX8_word 56 = .ok (.aload_n 0, 1) := by decide +kernel
theorem dX8_word_57 : decode cX8_word 57 = .ok (.getfield 104, 3) := by decide +kernel
theorem dX8_word_60 : decode cX8_word 60 = .ok (.bipush 64, 2) := by decide +kernel
theorem dX8_word_62 : decode cX8_word 62 = .ok (.if_icmp .ne 9, 3) := by decide +kernel
theorem dX8_word_65 : decode cX8_word 65 = .ok (.aload_n 0, 1) := by decide +kernel
theorem dX8_word_66 : decode cX8_word 66 = .ok (.iconst 3, 1) := by decide +kernel
theorem dX8_word_67 : decode cX8_word 67 = .ok (.invokevirtual 145, 3) := by decide +kernel
theorem dX8_word_70 : decode cX8_word 70 = .ok (.ireturn, 1) := by decide +kernel
theorem dX8_word_71 : decode cX8_word 71 = .ok (.aload_n 0, 1) := by decide +kernel
theorem dX8_word_72 : decode cX8_word 72 = .ok (.getfield 13, 3) := by decide +kernel
theorem dX8_word_75 : decode cX8_word 75 = .ok (.aload_n 0, 1) := by decide +kernel
theorem dX8_word_76 : decode cX8_word 76 = .ok (.getfield 104, 3) := by decide +kernel
theorem dX8_word_79 : decode cX8_word 79 = .ok (.iload_n 1, 1) := by decide +kernel
theorem dX8_word_80 : decode cX8_word 80 = .ok (.iastore, 1) := by decide +kernel
theorem dX8_word_81 : decode cX8_word 81 = .ok (.aload_n 0, 1) := by decide +kernel
theorem dX8_word_82 : decode cX8_word 82 = .ok (.getfield 17, 3) := by decide +kernel
theorem dX8_word_85 : decode cX8_word 85 = .ok (.aload_n 0, 1) := by decide +kernel
theorem dX8_word_86 : decode cX8_word 86 = .ok (.getfield 104, 3) := by decide +kernel
theorem dX8_word_89 : decode cX8_word 89 = .ok (.iload_n 2, 1) := by decide +kernel
theorem dX8_word_90 : decode cX8_word 90 = .ok (.iastore, 1) := by decide +kernel
theorem dX8_word_91 : decode cX8_word 91 = .ok (.aload_n 0, 1) := by decide +kernel
theorem dX8_word_92 : decode cX8_word 92 = .ok (.getfield 20, 3) := by decide +kernel
theorem dX8_word_95 : decode cX8_word 95 = .ok (.aload_n 0, 1) := by decide +kernel
theorem dX8_word_96 : decode cX8_word 96 = .ok (.getfield 104, 3) := by decide +kernel
theorem dX8_word_99 : decode cX8_word 99 = .ok (.iload_n 3, 1) := by decide +kernel
theorem dX8_word_100 : decode cX8_word 100 = .ok (.iastore, 1) := by decide +kernel
theorem dX8_word_101 : decode cX8_word 101 = .ok (.aload_n 0, 1) := by decide +kernel
theorem dX8_word_102 : decode cX8_word 102 = .ok (.getfield 23, 3) := by decide +kernel
theorem dX8_word_105 : decode cX8_word 105 = .ok (.aload_n 0, 1) := by decide +kernel
theorem dX8_word_106 : decode cX8_word 106 = .ok (.getfield 104, 3) := by decide +kernel
theorem dX8_word_109 : decode cX8_word 109 = .ok (.iload 4, 2) := by decide +kernel
theorem dX8_word_111 : decode cX8_word 111 = .ok (.iastore, 1) := by decide +kernel
theorem dX8_word_112 : decode cX8_word 112 = .ok (.aload_n 0, 1) := by decide +kernel
theorem dX8_word_113 : decode cX8_word 113 = .ok (.getfield 26, 3) := by decide +kernel
theorem dX8_word_116 : decode cX8_word 116 = .ok (.aload_n 0, 1) := by decide +kernel
theorem dX8_word_117 : decode cX8_word 117 = .ok (.getfield 104, 3) := by decide +kernel
theorem dX8_word_120 : decode cX8_word 120 = .ok (.iload 5, 2) := by decide +kernel
theorem dX8_word_122 : decode cX8_word 122 = .ok (.iastore, 1) := by decide +kernel
theorem dX8_word_123 : decode cX8_word 123 = .ok (.aload_n 0, 1) := by decide +kernel
theorem dX8_word_124 : decode cX8_word 124 = .ok (.dup, 1) := by decide +kernel
theorem dX8_word_125 : decode cX8_word 125 = .ok (.getfield 104, 3) := by decide +kernel
theorem dX8_word_128 : decode cX8_word 128 = .ok (.iconst 1, 1) := by decide +kernel
theorem dX8_word_129 : decode cX8_word 129 = .ok (.iadd, 1) := by decide +kernel
theorem dX8_word_130 : decode cX8_word 130 = .ok (.putfield 104, 3) := by decide +kernel
theorem dX8_word_133 : decode cX8_word 133 = .ok (.aload_n 0, 1) := by decide +kernel
theorem dX8_word_134 : decode cX8_word 134 = .ok (.getfield 104, 3) := by decide +kernel
theorem dX8_word_137 : decode cX8_word 137 = .ok (.iconst 1, 1) := by decide +kernel
theorem dX8_word_138 : decode cX8_word 138 = .ok (.isub, 1) := by decide +kernel
theorem dX8_word_139 : decode cX8_word 139 = .ok (.ireturn, 1) := by decide +kernel
theorem dX8_set_0 : decode cX8_set 0 = .ok (.aload_n 0, 1) := by decide +kernel
theorem dX8_set_1 : decode cX8_set 1 = .ok (.iload_n 2, 1) := by decide +kernel
theorem dX8_set_2 : decode cX8_set 2 = .ok (.iconst 0, 1) := by decide +kernel
theorem dX8_set_3 : decode cX8_set 3 = .ok (.bipush 63, 2) := by decide +kernel
theorem dX8_set_5 : decode cX8_set 5 = .ok (.invokestatic 137, 3) := by decide +kernel
theorem dX8_set_8 : decode cX8_set 8 = .ok (.ifCond .ne 7, 3) := by decide +kernel
theorem dX8_set_11 : decode cX8_set 11 = .ok (.iconst 1, 1) := by decide +kernel
theorem dX8_set_12 : decode cX8_set 12 = .ok (.goto 15, 3) := by decide +kernel
theorem dX8_set_15 : decode cX8_set 15 = .ok (.aload_n 0, 1) := by decide +kernel
theorem dX8_set_16 : decode cX8_set 16 = .ok (.getfield 119, 3) := by decide +kernel
theorem dX8_set_19 : decode cX8_set 19 = .ok (.ifCond .le 7, 3) := by decide +kernel
theorem dX8_set_22 : decode cX8_set 22 = .ok (.iconst 2, 1) := by decide +kernel
theorem dX8_set_23 : decode cX8_set 23 = .ok (.goto 4, 3) := by decide +kernel
theorem dX8_set_26 : decode cX8_set 26 = .ok (.iconst 0, 1) := by decide +kernel
theorem dX8_set_27 : decode cX8_set 27 = .ok (.putfield 101, 3) := by decide +kernel
theorem dX8_set_30 : decode cX8_set 30 = .ok (.aload_n 0, 1) := by decide +kernel
theorem dX8_set_31 : decode cX8_set 31 = .ok (.getfield 101, 3) := by decide +kernel
theorem dX8_set_34 : decode cX8_set 34 = .ok (.ifCond .le 5, 3) := by decide +kernel
theorem dX8_set_37 : decode cX8_set 37 = .ok (.iconst 0, 1) := by decide +kernel
theorem dX8_set_38 : decode cX8_set 38 = .ok (.ireturn, 1) := by decide +kernel
theorem dX8_set_39 : decode cX8_set 39 = .ok (.aload_n 0, 1) := by decide +kernel
theorem dX8_set_40 : decode cX8_set 40 = .ok (.getfield 7, 3) := by decide +kernel
theorem dX8_set_43 : decode cX8_set 43 = .ok (.istore_n 3, 1) := by decide +kernel
theorem dX8_set_44 : decode cX8_set 44 = .ok (.aload_n 0, 1) := by decide +kernel
theorem dX8_set_45 : decode cX8_set 45 = .ok (.iload_n 1, 1) := by decide +kernel
theorem dX8_set_46 : decode cX8_set 46 = .ok (.putfield 7, 3) := by decide +kernel
theorem dX8_set_49 : decode cX8_set 49 = .ok (.aload_n 0, 1) := by decide +kernel
theorem dX8_set_50 : decode cX8_set 50 = .ok (.iload_n 2, 1) := by decide +kernel
theorem dX8_set_51 : decode cX8_set 51 = .ok (.putfield 149, 3) := by decide +kernel
theorem dX8_set_54 : decode cX8_set 54 = .ok (.iload_n 3, 1) := by decide +kernel
theorem dX8_set_55 : decode cX8_set 55 = .ok (.ireturn, 1) := by decide +kernel
theorem dX8_clear_0 : decode cX8_clear 0 = .ok (.aload_n 0, 1) := by decide +kernel
theorem dX8_clear_1 : decode cX8_clear 1 = .ok (.iconst 0, 1) := by decide +kernel
theorem dX8_clear_2 : decode cX8_clear 2 = .ok (.putfield 101, 3) := by decide +kernel
theorem dX8_clear_5 : decode cX8_clear 5 = .ok (.aload_n 0, 1) := by decide +kernel
theorem dX8_clear_6 : decode cX8_clear 6 = .ok (.getfield 119, 3) := by decide +kernel
theorem dX8_clear_9 : decode cX8_clear 9 = .ok (.istore_n 1, 1) := by decide +kernel
theorem dX8_clear_10 : decode cX8_clear 10 = .ok (.aload_n 0, 1) := by decide +kernel
theorem dX8_clear_11 : decode cX8_clear 11 = .ok (.invokevirtual 98, 3) := by decide +kernel
theorem dX8_clear_14 : decode cX8_clear 14 = .ok (.iload_n 1, 1) := by decide +kernel
theorem dX8_clear_15 : decode cX8_clear 15 = .ok (.ireturn, 1) := by decide +kernel
theorem dX8_writes_0 : decode cX8_writes 0 = .ok (.aload_n 0, 1) := by decide +kernel
theorem dX8_writes_1 : decode cX8_writes 1 = .ok (.getfield 13, 3) := by decide +kernel
theorem dX8_writes_4 : decode cX8_writes 4 = .ok (.iload_n 1, 1) := by decide +kernel
theorem dX8_writes_5 : decode cX8_writes 5 = .ok (.iaload, 1) := by decide +kernel
theorem dX8_writes_6 : decode cX8_writes 6 = .ok (.ifCond .eq 34, 3) := by decide +kernel
theorem dX8_writes_9 : decode cX8_writes 9 = .ok (.aload_n 0, 1) := by decide +kernel
theorem dX8_writes_10 : decode cX8_writes 10 = .ok (.getfield 13, 3) := by decide +kernel
theorem dX8_writes_13 : decode cX8_writes 13 = .ok (.iload_n 1, 1) := by decide +kernel
theorem dX8_writes_14 : decode cX8_writes 14 = .ok (.iaload, 1) := by decide +kernel
theorem dX8_writes_15 : decode cX8_writes 15 = .ok (.iconst 1, 1) := by decide +kernel
theorem dX8_writes_16 : decode cX8_writes 16 = .ok (.if_icmp .eq 24, 3) := by decide +kernel
theorem dX8_writes_19 : decode cX8_writes 19 = .ok (.aload_n 0, 1) := by decide +kernel
theorem dX8_writes_20 : decode cX8_writes 20 = .ok (.getfield 13, 3) := by decide +kernel
theorem dX8_writes_23 : decode cX8_writes 23 = .ok (.iload_n 1, 1) := by decide +kernel
theorem dX8_writes_24 : decode cX8_writes 24 = .ok (.iaload, 1) := by decide +kernel
theorem dX8_writes_25 : decode cX8_writes 25 = .ok (.iconst 3, 1) := by decide +kernel
theorem dX8_writes_26 : decode cX8_writes 26 = .ok (.if_icmp .eq 14, 3) := by decide +kernel
theorem dX8_writes_29 : decode cX8_writes 29 = .ok (.aload_n 0, 1) := by decide +kernel
theorem dX8_writes_30 : decode cX8_writes 30 = .ok (.getfield 13, 3) := by decide +kernel
theorem dX8_writes_33 : decode cX8_writes 33 = .ok (.iload_n 1, 1) := by decide +kernel
theorem dX8_writes_34 : decode cX8_writes 34 = .ok (.iaload, 1) := by decide +kernel
theorem dX8_writes_35 : decode cX8_writes 35 = .ok (.bipush 7, 2) := by decide +kernel
theorem dX8_writes_37 : decode cX8_writes 37 = .ok (.if_icmp .ne 7, 3) := by decide +kernel
theorem dX8_writes_40 : decode cX8_writes 40 = .ok (.iconst 1, 1) := by decide +kernel
theorem dX8_writes_41 : decode cX8_writes 41 = .ok (.goto 4, 3) := by decide +kernel
theorem dX8_writes_44 : decode cX8_writes 44 = .ok (.iconst 0, 1) := by decide +kernel
theorem dX8_writes_45 : decode cX8_writes 45 = .ok (.ireturn, 1) := by decide +kernel
theorem dX8_readsA_0 : decode cX8_readsA 0 = .ok (.aload_n 0, 1) := by decide +kernel
theorem dX8_readsA_1 : decode cX8_readsA 1 = .ok (.getfield 13, 3) := by decide +kernel
theorem dX8_readsA_4 : decode cX8_readsA 4 = .ok (.iload_n 1, 1) := by decide +kernel
theorem dX8_readsA_5 : decode cX8_readsA 5 = .ok (.iaload, 1) := by decide +kernel
theorem dX8_readsA_6 : decode cX8_readsA 6 = .ok (.iconst 5, 1) := by decide +kernel
theorem dX8_readsA_7 : decode cX8_readsA 7 = .ok (.if_icmp .ge 7, 3) := by decide +kernel
theorem dX8_readsA_10 : decode cX8_readsA 10 = .ok (.iconst 1, 1) := by decide +kernel
theorem dX8_readsA_11 : decode cX8_readsA 11 = .ok (.goto 4, 3) := by decide +kernel
theorem dX8_readsA_14 : decode cX8_readsA 14 = .ok (.iconst 0, 1) := by decide +kernel
theorem dX8_readsA_15 : decode cX8_readsA 15 = .ok (.ireturn, 1) := by decide +kernel
theorem dX8_readsB_0 : decode cX8_readsB 0 = .ok (.aload_n 0, 1) := by decide +kernel
theorem dX8_readsB_1 : decode cX8_readsB 1 = .ok (.getfield 13, 3) := by decide +kernel
theorem dX8_readsB_4 : decode cX8_readsB 4 = .ok (.iload_n 1, 1) := by decide +kernel
theorem dX8_readsB_5 : decode cX8_readsB 5 = .ok (.iaload, 1) := by decide +kernel
theorem dX8_readsB_6 : decode cX8_readsB 6 = .ok (.ifCond .eq 23, 3) := by decide +kernel
theorem dX8_readsB_9 : decode cX8_readsB 9 = .ok (.aload_n 0, 1) := by decide +kernel
theorem dX8_readsB_10 : decode cX8_readsB 10 = .ok (.getfield 13, 3) := by decide +kernel
theorem dX8_readsB_13 : decode cX8_readsB 13 = .ok (.iload_n 1, 1) := by decide +kernel
theorem dX8_readsB_14 : decode cX8_readsB 14 = .ok (.iaload, 1) := by decide +kernel
theorem dX8_readsB_15 : decode cX8_readsB 15 = .ok (.iconst 2, 1) := by decide +kernel
theorem dX8_readsB_16 : decode cX8_readsB 16 = .ok (.if_icmp .eq 13, 3) := by decide +kernel
theorem dX8_readsB_19 : decode cX8_readsB 19 = .ok (.aload_n 0, 1) := by decide +kernel
theorem dX8_readsB_20 : decode cX8_readsB 20 = .ok (.getfield 13, 3) := by decide +kernel
theorem dX8_readsB_23 : decode cX8_readsB 23 = .ok (.iload_n 1, 1) := by decide +kernel
theorem dX8_readsB_24 : decode cX8_readsB 24 = .ok (.iaload, 1) := by decide +kernel
theorem dX8_readsB_25 : decode cX8_readsB 25 = .ok (.iconst 3, 1) := by decide +kernel
theorem dX8_readsB_26 : decode cX8_readsB 26 = .ok (.if_icmp .ne 7, 3) := by decide +kernel
theorem dX8_readsB_29 : decode cX8_readsB 29 = .ok (.iconst 1, 1) := by decide +kernel
theorem dX8_readsB_30 : decode cX8_readsB 30 = .ok (.goto 4, 3) := by decide +kernel
theorem dX8_readsB_33 : decode cX8_readsB 33 = .ok (.iconst 0, 1) := by decide +kernel
theorem dX8_readsB_34 : decode cX8_readsB 34 = .ok (.ireturn, 1) := by decide +kernel
theorem dX8_isThere_0 : decode cX8_isThere 0 = .ok (.aload_n 0, 1) := by decide +kernel
theorem dX8_isThere_1 : decode cX8_isThere 1 = .ok (.getfield 83, 3) := by decide +kernel
theorem dX8_isThere_4 : decode cX8_isThere 4 = .ok (.iconst 1, 1) := by decide +kernel
theorem dX8_isThere_5 : decode cX8_isThere 5 = .ok (.iadd, 1) := by decide +kernel
theorem dX8_isThere_6 : decode cX8_isThere 6 = .ok (.istore_n 2, 1) := by decide +kernel
theorem dX8_isThere_7 : decode cX8_isThere 7 = .ok (.iload_n 2, 1) := by decide +kernel
theorem dX8_isThere_8 : decode cX8_isThere 8 = .ok (.aload_n 0, 1) := by decide +kernel
theorem dX8_isThere_9 : decode cX8_isThere 9 = .ok (.getfield 79, 3) := by decide +kernel
theorem dX8_isThere_12 : decode cX8_isThere 12 = .ok (.if_icmp .ge 46, 3) := by decide +kernel
theorem dX8_isThere_15 : decode cX8_isThere 15 = .ok (.aload_n 0, 1) := by decide +kernel
theorem dX8_isThere_16 : decode cX8_isThere 16 = .ok (.getfield 29, 3) := by decide +kernel
theorem dX8_isThere_19 : decode cX8_isThere 19 = .ok (.iload_n 2, 1) := by decide +kernel
theorem dX8_isThere_20 : decode cX8_isThere 20 = .ok (.iaload, 1) := by decide +kernel
theorem dX8_isThere_21 : decode cX8_isThere 21 = .ok (.ifCond .lt 31, 3) := by decide +kernel
theorem dX8_isThere_24 : decode cX8_isThere 24 = .ok (.aload_n 0, 1) := by decide +kernel
theorem dX8_isThere_25 : decode cX8_isThere 25 = .ok (.aload_n 0, 1) := by decide +kernel
theorem dX8_isThere_26 : decode cX8_isThere 26 = .ok (.getfield 29, 3) := by decide +kernel
theorem dX8_isThere_29 : decode cX8_isThere 29 = .ok (.iload_n 2, 1) := by decide +kernel
theorem dX8_isThere_30 : decode cX8_isThere 30 = .ok (.iaload, 1) := by decide +kernel
theorem dX8_isThere_31 : decode cX8_isThere 31 = .ok (.invokevirtual 152, 3) := by decide +kernel
theorem dX8_isThere_34 : decode cX8_isThere 34 = .ok (.ifCond .eq 18, 3) := by decide +kernel
theorem dX8_isThere_37 : decode cX8_isThere 37 = .ok (.aload_n 0, 1) := by decide +kernel
theorem dX8_isThere_38 : decode cX8_isThere 38 = .ok (.getfield 17, 3) := by decide +kernel
theorem dX8_isThere_41 : decode cX8_isThere 41 = .ok (.aload_n 0, 1) := by decide +kernel
theorem dX8_isThere_42 : decode cX8_isThere 42 = .ok (.getfield 29, 3) := by decide +kernel
theorem dX8_isThere_45 : decode cX8_isThere 45 = .ok (.iload_n 2, 1) := by decide +kernel
theorem dX8_isThere_46 : decode cX8_isThere 46 = .ok (.iaload, 1) := by decide +kernel
theorem dX8_isThere_47 : decode cX8_isThere 47 = .ok (.iaload, 1) := by decide +kernel
theorem dX8_isThere_48 : decode cX8_isThere 48 = .ok (.iload_n 1, 1) := by decide +kernel
theorem dX8_isThere_49 : decode cX8_isThere 49 = .ok (.if_icmp .eq 9, 3) := by decide +kernel
theorem dX8_isThere_52 : decode cX8_isThere 52 = .ok (.iinc 2 1, 3) := by decide +kernel
theorem dX8_isThere_55 : decode cX8_isThere 55 = .ok (.goto (-48), 3) := by decide +kernel
theorem dX8_isThere_58 : decode cX8_isThere 58 = .ok (.iload_n 2, 1) := by decide +kernel
theorem dX8_isThere_59 : decode cX8_isThere 59 = .ok (.aload_n 0, 1) := by decide +kernel
theorem dX8_isThere_60 : decode cX8_isThere 60 = .ok (.getfield 79, 3) := by decide +kernel
theorem dX8_isThere_63 : decode cX8_isThere 63 = .ok (.if_icmp .eq 40, 3) := by decide +kernel
theorem dX8_isThere_66 : decode cX8_isThere 66 = .ok (.aload_n 0, 1) := by decide +kernel
theorem dX8_isThere_67 : decode cX8_isThere 67 = .ok (.getfield 7, 3) := by decide +kernel
theorem dX8_isThere_70 : decode cX8_isThere 70 = .ok (.ifCond .eq 37, 3) := by decide +kernel
theorem dX8_isThere_73 : decode cX8_isThere 73 = .ok (.iload_n 2, 1) := by decide +kernel
theorem dX8_isThere_74 : decode cX8_isThere 74 = .ok (.aload_n 0, 1) := by decide +kernel
theorem dX8_isThere_75 : decode cX8_isThere 75 = .ok (.getfield 13, 3) := by decide +kernel
theorem dX8_isThere_78 : decode cX8_isThere 78 = .ok (.aload_n 0, 1) := by decide +kernel
theorem dX8_isThere_79 : decode cX8_isThere 79 = .ok (.getfield 29, 3) := by decide +kernel
theorem dX8_isThere_82 : decode cX8_isThere 82 = .ok (.iload_n 2, 1) := by decide +kernel
theorem dX8_isThere_83 : decode cX8_isThere 83 = .ok (.iaload, 1) := by decide +kernel
theorem dX8_isThere_84 : decode cX8_isThere 84 = .ok (.iaload, 1) := by decide +kernel
theorem dX8_isThere_85 : decode cX8_isThere 85 = .ok (.iconst 1, 1) := by decide +kernel
theorem dX8_isThere_86 : decode cX8_isThere 86 = .ok (.if_icmp .ne 10, 3) := by decide +kernel
theorem dX8_isThere_89 : decode cX8_isThere 89 = .ok (.aload_n 0, 1) := by decide +kernel
theorem dX8_isThere_90 : decode cX8_isThere 90 = .ok (.getfield 89, 3) := by decide +kernel
theorem dX8_isThere_93 : decode cX8_isThere 93 = .ok (.goto 7, 3) := by decide +kernel
theorem dX8_isThere_96 : decode cX8_isThere 96 = .ok (.aload_n 0, 1) := by decide +kernel
theorem dX8_isThere_97 : decode cX8_isThere 97 = .ok (.getfield 86, 3) := by decide +kernel
theorem dX8_isThere_100 : decode cX8_isThere 100 = .ok (.if_icmp .le 7, 3) := by decide +kernel
theorem dX8_isThere_103 : decode cX8_isThere 103 = .ok (.iconst 1, 1) := by decide +kernel
theorem dX8_isThere_104 : decode cX8_isThere 104 = .ok (.goto 4, 3) := by decide +kernel
theorem dX8_isThere_107 : decode cX8_isThere 107 = .ok (.iconst 0, 1) := by decide +kernel
theorem dX8_isThere_108 : decode cX8_isThere 108 = .ok (.ireturn, 1) := by decide +kernel
theorem dX8_isReady_0 : decode cX8_isReady 0 = .ok (.aload_n 0, 1) := by decide +kernel
theorem dX8_isReady_1 : decode cX8_isReady 1 = .ok (.iload_n 1, 1) := by decide +kernel
theorem dX8_isReady_2 : decode cX8_isReady 2 = .ok (.invokevirtual 155, 3) := by decide +kernel
theorem dX8_isReady_5 : decode cX8_isReady 5 = .ok (.ifCond .eq 16, 3) := by decide +kernel
theorem dX8_isReady_8 : decode cX8_isReady 8 = .ok (.aload_n 0, 1) := by decide +kernel
theorem dX8_isReady_9 : decode cX8_isReady 9 = .ok (.aload_n 0, 1) := by decide +kernel
theorem dX8_isReady_10 : decode cX8_isReady 10 = .ok (.getfield 20, 3) := by decide +kernel
theorem dX8_isReady_13 : decode cX8_isReady 13 = .ok (.iload_n 1, 1) := by decide +kernel
theorem dX8_isReady_14 : decode cX8_isReady 14 = .ok (.iaload, 1) := by decide +kernel
theorem dX8_isReady_15 : decode cX8_isReady 15 = .ok (.invokevirtual 158, 3) := by decide +kernel
theorem dX8_isReady_18 : decode cX8_isReady 18 = .ok (.ifCond .eq 28, 3) := by decide +kernel
theorem dX8_isReady_21 : decode cX8_isReady 21 = .ok (.aload_n 0, 1) := by decide +kernel
theorem dX8_isReady_22 : decode cX8_isReady 22 = .ok (.iload_n 1, 1) := by decide +kernel
theorem dX8_isReady_23 : decode cX8_isReady 23 = .ok (.invokevirtual 161, 3) := by decide +kernel
theorem dX8_isReady_26 : decode cX8_isReady 26 = .ok (.ifCond .eq 16, 3) := by decide +kernel
theorem dX8_isReady_29 : decode cX8_isReady 29 = .ok (.aload_n 0, 1) := by decide +kernel
theorem dX8_isReady_30 : decode cX8_isReady 30 = .ok (.aload_n 0, 1) := by decide +kernel
theorem dX8_isReady_31 : decode cX8_isReady 31 = .ok (.getfield 23, 3) := by decide +kernel
theorem dX8_isReady_34 : decode cX8_isReady 34 = .ok (.iload_n 1, 1) := by decide +kernel
theorem dX8_isReady_35 : decode cX8_isReady 35 = .ok (.iaload, 1) := by decide +kernel
theorem dX8_isReady_36 : decode cX8_isReady 36 = .ok (.invokevirtual 158, 3) := by decide +kernel
theorem dX8_isReady_39 : decode cX8_isReady 39 = .ok (.ifCond .eq 7, 3) := by decide +kernel
theorem dX8_isReady_42 : decode cX8_isReady 42 = .ok (.iconst 1, 1) := by decide +kernel
theorem dX8_isReady_43 : decode cX8_isReady 43 = .ok (.goto 4, 3) := by decide +kernel
theorem dX8_isReady_46 : decode cX8_isReady 46 = .ok (.iconst 0, 1) := by decide +kernel
theorem dX8_isReady_47 : decode cX8_isReady 47 = .ok (.ireturn, 1) := by decide +kernel
theorem dX8_moveOn_0 : decode cX8_moveOn 0 = .ok (.aload_n 0, 1) := by decide +kernel
theorem dX8_moveOn_1 : decode cX8_moveOn 1 = .ok (.getfield 29, 3) := by decide +kernel
theorem dX8_moveOn_4 : decode cX8_moveOn 4 = .ok (.iload_n 1, 1) := by decide +kernel
theorem dX8_moveOn_5 : decode cX8_moveOn 5 = .ok (.iconst 1, 1) := by decide +kernel
theorem dX8_moveOn_6 : decode cX8_moveOn 6 = .ok (.iadd, 1) := by decide +kernel
theorem dX8_moveOn_7 : decode cX8_moveOn 7 = .ok (.aload_n 0, 1) := by decide +kernel
theorem dX8_moveOn_8 : decode cX8_moveOn 8 = .ok (.getfield 29, 3) := by decide +kernel
theorem dX8_moveOn_11 : decode cX8_moveOn 11 = .ok (.iload_n 1, 1) := by decide +kernel
theorem dX8_moveOn_12 : decode cX8_moveOn 12 = .ok (.iaload, 1) := by decide +kernel
theorem dX8_moveOn_13 : decode cX8_moveOn 13 = .ok (.iastore, 1) := by decide +kernel
theorem dX8_moveOn_14 : decode cX8_moveOn 14 = .ok (.aload_n 0, 1) := by decide +kernel
theorem dX8_moveOn_15 : decode cX8_moveOn 15 = .ok (.getfield 32, 3) := by decide +kernel
theorem dX8_moveOn_18 : decode cX8_moveOn 18 = .ok (.iload_n 1, 1) := by decide +kernel
theorem dX8_moveOn_19 : decode cX8_moveOn 19 = .ok (.iconst 1, 1) := by decide +kernel
theorem dX8_moveOn_20 : decode cX8_moveOn 20 = .ok (.iadd, 1) := by decide +kernel
theorem dX8_moveOn_21 : decode cX8_moveOn 21 = .ok (.aload_n 0, 1) := by decide +kernel
theorem dX8_moveOn_22 : decode cX8_moveOn 22 = .ok (.getfield 32, 3) := by decide +kernel
theorem dX8_moveOn_25 : decode cX8_moveOn 25 = .ok (.iload_n 1, 1) := by decide +kernel
theorem dX8_moveOn_26 : decode cX8_moveOn 26 = .ok (.baload, 1) := by decide +kernel
theorem dX8_moveOn_27 : decode cX8_moveOn 27 = .ok (.bastore, 1) := by decide +kernel
theorem dX8_moveOn_28 : decode cX8_moveOn 28 = .ok (.aload_n 0, 1) := by decide +kernel
theorem dX8_moveOn_29 : decode cX8_moveOn 29 = .ok (.getfield 36, 3) := by decide +kernel
theorem dX8_moveOn_32 : decode cX8_moveOn 32 = .ok (.iload_n 1, 1) := by decide +kernel
theorem dX8_moveOn_33 : decode cX8_moveOn 33 = .ok (.iconst 1, 1) := by decide +kernel
theorem dX8_moveOn_34 : decode cX8_moveOn 34 = .ok (.iadd, 1) := by decide +kernel
theorem dX8_moveOn_35 : decode cX8_moveOn 35 = .ok (.aload_n 0, 1) := by decide +kernel
theorem dX8_moveOn_36 : decode cX8_moveOn 36 = .ok (.getfield 36, 3) := by decide +kernel
theorem dX8_moveOn_39 : decode cX8_moveOn 39 = .ok (.iload_n 1, 1) := by decide +kernel
theorem dX8_moveOn_40 : decode cX8_moveOn 40 = .ok (.baload, 1) := by decide +kernel
theorem dX8_moveOn_41 : decode cX8_moveOn 41 = .ok (.bastore, 1) := by decide +kernel
theorem dX8_moveOn_42 : decode cX8_moveOn 42 = .ok (.aload_n 0, 1) := by decide +kernel
theorem dX8_moveOn_43 : decode cX8_moveOn 43 = .ok (.getfield 39, 3) := by decide +kernel
theorem dX8_moveOn_46 : decode cX8_moveOn 46 = .ok (.iload_n 1, 1) := by decide +kernel
theorem dX8_moveOn_47 : decode cX8_moveOn 47 = .ok (.iconst 1, 1) := by decide +kernel
theorem dX8_moveOn_48 : decode cX8_moveOn 48 = .ok (.iadd, 1) := by decide +kernel
theorem dX8_moveOn_49 : decode cX8_moveOn 49 = .ok (.aload_n 0, 1) := by decide +kernel
theorem dX8_moveOn_50 : decode cX8_moveOn 50 = .ok (.getfield 39, 3) := by decide +kernel
theorem dX8_moveOn_53 : decode cX8_moveOn 53 = .ok (.iload_n 1, 1) := by decide +kernel
theorem dX8_moveOn_54 : decode cX8_moveOn 54 = .ok (.iaload, 1) := by decide +kernel
theorem dX8_moveOn_55 : decode cX8_moveOn 55 = .ok (.iastore, 1) := by decide +kernel
theorem dX8_moveOn_56 : decode cX8_moveOn 56 = .ok (.aload_n 0, 1) := by decide +kernel
theorem dX8_moveOn_57 : decode cX8_moveOn 57 = .ok (.getfield 42, 3) := by decide +kernel
theorem dX8_moveOn_60 : decode cX8_moveOn 60 = .ok (.iload_n 1, 1) := by decide +kernel
theorem dX8_moveOn_61 : decode cX8_moveOn 61 = .ok (.iconst 1, 1) := by decide +kernel
theorem dX8_moveOn_62 : decode cX8_moveOn 62 = .ok (.iadd, 1) := by decide +kernel
theorem dX8_moveOn_63 : decode cX8_moveOn 63 = .ok (.aload_n 0, 1) := by decide +kernel
theorem dX8_moveOn_64 : decode cX8_moveOn 64 = .ok (.getfield 42, 3) := by decide +kernel
theorem dX8_moveOn_67 : decode cX8_moveOn 67 = .ok (.iload_n 1, 1) := by decide +kernel
theorem dX8_moveOn_68 : decode cX8_moveOn 68 = .ok (.iaload, 1) := by decide +kernel
theorem dX8_moveOn_69 : decode cX8_moveOn 69 = .ok (.iastore, 1) := by decide +kernel
theorem dX8_moveOn_70 : decode cX8_moveOn 70 = .ok (.aload_n 0, 1) := by decide +kernel
theorem dX8_moveOn_71 : decode cX8_moveOn 71 = .ok (.getfield 45, 3) := by decide +kernel
theorem dX8_moveOn_74 : decode cX8_moveOn 74 = .ok (.iload_n 1, 1) := by decide +kernel
theorem dX8_moveOn_75 : decode cX8_moveOn 75 = .ok (.iconst 1, 1) := by decide +kernel
theorem dX8_moveOn_76 : decode cX8_moveOn 76 = .ok (.iadd, 1) := by decide +kernel
theorem dX8_moveOn_77 : decode cX8_moveOn 77 = .ok (.aload_n 0, 1) := by decide +kernel
theorem dX8_moveOn_78 : decode cX8_moveOn 78 = .ok (.getfield 45, 3) := by decide +kernel
theorem dX8_moveOn_81 : decode cX8_moveOn 81 = .ok (.iload_n 1, 1) := by decide +kernel
theorem dX8_moveOn_82 : decode cX8_moveOn 82 = .ok (.iaload, 1) := by decide +kernel
theorem dX8_moveOn_83 : decode cX8_moveOn 83 = .ok (.iastore, 1) := by decide +kernel
theorem dX8_moveOn_84 : decode cX8_moveOn 84 = .ok (.aload_n 0, 1) := by decide +kernel
theorem dX8_moveOn_85 : decode cX8_moveOn 85 = .ok (.getfield 48, 3) := by decide +kernel
theorem dX8_moveOn_88 : decode cX8_moveOn 88 = .ok (.iload_n 1, 1) := by decide +kernel
theorem dX8_moveOn_89 : decode cX8_moveOn 89 = .ok (.iconst 1, 1) := by decide +kernel
theorem dX8_moveOn_90 : decode cX8_moveOn 90 = .ok (.iadd, 1) := by decide +kernel
theorem dX8_moveOn_91 : decode cX8_moveOn 91 = .ok (.aload_n 0, 1) := by decide +kernel
theorem dX8_moveOn_92 : decode cX8_moveOn 92 = .ok (.getfield 48, 3) := by decide +kernel
theorem dX8_moveOn_95 : decode cX8_moveOn 95 = .ok (.iload_n 1, 1) := by decide +kernel
theorem dX8_moveOn_96 : decode cX8_moveOn 96 = .ok (.iaload, 1) := by decide +kernel
theorem dX8_moveOn_97 : decode cX8_moveOn 97 = .ok (.iastore, 1) := by decide +kernel
theorem dX8_moveOn_98 : decode cX8_moveOn 98 = .ok (.aload_n 0, 1) := by decide +kernel
theorem dX8_moveOn_99 : decode cX8_moveOn 99 = .ok (.getfield 29, 3) := by decide +kernel
theorem dX8_moveOn_102 : decode cX8_moveOn 102 = .ok (.iload_n 1, 1) := by decide +kernel
theorem dX8_moveOn_103 : decode cX8_moveOn 103 = .ok (.iconst (-1), 1) := by decide +kernel
theorem dX8_moveOn_104 : decode cX8_moveOn 104 = .ok (.iastore, 1) := by decide +kernel
theorem dX8_moveOn_105 : decode cX8_moveOn 105 = .ok (.return_, 1) := by decide +kernel
theorem dX8_squash_0 : decode cX8_squash 0 = .ok (.iconst 0, 1) := by decide +kernel
theorem dX8_squash_1 : decode cX8_squash 1 = .ok (.istore_n 3, 1) := by decide +kernel
theorem dX8_squash_2 : decode cX8_squash 2 = .ok (.iload_n 3, 1) := by decide +kernel
theorem dX8_squash_3 : decode cX8_squash 3 = .ok (.iload_n 1, 1) := by decide +kernel
theorem dX8_squash_4 : decode cX8_squash 4 = .ok (.if_icmp .ge 39, 3) := by decide +kernel
theorem dX8_squash_7 : decode cX8_squash 7 = .ok (.aload_n 0, 1) := by decide +kernel
theorem dX8_squash_8 : decode cX8_squash 8 = .ok (.dup, 1) := by decide +kernel
theorem dX8_squash_9 : decode cX8_squash 9 = .ok (.getfield 128, 3) := by decide +kernel
theorem dX8_squash_12 : decode cX8_squash 12 = .ok (.aload_n 0, 1) := by decide +kernel
theorem dX8_squash_13 : decode cX8_squash 13 = .ok (.getfield 29, 3) := by decide +kernel
theorem dX8_squash_16 : decode cX8_squash 16 = .ok (.iload_n 3, 1) := by decide +kernel
theorem dX8_squash_17 : decode cX8_squash 17 = .ok (.iaload, 1) := by decide +kernel
theorem dX8_squash_18 : decode cX8_squash 18 = .ok (.ifCond .lt 7, 3) := by decide +kernel
theorem dX8_squash_21 : decode cX8_squash 21 = .ok (.iconst 1, 1) := by decide +kernel
theorem dX8_squash_22 : decode cX8_squash 22 = .ok (.goto 4, 3) := by decide +kernel
theorem dX8_squash_25 : decode cX8_squash 25 = .ok (.iconst 0, 1) := by decide +kernel
theorem dX8_squash_26 : decode cX8_squash 26 = .ok (.iadd, 1) := by decide +kernel
theorem dX8_squash_27 : decode cX8_squash 27 = .ok (.putfield 128, 3) := by decide +kernel
theorem dX8_squash_30 : decode cX8_squash 30 = .ok (.aload_n 0, 1) := by decide +kernel
theorem dX8_squash_31 : decode cX8_squash 31 = .ok (.getfield 29, 3) := by decide +kernel
theorem dX8_squash_34 : decode cX8_squash 34 = .ok (.iload_n 3, 1) := by decide +kernel
theorem dX8_squash_35 : decode cX8_squash 35 = .ok (.iconst (-1), 1) := by decide +kernel
theorem dX8_squash_36 : decode cX8_squash 36 = .ok (.iastore, 1) := by decide +kernel
theorem dX8_squash_37 : decode cX8_squash 37 = .ok (.iinc 3 1, 3) := by decide +kernel
theorem dX8_squash_40 : decode cX8_squash 40 = .ok (.goto (-38), 3) := by decide +kernel
theorem dX8_squash_43 : decode cX8_squash 43 = .ok (.aload_n 0, 1) := by decide +kernel
theorem dX8_squash_44 : decode cX8_squash 44 = .ok (.iload_n 2, 1) := by decide +kernel
theorem dX8_squash_45 : decode cX8_squash 45 = .ok (.aload_n 0, 1) := by decide +kernel
theorem dX8_squash_46 : decode cX8_squash 46 = .ok (.getfield 104, 3) := by decide +kernel
theorem dX8_squash_49 : decode cX8_squash 49 = .ok (.irem, 1) := by decide +kernel
theorem dX8_squash_50 : decode cX8_squash 50 = .ok (.putfield 107, 3) := by decide +kernel
theorem dX8_squash_53 : decode cX8_squash 53 = .ok (.aload_n 0, 1) := by decide +kernel
theorem dX8_squash_54 : decode cX8_squash 54 = .ok (.iconst 0, 1) := by decide +kernel
theorem dX8_squash_55 : decode cX8_squash 55 = .ok (.putfield 110, 3) := by decide +kernel
theorem dX8_squash_58 : decode cX8_squash 58 = .ok (.aload_n 0, 1) := by decide +kernel
theorem dX8_squash_59 : decode cX8_squash 59 = .ok (.iconst 0, 1) := by decide +kernel
theorem dX8_squash_60 : decode cX8_squash 60 = .ok (.putfield 164, 3) := by decide +kernel
theorem dX8_squash_63 : decode cX8_squash 63 = .ok (.return_, 1) := by decide +kernel
theorem dX8_know_0 : decode cX8_know 0 = .ok (.iload_n 2, 1) := by decide +kernel
theorem dX8_know_1 : decode cX8_know 1 = .ok (.ifCond .ge 4, 3) := by decide +kernel
theorem dX8_know_4 : decode cX8_know 4 = .ok (.return_, 1) := by decide +kernel
theorem dX8_know_5 : decode cX8_know 5 = .ok (.aload_n 0, 1) := by decide +kernel
theorem dX8_know_6 : decode cX8_know 6 = .ok (.dup, 1) := by decide +kernel
theorem dX8_know_7 : decode cX8_know 7 = .ok (.getfield 134, 3) := by decide +kernel
theorem dX8_know_10 : decode cX8_know 10 = .ok (.iconst 1, 1) := by decide +kernel
theorem dX8_know_11 : decode cX8_know 11 = .ok (.iadd, 1) := by decide +kernel
theorem dX8_know_12 : decode cX8_know 12 = .ok (.putfield 134, 3) := by decide +kernel
theorem dX8_know_15 : decode cX8_know 15 = .ok (.aload_n 0, 1) := by decide +kernel
theorem dX8_know_16 : decode cX8_know 16 = .ok (.iload_n 1, 1) := by decide +kernel
theorem dX8_know_17 : decode cX8_know 17 = .ok (.iload_n 2, 1) := by decide +kernel
theorem dX8_know_18 : decode cX8_know 18 = .ok (.invokevirtual 167, 3) := by decide +kernel
theorem dX8_know_21 : decode cX8_know 21 = .ok (.return_, 1) := by decide +kernel
theorem dX8_commit_0 : decode cX8_commit 0 = .ok (.aload_n 0, 1) := by decide +kernel
theorem dX8_commit_1 : decode cX8_commit 1 = .ok (.getfield 29, 3) := by decide +kernel
theorem dX8_commit_4 : decode cX8_commit 4 = .ok (.iload_n 1, 1) := by decide +kernel
theorem dX8_commit_5 : decode cX8_commit 5 = .ok (.iaload, 1) := by decide +kernel
theorem dX8_commit_6 : decode cX8_commit 6 = .ok (.istore_n 2, 1) := by decide +kernel
theorem dX8_commit_7 : decode cX8_commit 7 = .ok (.aload_n 0, 1) := by decide +kernel
theorem dX8_commit_8 : decode cX8_commit 8 = .ok (.iload_n 2, 1) := by decide +kernel
theorem dX8_commit_9 : decode cX8_commit 9 = .ok (.invokevirtual 152, 3) := by decide +kernel
theorem dX8_commit_12 : decode cX8_commit 12 = .ok (.ifCond .eq 20, 3) := by decide +kernel
theorem dX8_commit_15 : decode cX8_commit 15 = .ok (.aload_n 0, 1) := by decide +kernel
theorem dX8_commit_16 : decode cX8_commit 16 = .ok (.getfield 57, 3) := by decide +kernel
theorem dX8_commit_19 : decode cX8_commit 19 = .ok (.aload_n 0, 1) := by decide +kernel
theorem dX8_commit_20 : decode cX8_commit 20 = .ok (.getfield 17, 3) := by decide +kernel
theorem dX8_commit_23 : decode cX8_commit 23 = .ok (.iload_n 2, 1) := by decide +kernel
theorem dX8_commit_24 : decode cX8_commit 24 = .ok (.iaload, 1) := by decide +kernel
theorem dX8_commit_25 : decode cX8_commit 25 = .ok (.aload_n 0, 1) := by decide +kernel
theorem dX8_commit_26 : decode cX8_commit 26 = .ok (.getfield 42, 3) := by decide +kernel
theorem dX8_commit_29 : decode cX8_commit 29 = .ok (.iload_n 1, 1) := by decide +kernel
theorem dX8_commit_30 : decode cX8_commit 30 = .ok (.iaload, 1) := by decide +kernel
theorem dX8_commit_31 : decode cX8_commit 31 = .ok (.iastore, 1) := by decide +kernel
theorem dX8_commit_32 : decode cX8_commit 32 = .ok (.aload_n 0, 1) := by decide +kernel
theorem dX8_commit_33 : decode cX8_commit 33 = .ok (.getfield 13, 3) := by decide +kernel
theorem dX8_commit_36 : decode cX8_commit 36 = .ok (.iload_n 2, 1) := by decide +kernel
theorem dX8_commit_37 : decode cX8_commit 37 = .ok (.iaload, 1) := by decide +kernel
theorem dX8_commit_38 : decode cX8_commit 38 = .ok (.iconst 2, 1) := by decide +kernel
theorem dX8_commit_39 : decode cX8_commit 39 = .ok (.if_icmp .ne 20, 3) := by decide +kernel
theorem dX8_commit_42 : decode cX8_commit 42 = .ok (.aload_n 0, 1) := by decide +kernel
theorem dX8_commit_43 : decode cX8_commit 43 = .ok (.getfield 60, 3) := by decide +kernel
theorem dX8_commit_46 : decode cX8_commit 46 = .ok (.aload_n 0, 1) := by decide +kernel
theorem dX8_commit_47 : decode cX8_commit 47 = .ok (.getfield 45, 3) := by decide +kernel
theorem dX8_commit_50 : decode cX8_commit 50 = .ok (.iload_n 1, 1) := by decide +kernel
theorem dX8_commit_51 : decode cX8_commit 51 = .ok (.iaload, 1) := by decide +kernel
theorem dX8_commit_52 : decode cX8_commit 52 = .ok (.aload_n 0, 1) := by decide +kernel
theorem dX8_commit_53 : decode cX8_commit 53 = .ok (.getfield 42, 3) := by decide +kernel
theorem dX8_commit_56 : decode cX8_commit 56 = .ok (.iload_n 1, 1) := by decide +kernel
theorem dX8_commit_57 : decode cX8_commit 57 = .ok (.iaload, 1) := by decide +kernel
theorem dX8_commit_58 : decode cX8_commit 58 = .ok (.iastore, 1) := by decide +kernel
theorem dX8_commit_59 : decode cX8_commit 59 = .ok (.aload_n 0, 1) := by decide +kernel
theorem dX8_commit_60 : decode cX8_commit 60 = .ok (.getfield 122, 3) := by decide +kernel
theorem dX8_commit_63 : decode cX8_commit 63 = .ok (.sipush 400, 3) := by decide +kernel
theorem dX8_commit_66 : decode cX8_commit 66 = .ok (.irem, 1) := by decide +kernel
theorem dX8_commit_67 : decode cX8_commit 67 = .ok (.istore_n 3, 1) := by decide +kernel
theorem dX8_commit_68 : decode cX8_commit 68 = .ok (.aload_n 0, 1) := by decide +kernel
theorem dX8_commit_69 : decode cX8_commit 69 = .ok (.getfield 66, 3) := by decide +kernel
theorem dX8_commit_72 : decode cX8_commit 72 = .ok (.iload_n 3, 1) := by decide +kernel
theorem dX8_commit_73 : decode cX8_commit 73 = .ok (.iload_n 2, 1) := by decide +kernel
theorem dX8_commit_74 : decode cX8_commit 74 = .ok (.iastore, 1) := by decide +kernel
theorem dX8_commit_75 : decode cX8_commit 75 = .ok (.aload_n 0, 1) := by decide +kernel
theorem dX8_commit_76 : decode cX8_commit 76 = .ok (.getfield 69, 3) := by decide +kernel
theorem dX8_commit_79 : decode cX8_commit 79 = .ok (.iload_n 3, 1) := by decide +kernel
theorem dX8_commit_80 : decode cX8_commit 80 = .ok (.aload_n 0, 1) := by decide +kernel
theorem dX8_commit_81 : decode cX8_commit 81 = .ok (.getfield 119, 3) := by decide +kernel
theorem dX8_commit_84 : decode cX8_commit 84 = .ok (.iastore, 1) := by decide +kernel
theorem dX8_commit_85 : decode cX8_commit 85 = .ok (.aload_n 0, 1) := by decide +kernel
theorem dX8_commit_86 : decode cX8_commit 86 = .ok (.getfield 72, 3) := by decide +kernel
theorem dX8_commit_89 : decode cX8_commit 89 = .ok (.iload_n 3, 1) := by decide +kernel
theorem dX8_commit_90 : decode cX8_commit 90 = .ok (.aload_n 0, 1) := by decide +kernel
theorem dX8_commit_91 : decode cX8_commit 91 = .ok (.getfield 42, 3) := by decide +kernel
theorem dX8_commit_94 : decode cX8_commit 94 = .ok (.iload_n 1, 1) := by decide +kernel
theorem dX8_commit_95 : decode cX8_commit 95 = .ok (.iaload, 1) := by decide +kernel
theorem dX8_commit_96 : decode cX8_commit 96 = .ok (.iastore, 1) := by decide +kernel
theorem dX8_commit_97 : decode cX8_commit 97 = .ok (.aload_n 0, 1) := by decide +kernel
theorem dX8_commit_98 : decode cX8_commit 98 = .ok (.dup, 1) := by decide +kernel
theorem dX8_commit_99 : decode cX8_commit 99 = .ok (.getfield 122, 3) := by decide +kernel
theorem dX8_commit_102 : decode cX8_commit 102 = .ok (.iconst 1, 1) := by decide +kernel
theorem dX8_commit_103 : decode cX8_commit 103 = .ok (.iadd, 1) := by decide +kernel
theorem dX8_commit_104 : decode cX8_commit 104 = .ok (.putfield 122, 3) := by decide +kernel
theorem dX8_commit_107 : decode cX8_commit 107 = .ok (.return_, 1) := by decide +kernel
theorem dX8_leave_0 : decode cX8_leave 0 = .ok (.aload_n 0, 1) := by decide +kernel
theorem dX8_leave_1 : decode cX8_leave 1 = .ok (.getfield 79, 3) := by decide +kernel
theorem dX8_leave_4 : decode cX8_leave 4 = .ok (.iconst 1, 1) := by decide +kernel
theorem dX8_leave_5 : decode cX8_leave 5 = .ok (.isub, 1) := by decide +kernel
theorem dX8_leave_6 : decode cX8_leave 6 = .ok (.istore_n 1, 1) := by decide +kernel
theorem dX8_leave_7 : decode cX8_leave 7 = .ok (.aload_n 0, 1) := by decide +kernel
theorem dX8_leave_8 : decode cX8_leave 8 = .ok (.getfield 29, 3) := by decide +kernel
theorem dX8_leave_11 : decode cX8_leave 11 = .ok (.iload_n 1, 1) := by decide +kernel
theorem dX8_leave_12 : decode cX8_leave 12 = .ok (.iaload, 1) := by decide +kernel
theorem dX8_leave_13 : decode cX8_leave 13 = .ok (.istore_n 2, 1) := by decide +kernel
theorem dX8_leave_14 : decode cX8_leave 14 = .ok (.iload_n 2, 1) := by decide +kernel
theorem dX8_leave_15 : decode cX8_leave 15 = .ok (.ifCond .ge 5, 3) := by decide +kernel
theorem dX8_leave_18 : decode cX8_leave 18 = .ok (.iconst 4, 1) := by decide +kernel
theorem dX8_leave_19 : decode cX8_leave 19 = .ok (.ireturn, 1) := by decide +kernel
theorem dX8_leave_20 : decode cX8_leave 20 = .ok (.aload_n 0, 1) := by decide +kernel
theorem dX8_leave_21 : decode cX8_leave 21 = .ok (.getfield 13, 3) := by decide +kernel
theorem dX8_leave_24 : decode cX8_leave 24 = .ok (.iload_n 2, 1) := by decide +kernel
theorem dX8_leave_25 : decode cX8_leave 25 = .ok (.iaload, 1) := by decide +kernel
theorem dX8_leave_26 : decode cX8_leave 26 = .ok (.iconst 5, 1) := by decide +kernel
theorem dX8_leave_27 : decode cX8_leave 27 = .ok (.if_icmp .ne 34, 3) := by decide +kernel
theorem dX8_leave_30 : decode cX8_leave 30 = .ok (.aload_n 0, 1) := by decide +kernel
theorem dX8_leave_31 : decode cX8_leave 31 = .ok (.getfield 29, 3) := by decide +kernel
theorem dX8_leave_34 : decode cX8_leave 34 = .ok (.iload_n 1, 1) := by decide +kernel
theorem dX8_leave_35 : decode cX8_leave 35 = .ok (.iconst (-1), 1) := by decide +kernel
theorem dX8_leave_36 : decode cX8_leave 36 = .ok (.iastore, 1) := by decide +kernel
theorem dX8_leave_37 : decode cX8_leave 37 = .ok (.aload_n 0, 1) := by decide +kernel
theorem dX8_leave_38 : decode cX8_leave 38 = .ok (.dup, 1) := by decide +kernel
theorem dX8_leave_39 : decode cX8_leave 39 = .ok (.getfield 131, 3) := by decide +kernel
theorem dX8_leave_42 : decode cX8_leave 42 = .ok (.iconst 1, 1) := by decide +kernel
theorem dX8_leave_43 : decode cX8_leave 43 = .ok (.iadd, 1) := by decide +kernel
theorem dX8_leave_44 : decode cX8_leave 44 = .ok (.putfield 131, 3) := by decide +kernel
theorem dX8_leave_47 : decode cX8_leave 47 = .ok (.aload_n 0, 1) := by decide +kernel
theorem dX8_leave_48 : decode cX8_leave 48 = .ok (.aload_n 0, 1) := by decide +kernel
theorem dX8_leave_49 : decode cX8_leave 49 = .ok (.getfield 79, 3) := by decide +kernel
theorem dX8_leave_52 : decode cX8_leave 52 = .ok (.aload_n 0, 1) := by decide +kernel
theorem dX8_leave_53 : decode cX8_leave 53 = .ok (.getfield 149, 3) := by decide +kernel
theorem dX8_leave_56 : decode cX8_leave 56 = .ok (.invokevirtual 167, 3) := by decide +kernel
theorem dX8_leave_59 : decode cX8_leave 59 = .ok (.iconst 1, 1) := by decide +kernel
theorem dX8_leave_60 : decode cX8_leave 60 = .ok (.ireturn, 1) := by decide +kernel
theorem dX8_leave_61 : decode cX8_leave 61 = .ok (.aload_n 0, 1) := by decide +kernel
theorem dX8_leave_62 : decode cX8_leave 62 = .ok (.iload_n 1, 1) := by decide +kernel
theorem dX8_leave_63 : decode cX8_leave 63 = .ok (.invokevirtual 171, 3) := by decide +kernel
theorem dX8_leave_66 : decode cX8_leave 66 = .ok (.aload_n 0, 1) := by decide +kernel
theorem dX8_leave_67 : decode cX8_leave 67 = .ok (.getfield 29, 3) := by decide +kernel
theorem dX8_leave_70 : decode cX8_leave 70 = .ok (.iload_n 1, 1) := by decide +kernel
theorem dX8_leave_71 : decode cX8_leave 71 = .ok (.iconst (-1), 1) := by decide +kernel
theorem dX8_leave_72 : decode cX8_leave 72 = .ok (.iastore, 1) := by decide +kernel
theorem dX8_leave_73 : decode cX8_leave 73 = .ok (.aload_n 0, 1) := by decide +kernel
theorem dX8_leave_74 : decode cX8_leave 74 = .ok (.getfield 13, 3) := by decide +kernel
theorem dX8_leave_77 : decode cX8_leave 77 = .ok (.iload_n 2, 1) := by decide +kernel
theorem dX8_leave_78 : decode cX8_leave 78 = .ok (.iaload, 1) := by decide +kernel
theorem dX8_leave_79 : decode cX8_leave 79 = .ok (.bipush 6, 2) := by decide +kernel
theorem dX8_leave_81 : decode cX8_leave 81 = .ok (.if_icmp .ne 11, 3) := by decide +kernel
theorem dX8_leave_84 : decode cX8_leave 84 = .ok (.aload_n 0, 1) := by decide +kernel
theorem dX8_leave_85 : decode cX8_leave 85 = .ok (.iconst 1, 1) := by decide +kernel
theorem dX8_leave_86 : decode cX8_leave 86 = .ok (.putfield 116, 3) := by decide +kernel
theorem dX8_leave_89 : decode cX8_leave 89 = .ok (.goto 41, 3) := by decide +kernel
theorem dX8_leave_92 : decode cX8_leave 92 = .ok (.aload_n 0, 1) := by decide +kernel
theorem dX8_leave_93 : decode cX8_leave 93 = .ok (.getfield 92, 3) := by decide +kernel
theorem dX8_leave_96 : decode cX8_leave 96 = .ok (.iload_n 1, 1) := by decide +kernel
theorem dX8_leave_97 : decode cX8_leave 97 = .ok (.if_icmp .ne 33, 3) := by decide +kernel
theorem dX8_leave_100 : decode cX8_leave 100 = .ok (.aload_n 0, 1) := by decide +kernel
theorem dX8_leave_101 : decode cX8_leave 101 = .ok (.getfield 32, 3) := by decide +kernel
theorem dX8_leave_104 : decode cX8_leave 104 = .ok (.iload_n 1, 1) := by decide +kernel
theorem dX8_leave_105 : decode cX8_leave 105 = .ok (.baload, 1) := by decide +kernel
theorem dX8_leave_106 : decode cX8_leave 106 = .ok (.ifCond .eq 24, 3) := by decide +kernel
theorem dX8_leave_109 : decode cX8_leave 109 = .ok (.aload_n 0, 1) := by decide +kernel
theorem dX8_leave_110 : decode cX8_leave 110 = .ok (.getfield 13, 3) := by decide +kernel
theorem dX8_leave_113 : decode cX8_leave 113 = .ok (.iload_n 2, 1) := by decide +kernel
theorem dX8_leave_114 : decode cX8_leave 114 = .ok (.iaload, 1) := by decide +kernel
theorem dX8_leave_115 : decode cX8_leave 115 = .ok (.iconst 4, 1) := by decide +kernel
theorem dX8_leave_116 : decode cX8_leave 116 = .ok (.if_icmp .ne 14, 3) := by decide +kernel
theorem dX8_leave_119 : decode cX8_leave 119 = .ok (.aload_n 0, 1) := by decide +kernel
theorem dX8_leave_120 : decode cX8_leave 120 = .ok (.iload_n 1, 1) := by decide +kernel
theorem dX8_leave_121 : decode cX8_leave 121 = .ok (.aload_n 0, 1) := by decide +kernel
theorem dX8_leave_122 : decode cX8_leave 122 = .ok (.getfield 48, 3) := by decide +kernel
theorem dX8_leave_125 : decode cX8_leave 125 = .ok (.iload_n 1, 1) := by decide +kernel
theorem dX8_leave_126 : decode cX8_leave 126 = .ok (.iaload, 1) := by decide +kernel
theorem dX8_leave_127 : decode cX8_leave 127 = .ok (.invokevirtual 175, 3) := by decide +kernel
theorem dX8_leave_130 : decode cX8_leave 130 = .ok (.iconst 0, 1) := by decide +kernel
theorem dX8_leave_131 : decode cX8_leave 131 = .ok (.ireturn, 1) := by decide +kernel
theorem dX8_cyclesOf_0 : decode cX8_cyclesOf 0 = .ok (.aload_n 0, 1) := by decide +kernel
theorem dX8_cyclesOf_1 : decode cX8_cyclesOf 1 = .ok (.getfield 13, 3) := by decide +kernel
theorem dX8_cyclesOf_4 : decode cX8_cyclesOf 4 = .ok (.iload_n 1, 1) := by decide +kernel
theorem dX8_cyclesOf_5 : decode cX8_cyclesOf 5 = .ok (.iaload, 1) := by decide +kernel
theorem dX8_cyclesOf_6 : decode cX8_cyclesOf 6 = .ok (.iconst 3, 1) := by decide +kernel
theorem dX8_cyclesOf_7 : decode cX8_cyclesOf 7 = .ok (.if_icmp .ne 10, 3) := by decide +kernel
theorem dX8_cyclesOf_10 : decode cX8_cyclesOf 10 = .ok (.aload_n 0, 1) := by decide +kernel
theorem dX8_cyclesOf_11 : decode cX8_cyclesOf 11 = .ok (.getfield 95, 3) := by decide +kernel
theorem dX8_cyclesOf_14 : decode cX8_cyclesOf 14 = .ok (.goto 4, 3) := by decide +kernel
theorem dX8_cyclesOf_17 : decode cX8_cyclesOf 17 = .ok (.iconst 1, 1) := by decide +kernel
theorem dX8_cyclesOf_18 : decode cX8_cyclesOf 18 = .ok (.ireturn, 1) := by decide +kernel
theorem dX8_work_0 : decode cX8_work 0 = .ok (.aload_n 0, 1) := by decide +kernel
theorem dX8_work_1 : decode cX8_work 1 = .ok (.getfield 29, 3) := by decide +kernel
theorem dX8_work_4 : decode cX8_work 4 = .ok (.aload_n 0, 1) := by decide +kernel
theorem dX8_work_5 : decode cX8_work 5 = .ok (.getfield 83, 3) := by decide +kernel
theorem dX8_work_8 : decode cX8_work 8 = .ok (.iaload, 1) := by decide +kernel
theorem dX8_work_9 : decode cX8_work 9 = .ok (.istore_n 1, 1) := by decide +kernel
theorem dX8_work_10 : decode cX8_work 10 = .ok (.aload_n 0, 1) := by decide +kernel
theorem dX8_work_11 : decode cX8_work 11 = .ok (.getfield 36, 3) := by decide +kernel
theorem dX8_work_14 : decode cX8_work 14 = .ok (.aload_n 0, 1) := by decide +kernel
theorem dX8_work_15 : decode cX8_work 15 = .ok (.getfield 83, 3) := by decide +kernel
theorem dX8_work_18 : decode cX8_work 18 = .ok (.baload, 1) := by decide +kernel
theorem dX8_work_19 : decode cX8_work 19 = .ok (.ifCond .ne 13, 3) := by decide +kernel
theorem dX8_work_22 : decode cX8_work 22 = .ok (.aload_n 0, 1) := by decide +kernel
theorem dX8_work_23 : decode cX8_work 23 = .ok (.iload_n 1, 1) := by decide +kernel
theorem dX8_work_24 : decode cX8_work 24 = .ok (.invokevirtual 178, 3) := by decide +kernel
theorem dX8_work_27 : decode cX8_work 27 = .ok (.ifCond .ne 5, 3) := by decide +kernel
theorem dX8_work_30 : decode cX8_work 30 = .ok (.iconst 2, 1) := by decide +kernel
theorem dX8_work_31 : decode cX8_work 31 = .ok (.ireturn, 1) := by decide +kernel
theorem dX8_work_32 : decode cX8_work 32 = .ok (.aload_n 0, 1) := by decide +kernel
theorem dX8_work_33 : decode cX8_work 33 = .ok (.getfield 36, 3) := by decide +kernel
theorem dX8_work_36 : decode cX8_work 36 = .ok (.aload_n 0, 1) := by decide +kernel
theorem dX8_work_37 : decode cX8_work 37 = .ok (.getfield 83, 3) := by decide +kernel
theorem dX8_work_40 : decode cX8_work 40 = .ok (.iconst 1, 1) := by decide +kernel
theorem dX8_work_41 : decode cX8_work 41 = .ok (.bastore, 1) := by decide +kernel
theorem dX8_work_42 : decode cX8_work 42 = .ok (.aload_n 0, 1) := by decide +kernel
theorem dX8_work_43 : decode cX8_work 43 = .ok (.getfield 39, 3) := by decide +kernel
theorem dX8_work_46 : decode cX8_work 46 = .ok (.aload_n 0, 1) := by decide +kernel
theorem dX8_work_47 : decode cX8_work 47 = .ok (.getfield 83, 3) := by decide +kernel
theorem dX8_work_50 : decode cX8_work 50 = .ok (.dup2, 1) := by decide +kernel
theorem dX8_work_51 : decode cX8_work 51 = .ok (.iaload, 1) := by decide +kernel
theorem dX8_work_52 : decode cX8_work 52 = .ok (.iconst 1, 1) := by decide +kernel
theorem dX8_work_53 : decode cX8_work 53 = .ok (.iadd, 1) := by decide +kernel
theorem dX8_work_54 : decode cX8_work 54 = .ok (.iastore, 1) := by decide +kernel
theorem dX8_work_55 : decode cX8_work 55 = .ok (.aload_n 0, 1) := by decide +kernel
theorem dX8_work_56 : decode cX8_work 56 = .ok (.getfield 39, 3) := by decide +kernel
theorem dX8_work_59 : decode cX8_work 59 = .ok (.aload_n 0, 1) := by decide +kernel
theorem dX8_work_60 : decode cX8_work 60 = .ok (.getfield 83, 3) := by decide +kernel
end
section
theorem dX8_work_63 : decode cX8_work 63 = .ok (.iaload, 1) := by decide +kernel
theorem dX8_work_64 : decode cX8_work 64 = .ok (.aload_n 0, 1) := by decide +kernel
theorem dX8_work_65 : decode cX8_work 65 = .ok (.iload_n 1, 1) := by decide +kernel
theorem dX8_work_66 : decode cX8_work 66 = .ok (.invokevirtual 181, 3) := by decide +kernel
theorem dX8_work_69 : decode cX8_work 69 = .ok (.if_icmp .ge 7, 3) := by decide +kernel
theorem dX8_work_72 : decode cX8_work 72 = .ok (.iconst 3, 1) := by decide +kernel
theorem dX8_work_73 : decode cX8_work 73 = .ok (.goto 4, 3) := by decide +kernel
theorem dX8_work_76 : decode cX8_work 76 = .ok (.iconst 4, 1) := by decide +kernel
theorem dX8_work_77 : decode cX8_work 77 = .ok (.ireturn, 1) := by decide +kernel
theorem dX8_mayGo_0 : decode cX8_mayGo 0 = .ok (.aload_n 0, 1) := by decide +kernel
theorem dX8_mayGo_1 : decode cX8_mayGo 1 = .ok (.getfield 29, 3) := by decide +kernel
theorem dX8_mayGo_4 : decode cX8_mayGo 4 = .ok (.iload_n 1, 1) := by decide +kernel
theorem dX8_mayGo_5 : decode cX8_mayGo 5 = .ok (.iaload, 1) := by decide +kernel
theorem dX8_mayGo_6 : decode cX8_mayGo 6 = .ok (.ifCond .lt 14, 3) := by decide +kernel
theorem dX8_mayGo_9 : decode cX8_mayGo 9 = .ok (.aload_n 0, 1) := by decide +kernel
theorem dX8_mayGo_10 : decode cX8_mayGo 10 = .ok (.getfield 29, 3) := by decide +kernel
theorem dX8_mayGo_13 : decode cX8_mayGo 13 = .ok (.iload_n 1, 1) := by decide +kernel
theorem dX8_mayGo_14 : decode cX8_mayGo 14 = .ok (.iconst 1, 1) := by decide +kernel
theorem dX8_mayGo_15 : decode cX8_mayGo 15 = .ok (.iadd, 1) := by decide +kernel
theorem dX8_mayGo_16 : decode cX8_mayGo 16 = .ok (.iaload, 1) := by decide +kernel
theorem dX8_mayGo_17 : decode cX8_mayGo 17 = .ok (.ifCond .lt 5, 3) := by decide +kernel
theorem dX8_mayGo_20 : decode cX8_mayGo 20 = .ok (.iconst 0, 1) := by decide +kernel
theorem dX8_mayGo_21 : decode cX8_mayGo 21 = .ok (.ireturn, 1) := by decide +kernel
theorem dX8_mayGo_22 : decode cX8_mayGo 22 = .ok (.iload_n 1, 1) := by decide +kernel
theorem dX8_mayGo_23 : decode cX8_mayGo 23 = .ok (.aload_n 0, 1) := by decide +kernel
theorem dX8_mayGo_24 : decode cX8_mayGo 24 = .ok (.getfield 83, 3) := by decide +kernel
theorem dX8_mayGo_27 : decode cX8_mayGo 27 = .ok (.if_icmp .ne 31, 3) := by decide +kernel
theorem dX8_mayGo_30 : decode cX8_mayGo 30 = .ok (.aload_n 0, 1) := by decide +kernel
theorem dX8_mayGo_31 : decode cX8_mayGo 31 = .ok (.getfield 36, 3) := by decide +kernel
theorem dX8_mayGo_34 : decode cX8_mayGo 34 = .ok (.iload_n 1, 1) := by decide +kernel
theorem dX8_mayGo_35 : decode cX8_mayGo 35 = .ok (.baload, 1) := by decide +kernel
theorem dX8_mayGo_36 : decode cX8_mayGo 36 = .ok (.ifCond .eq 26, 3) := by decide +kernel
theorem dX8_mayGo_39 : decode cX8_mayGo 39 = .ok (.aload_n 0, 1) := by decide +kernel
theorem dX8_mayGo_40 : decode cX8_mayGo 40 = .ok (.getfield 39, 3) := by decide +kernel
theorem dX8_mayGo_43 : decode cX8_mayGo 43 = .ok (.iload_n 1, 1) := by decide +kernel
theorem dX8_mayGo_44 : decode cX8_mayGo 44 = .ok (.iaload, 1) := by decide +kernel
theorem dX8_mayGo_45 : decode cX8_mayGo 45 = .ok (.aload_n 0, 1) := by decide +kernel
theorem dX8_mayGo_46 : decode cX8_mayGo 46 = .ok (.aload_n 0, 1) := by decide +kernel
theorem dX8_mayGo_47 : decode cX8_mayGo 47 = .ok (.getfield 29, 3) := by decide +kernel
theorem dX8_mayGo_50 : decode cX8_mayGo 50 = .ok (.iload_n 1, 1) := by decide +kernel
theorem dX8_mayGo_51 : decode cX8_mayGo 51 = .ok (.iaload, 1) := by decide +kernel
theorem dX8_mayGo_52 : decode cX8_mayGo 52 = .ok (.invokevirtual 181, 3) := by decide +kernel
theorem dX8_mayGo_55 : decode cX8_mayGo 55 = .ok (.if_icmp .lt 7, 3) := by decide +kernel
theorem dX8_mayGo_58 : decode cX8_mayGo 58 = .ok (.iconst 1, 1) := by decide +kernel
theorem dX8_mayGo_59 : decode cX8_mayGo 59 = .ok (.goto 4, 3) := by decide +kernel
theorem dX8_mayGo_62 : decode cX8_mayGo 62 = .ok (.iconst 0, 1) := by decide +kernel
theorem dX8_mayGo_63 : decode cX8_mayGo 63 = .ok (.ireturn, 1) := by decide +kernel
theorem dX8_goOn_0 : decode cX8_goOn 0 = .ok (.iconst 4, 1) := by decide +kernel
theorem dX8_goOn_1 : decode cX8_goOn 1 = .ok (.istore_n 1, 1) := by decide +kernel
theorem dX8_goOn_2 : decode cX8_goOn 2 = .ok (.aload_n 0, 1) := by decide +kernel
theorem dX8_goOn_3 : decode cX8_goOn 3 = .ok (.getfield 29, 3) := by decide +kernel
theorem dX8_goOn_6 : decode cX8_goOn 6 = .ok (.aload_n 0, 1) := by decide +kernel
theorem dX8_goOn_7 : decode cX8_goOn 7 = .ok (.getfield 83, 3) := by decide +kernel
theorem dX8_goOn_10 : decode cX8_goOn 10 = .ok (.iaload, 1) := by decide +kernel
theorem dX8_goOn_11 : decode cX8_goOn 11 = .ok (.ifCond .lt 7, 3) := by decide +kernel
theorem dX8_goOn_14 : decode cX8_goOn 14 = .ok (.iconst 1, 1) := by decide +kernel
theorem dX8_goOn_15 : decode cX8_goOn 15 = .ok (.goto 4, 3) := by decide +kernel
theorem dX8_goOn_18 : decode cX8_goOn 18 = .ok (.iconst 0, 1) := by decide +kernel
theorem dX8_goOn_19 : decode cX8_goOn 19 = .ok (.istore_n 2, 1) := by decide +kernel
theorem dX8_goOn_20 : decode cX8_goOn 20 = .ok (.aload_n 0, 1) := by decide +kernel
theorem dX8_goOn_21 : decode cX8_goOn 21 = .ok (.getfield 79, 3) := by decide +kernel
theorem dX8_goOn_24 : decode cX8_goOn 24 = .ok (.iconst 2, 1) := by decide +kernel
theorem dX8_goOn_25 : decode cX8_goOn 25 = .ok (.isub, 1) := by decide +kernel
theorem dX8_goOn_26 : decode cX8_goOn 26 = .ok (.istore_n 3, 1) := by decide +kernel
theorem dX8_goOn_27 : decode cX8_goOn 27 = .ok (.iload_n 3, 1) := by decide +kernel
theorem dX8_goOn_28 : decode cX8_goOn 28 = .ok (.ifCond .lt 105, 3) := by decide +kernel
theorem dX8_goOn_31 : decode cX8_goOn 31 = .ok (.iload_n 3, 1) := by decide +kernel
theorem dX8_goOn_32 : decode cX8_goOn 32 = .ok (.aload_n 0, 1) := by decide +kernel
theorem dX8_goOn_33 : decode cX8_goOn 33 = .ok (.getfield 83, 3) := by decide +kernel
theorem dX8_goOn_36 : decode cX8_goOn 36 = .ok (.if_icmp .ne 21, 3) := by decide +kernel
theorem dX8_goOn_39 : decode cX8_goOn 39 = .ok (.iload_n 2, 1) := by decide +kernel
theorem dX8_goOn_40 : decode cX8_goOn 40 = .ok (.ifCond .eq 17, 3) := by decide +kernel
theorem dX8_goOn_43 : decode cX8_goOn 43 = .ok (.aload_n 0, 1) := by decide +kernel
theorem dX8_goOn_44 : decode cX8_goOn 44 = .ok (.getfield 29, 3) := by decide +kernel
theorem dX8_goOn_47 : decode cX8_goOn 47 = .ok (.iload_n 3, 1) := by decide +kernel
theorem dX8_goOn_48 : decode cX8_goOn 48 = .ok (.iaload, 1) := by decide +kernel
theorem dX8_goOn_49 : decode cX8_goOn 49 = .ok (.ifCond .lt 8, 3) := by decide +kernel
theorem dX8_goOn_52 : decode cX8_goOn 52 = .ok (.aload_n 0, 1) := by decide +kernel
theorem dX8_goOn_53 : decode cX8_goOn 53 = .ok (.invokevirtual 184, 3) := by decide +kernel
theorem dX8_goOn_56 : decode cX8_goOn 56 = .ok (.istore_n 1, 1) := by decide +kernel
theorem dX8_goOn_57 : decode cX8_goOn 57 = .ok (.aload_n 0, 1) := by decide +kernel
theorem dX8_goOn_58 : decode cX8_goOn 58 = .ok (.iload_n 3, 1) := by decide +kernel
theorem dX8_goOn_59 : decode cX8_goOn 59 = .ok (.invokevirtual 188, 3) := by decide +kernel
theorem dX8_goOn_62 : decode cX8_goOn 62 = .ok (.ifCond .eq 65, 3) := by decide +kernel
theorem dX8_goOn_65 : decode cX8_goOn 65 = .ok (.iload_n 3, 1) := by decide +kernel
theorem dX8_goOn_66 : decode cX8_goOn 66 = .ok (.aload_n 0, 1) := by decide +kernel
theorem dX8_goOn_67 : decode cX8_goOn 67 = .ok (.getfield 92, 3) := by decide +kernel
theorem dX8_goOn_70 : decode cX8_goOn 70 = .ok (.if_icmp .ne 31, 3) := by decide +kernel
theorem dX8_goOn_73 : decode cX8_goOn 73 = .ok (.aload_n 0, 1) := by decide +kernel
theorem dX8_goOn_74 : decode cX8_goOn 74 = .ok (.getfield 32, 3) := by decide +kernel
theorem dX8_goOn_77 : decode cX8_goOn 77 = .ok (.iload_n 3, 1) := by decide +kernel
theorem dX8_goOn_78 : decode cX8_goOn 78 = .ok (.baload, 1) := by decide +kernel
theorem dX8_goOn_79 : decode cX8_goOn 79 = .ok (.ifCond .eq 22, 3) := by decide +kernel
theorem dX8_goOn_82 : decode cX8_goOn 82 = .ok (.aload_n 0, 1) := by decide +kernel
theorem dX8_goOn_83 : decode cX8_goOn 83 = .ok (.getfield 13, 3) := by decide +kernel
theorem dX8_goOn_86 : decode cX8_goOn 86 = .ok (.aload_n 0, 1) := by decide +kernel
theorem dX8_goOn_87 : decode cX8_goOn 87 = .ok (.getfield 29, 3) := by decide +kernel
theorem dX8_goOn_90 : decode cX8_goOn 90 = .ok (.iload_n 3, 1) := by decide +kernel
theorem dX8_goOn_91 : decode cX8_goOn 91 = .ok (.iaload, 1) := by decide +kernel
theorem dX8_goOn_92 : decode cX8_goOn 92 = .ok (.iaload, 1) := by decide +kernel
theorem dX8_goOn_93 : decode cX8_goOn 93 = .ok (.iconst 4, 1) := by decide +kernel
theorem dX8_goOn_94 : decode cX8_goOn 94 = .ok (.if_icmp .ne 7, 3) := by decide +kernel
theorem dX8_goOn_97 : decode cX8_goOn 97 = .ok (.iconst 1, 1) := by decide +kernel
theorem dX8_goOn_98 : decode cX8_goOn 98 = .ok (.goto 4, 3) := by decide +kernel
theorem dX8_goOn_101 : decode cX8_goOn 101 = .ok (.iconst 0, 1) := by decide +kernel
theorem dX8_goOn_102 : decode cX8_goOn 102 = .ok (.istore 4, 2) := by decide +kernel
theorem dX8_goOn_104 : decode cX8_goOn 104 = .ok (.aload_n 0, 1) := by decide +kernel
theorem dX8_goOn_105 : decode cX8_goOn 105 = .ok (.iload_n 3, 1) := by decide +kernel
theorem dX8_goOn_106 : decode cX8_goOn 106 = .ok (.invokevirtual 191, 3) := by decide +kernel
theorem dX8_goOn_109 : decode cX8_goOn 109 = .ok (.iload 4, 2) := by decide +kernel
theorem dX8_goOn_111 : decode cX8_goOn 111 = .ok (.ifCond .eq 16, 3) := by decide +kernel
theorem dX8_goOn_114 : decode cX8_goOn 114 = .ok (.aload_n 0, 1) := by decide +kernel
theorem dX8_goOn_115 : decode cX8_goOn 115 = .ok (.iload_n 3, 1) := by decide +kernel
theorem dX8_goOn_116 : decode cX8_goOn 116 = .ok (.aload_n 0, 1) := by decide +kernel
theorem dX8_goOn_117 : decode cX8_goOn 117 = .ok (.getfield 48, 3) := by decide +kernel
theorem dX8_goOn_120 : decode cX8_goOn 120 = .ok (.iload_n 3, 1) := by decide +kernel
theorem dX8_goOn_121 : decode cX8_goOn 121 = .ok (.iconst 1, 1) := by decide +kernel
theorem dX8_goOn_122 : decode cX8_goOn 122 = .ok (.iadd, 1) := by decide +kernel
theorem dX8_goOn_123 : decode cX8_goOn 123 = .ok (.iaload, 1) := by decide +kernel
theorem dX8_goOn_124 : decode cX8_goOn 124 = .ok (.invokevirtual 175, 3) := by decide +kernel
theorem dX8_goOn_127 : decode cX8_goOn 127 = .ok (.iinc 3 (-1), 3) := by decide +kernel
theorem dX8_goOn_130 : decode cX8_goOn 130 = .ok (.goto (-103), 3) := by decide +kernel
theorem dX8_goOn_133 : decode cX8_goOn 133 = .ok (.iload_n 1, 1) := by decide +kernel
theorem dX8_goOn_134 : decode cX8_goOn 134 = .ok (.ireturn, 1) := by decide +kernel
theorem dX8_plainRun_0 : decode cX8_plainRun 0 = .ok (.aload_n 0, 1) := by decide +kernel
theorem dX8_plainRun_1 : decode cX8_plainRun 1 = .ok (.getfield 51, 3) := by decide +kernel
theorem dX8_plainRun_4 : decode cX8_plainRun 4 = .ok (.aload_n 0, 1) := by decide +kernel
theorem dX8_plainRun_5 : decode cX8_plainRun 5 = .ok (.getfield 20, 3) := by decide +kernel
theorem dX8_plainRun_8 : decode cX8_plainRun 8 = .ok (.iload_n 1, 1) := by decide +kernel
theorem dX8_plainRun_9 : decode cX8_plainRun 9 = .ok (.iaload, 1) := by decide +kernel
theorem dX8_plainRun_10 : decode cX8_plainRun 10 = .ok (.iaload, 1) := by decide +kernel
theorem dX8_plainRun_11 : decode cX8_plainRun 11 = .ok (.istore_n 2, 1) := by decide +kernel
theorem dX8_plainRun_12 : decode cX8_plainRun 12 = .ok (.aload_n 0, 1) := by decide +kernel
theorem dX8_plainRun_13 : decode cX8_plainRun 13 = .ok (.getfield 51, 3) := by decide +kernel
theorem dX8_plainRun_16 : decode cX8_plainRun 16 = .ok (.aload_n 0, 1) := by decide +kernel
theorem dX8_plainRun_17 : decode cX8_plainRun 17 = .ok (.getfield 23, 3) := by decide +kernel
theorem dX8_plainRun_20 : decode cX8_plainRun 20 = .ok (.iload_n 1, 1) := by decide +kernel
theorem dX8_plainRun_21 : decode cX8_plainRun 21 = .ok (.iaload, 1) := by decide +kernel
theorem dX8_plainRun_22 : decode cX8_plainRun 22 = .ok (.iaload, 1) := by decide +kernel
theorem dX8_plainRun_23 : decode cX8_plainRun 23 = .ok (.istore_n 3, 1) := by decide +kernel
theorem dX8_plainRun_24 : decode cX8_plainRun 24 = .ok (.aload_n 0, 1) := by decide +kernel
theorem dX8_plainRun_25 : decode cX8_plainRun 25 = .ok (.getfield 42, 3) := by decide +kernel
theorem dX8_plainRun_28 : decode cX8_plainRun 28 = .ok (.iconst 0, 1) := by decide +kernel
theorem dX8_plainRun_29 : decode cX8_plainRun 29 = .ok (.iconst 0, 1) := by decide +kernel
theorem dX8_plainRun_30 : decode cX8_plainRun 30 = .ok (.iastore, 1) := by decide +kernel
theorem dX8_plainRun_31 : decode cX8_plainRun 31 = .ok (.aload_n 0, 1) := by decide +kernel
theorem dX8_plainRun_32 : decode cX8_plainRun 32 = .ok (.getfield 45, 3) := by decide +kernel
theorem dX8_plainRun_35 : decode cX8_plainRun 35 = .ok (.iconst 0, 1) := by decide +kernel
theorem dX8_plainRun_36 : decode cX8_plainRun 36 = .ok (.iload_n 2, 1) := by decide +kernel
theorem dX8_plainRun_37 : decode cX8_plainRun 37 = .ok (.bipush 64, 2) := by decide +kernel
theorem dX8_plainRun_39 : decode cX8_plainRun 39 = .ok (.invokestatic 75, 3) := by decide +kernel
theorem dX8_plainRun_42 : decode cX8_plainRun 42 = .ok (.iastore, 1) := by decide +kernel
theorem dX8_plainRun_43 : decode cX8_plainRun 43 = .ok (.aload_n 0, 1) := by decide +kernel
theorem dX8_plainRun_44 : decode cX8_plainRun 44 = .ok (.getfield 48, 3) := by decide +kernel
theorem dX8_plainRun_47 : decode cX8_plainRun 47 = .ok (.iconst 0, 1) := by decide +kernel
theorem dX8_plainRun_48 : decode cX8_plainRun 48 = .ok (.iconst (-1), 1) := by decide +kernel
theorem dX8_plainRun_49 : decode cX8_plainRun 49 = .ok (.iastore, 1) := by decide +kernel
theorem dX8_plainRun_50 : decode cX8_plainRun 50 = .ok (.aload_n 0, 1) := by decide +kernel
theorem dX8_plainRun_51 : decode cX8_plainRun 51 = .ok (.getfield 13, 3) := by decide +kernel
theorem dX8_plainRun_54 : decode cX8_plainRun 54 = .ok (.iload_n 1, 1) := by decide +kernel
theorem dX8_plainRun_55 : decode cX8_plainRun 55 = .ok (.iaload, 1) := by decide +kernel
theorem dX8_plainRun_56 : decode cX8_plainRun 56 = .ok (.ifCond .ne 19, 3) := by decide +kernel
theorem dX8_plainRun_59 : decode cX8_plainRun 59 = .ok (.aload_n 0, 1) := by decide +kernel
theorem dX8_plainRun_60 : decode cX8_plainRun 60 = .ok (.getfield 42, 3) := by decide +kernel
theorem dX8_plainRun_63 : decode cX8_plainRun 63 = .ok (.iconst 0, 1) := by decide +kernel
theorem dX8_plainRun_64 : decode cX8_plainRun 64 = .ok (.iload_n 2, 1) := by decide +kernel
theorem dX8_plainRun_65 : decode cX8_plainRun 65 = .ok (.iload_n 3, 1) := by decide +kernel
theorem dX8_plainRun_66 : decode cX8_plainRun 66 = .ok (.iadd, 1) := by decide +kernel
theorem dX8_plainRun_67 : decode cX8_plainRun 67 = .ok (.aload_n 0, 1) := by decide +kernel
theorem dX8_plainRun_68 : decode cX8_plainRun 68 = .ok (.getfield 26, 3) := by decide +kernel
theorem dX8_plainRun_71 : decode cX8_plainRun 71 = .ok (.iload_n 1, 1) := by decide +kernel
theorem dX8_plainRun_72 : decode cX8_plainRun 72 = .ok (.iaload, 1) := by decide +kernel
theorem dX8_plainRun_73 : decode cX8_plainRun 73 = .ok (.iadd, 1) := by decide +kernel
theorem dX8_plainRun_74 : decode cX8_plainRun 74 = .ok (.iastore, 1) := by decide +kernel
theorem dX8_plainRun_75 : decode cX8_plainRun 75 = .ok (.aload_n 0, 1) := by decide +kernel
theorem dX8_plainRun_76 : decode cX8_plainRun 76 = .ok (.getfield 13, 3) := by decide +kernel
theorem dX8_plainRun_79 : decode cX8_plainRun 79 = .ok (.iload_n 1, 1) := by decide +kernel
theorem dX8_plainRun_80 : decode cX8_plainRun 80 = .ok (.iaload, 1) := by decide +kernel
theorem dX8_plainRun_81 : decode cX8_plainRun 81 = .ok (.iconst 1, 1) := by decide +kernel
theorem dX8_plainRun_82 : decode cX8_plainRun 82 = .ok (.if_icmp .ne 20, 3) := by decide +kernel
theorem dX8_plainRun_85 : decode cX8_plainRun 85 = .ok (.aload_n 0, 1) := by decide +kernel
theorem dX8_plainRun_86 : decode cX8_plainRun 86 = .ok (.getfield 42, 3) := by decide +kernel
theorem dX8_plainRun_89 : decode cX8_plainRun 89 = .ok (.iconst 0, 1) := by decide +kernel
theorem dX8_plainRun_90 : decode cX8_plainRun 90 = .ok (.aload_n 0, 1) := by decide +kernel
theorem dX8_plainRun_91 : decode cX8_plainRun 91 = .ok (.getfield 54, 3) := by decide +kernel
theorem dX8_plainRun_94 : decode cX8_plainRun 94 = .ok (.aload_n 0, 1) := by decide +kernel
theorem dX8_plainRun_95 : decode cX8_plainRun 95 = .ok (.getfield 45, 3) := by decide +kernel
theorem dX8_plainRun_98 : decode cX8_plainRun 98 = .ok (.iconst 0, 1) := by decide +kernel
theorem dX8_plainRun_99 : decode cX8_plainRun 99 = .ok (.iaload, 1) := by decide +kernel
theorem dX8_plainRun_100 : decode cX8_plainRun 100 = .ok (.iaload, 1) := by decide +kernel
theorem dX8_plainRun_101 : decode cX8_plainRun 101 = .ok (.iastore, 1) := by decide +kernel
theorem dX8_plainRun_102 : decode cX8_plainRun 102 = .ok (.aload_n 0, 1) := by decide +kernel
theorem dX8_plainRun_103 : decode cX8_plainRun 103 = .ok (.getfield 13, 3) := by decide +kernel
theorem dX8_plainRun_106 : decode cX8_plainRun 106 = .ok (.iload_n 1, 1) := by decide +kernel
theorem dX8_plainRun_107 : decode cX8_plainRun 107 = .ok (.iaload, 1) := by decide +kernel
theorem dX8_plainRun_108 : decode cX8_plainRun 108 = .ok (.iconst 3, 1) := by decide +kernel
theorem dX8_plainRun_109 : decode cX8_plainRun 109 = .ok (.if_icmp .ne 12, 3) := by decide +kernel
theorem dX8_plainRun_112 : decode cX8_plainRun 112 = .ok (.aload_n 0, 1) := by decide +kernel
theorem dX8_plainRun_113 : decode cX8_plainRun 113 = .ok (.getfield 42, 3) := by decide +kernel
theorem dX8_plainRun_116 : decode cX8_plainRun 116 = .ok (.iconst 0, 1) := by decide +kernel
theorem dX8_plainRun_117 : decode cX8_plainRun 117 = .ok (.iload_n 2, 1) := by decide +kernel
theorem dX8_plainRun_118 : decode cX8_plainRun 118 = .ok (.iload_n 3, 1) := by decide +kernel
theorem dX8_plainRun_119 : decode cX8_plainRun 119 = .ok (.imul, 1) := by decide +kernel
theorem dX8_plainRun_120 : decode cX8_plainRun 120 = .ok (.iastore, 1) := by decide +kernel
theorem dX8_plainRun_121 : decode cX8_plainRun 121 = .ok (.aload_n 0, 1) := by decide +kernel
theorem dX8_plainRun_122 : decode cX8_plainRun 122 = .ok (.getfield 13, 3) := by decide +kernel
theorem dX8_plainRun_125 : decode cX8_plainRun 125 = .ok (.iload_n 1, 1) := by decide +kernel
theorem dX8_plainRun_126 : decode cX8_plainRun 126 = .ok (.iaload, 1) := by decide +kernel
theorem dX8_plainRun_127 : decode cX8_plainRun 127 = .ok (.bipush 7, 2) := by decide +kernel
theorem dX8_plainRun_129 : decode cX8_plainRun 129 = .ok (.if_icmp .ne 15, 3) := by decide +kernel
theorem dX8_plainRun_132 : decode cX8_plainRun 132 = .ok (.aload_n 0, 1) := by decide +kernel
theorem dX8_plainRun_133 : decode cX8_plainRun 133 = .ok (.getfield 42, 3) := by decide +kernel
theorem dX8_plainRun_136 : decode cX8_plainRun 136 = .ok (.iconst 0, 1) := by decide +kernel
theorem dX8_plainRun_137 : decode cX8_plainRun 137 = .ok (.aload_n 0, 1) := by decide +kernel
theorem dX8_plainRun_138 : decode cX8_plainRun 138 = .ok (.getfield 26, 3) := by decide +kernel
theorem dX8_plainRun_141 : decode cX8_plainRun 141 = .ok (.iload_n 1, 1) := by decide +kernel
theorem dX8_plainRun_142 : decode cX8_plainRun 142 = .ok (.iaload, 1) := by decide +kernel
theorem dX8_plainRun_143 : decode cX8_plainRun 143 = .ok (.iastore, 1) := by decide +kernel
theorem dX8_plainRun_144 : decode cX8_plainRun 144 = .ok (.aload_n 0, 1) := by decide +kernel
theorem dX8_plainRun_145 : decode cX8_plainRun 145 = .ok (.getfield 13, 3) := by decide +kernel
theorem dX8_plainRun_148 : decode cX8_plainRun 148 = .ok (.iload_n 1, 1) := by decide +kernel
theorem dX8_plainRun_149 : decode cX8_plainRun 149 = .ok (.iaload, 1) := by decide +kernel
theorem dX8_plainRun_150 : decode cX8_plainRun 150 = .ok (.iconst 2, 1) := by decide +kernel
theorem dX8_plainRun_151 : decode cX8_plainRun 151 = .ok (.if_icmp .ne 22, 3) := by decide +kernel
theorem dX8_plainRun_154 : decode cX8_plainRun 154 = .ok (.aload_n 0, 1) := by decide +kernel
theorem dX8_plainRun_155 : decode cX8_plainRun 155 = .ok (.getfield 42, 3) := by decide +kernel
theorem dX8_plainRun_158 : decode cX8_plainRun 158 = .ok (.iconst 0, 1) := by decide +kernel
theorem dX8_plainRun_159 : decode cX8_plainRun 159 = .ok (.iload_n 3, 1) := by decide +kernel
theorem dX8_plainRun_160 : decode cX8_plainRun 160 = .ok (.iastore, 1) := by decide +kernel
theorem dX8_plainRun_161 : decode cX8_plainRun 161 = .ok (.aload_n 0, 1) := by decide +kernel
theorem dX8_plainRun_162 : decode cX8_plainRun 162 = .ok (.getfield 54, 3) := by decide +kernel
theorem dX8_plainRun_165 : decode cX8_plainRun 165 = .ok (.aload_n 0, 1) := by decide +kernel
theorem dX8_plainRun_166 : decode cX8_plainRun 166 = .ok (.getfield 45, 3) := by decide +kernel
theorem dX8_plainRun_169 : decode cX8_plainRun 169 = .ok (.iconst 0, 1) := by decide +kernel
theorem dX8_plainRun_170 : decode cX8_plainRun 170 = .ok (.iaload, 1) := by decide +kernel
theorem dX8_plainRun_171 : decode cX8_plainRun 171 = .ok (.iload_n 3, 1) := by decide +kernel
theorem dX8_plainRun_172 : decode cX8_plainRun 172 = .ok (.iastore, 1) := by decide +kernel
theorem dX8_plainRun_173 : decode cX8_plainRun 173 = .ok (.aload_n 0, 1) := by decide +kernel
theorem dX8_plainRun_174 : decode cX8_plainRun 174 = .ok (.iload_n 1, 1) := by decide +kernel
theorem dX8_plainRun_175 : decode cX8_plainRun 175 = .ok (.invokevirtual 152, 3) := by decide +kernel
theorem dX8_plainRun_178 : decode cX8_plainRun 178 = .ok (.ifCond .eq 20, 3) := by decide +kernel
theorem dX8_plainRun_181 : decode cX8_plainRun 181 = .ok (.aload_n 0, 1) := by decide +kernel
theorem dX8_plainRun_182 : decode cX8_plainRun 182 = .ok (.getfield 51, 3) := by decide +kernel
theorem dX8_plainRun_185 : decode cX8_plainRun 185 = .ok (.aload_n 0, 1) := by decide +kernel
theorem dX8_plainRun_186 : decode cX8_plainRun 186 = .ok (.getfield 17, 3) := by decide +kernel
theorem dX8_plainRun_189 : decode cX8_plainRun 189 = .ok (.iload_n 1, 1) := by decide +kernel
theorem dX8_plainRun_190 : decode cX8_plainRun 190 = .ok (.iaload, 1) := by decide +kernel
theorem dX8_plainRun_191 : decode cX8_plainRun 191 = .ok (.aload_n 0, 1) := by decide +kernel
theorem dX8_plainRun_192 : decode cX8_plainRun 192 = .ok (.getfield 42, 3) := by decide +kernel
theorem dX8_plainRun_195 : decode cX8_plainRun 195 = .ok (.iconst 0, 1) := by decide +kernel
theorem dX8_plainRun_196 : decode cX8_plainRun 196 = .ok (.iaload, 1) := by decide +kernel
theorem dX8_plainRun_197 : decode cX8_plainRun 197 = .ok (.iastore, 1) := by decide +kernel
theorem dX8_plainRun_198 : decode cX8_plainRun 198 = .ok (.aload_n 0, 1) := by decide +kernel
theorem dX8_plainRun_199 : decode cX8_plainRun 199 = .ok (.getfield 13, 3) := by decide +kernel
theorem dX8_plainRun_202 : decode cX8_plainRun 202 = .ok (.iload_n 1, 1) := by decide +kernel
theorem dX8_plainRun_203 : decode cX8_plainRun 203 = .ok (.iaload, 1) := by decide +kernel
theorem dX8_plainRun_204 : decode cX8_plainRun 204 = .ok (.iconst 4, 1) := by decide +kernel
theorem dX8_plainRun_205 : decode cX8_plainRun 205 = .ok (.if_icmp .ne 26, 3) := by decide +kernel
theorem dX8_plainRun_208 : decode cX8_plainRun 208 = .ok (.iload_n 2, 1) := by decide +kernel
theorem dX8_plainRun_209 : decode cX8_plainRun 209 = .ok (.ifCond .eq 22, 3) := by decide +kernel
theorem dX8_plainRun_212 : decode cX8_plainRun 212 = .ok (.aload_n 0, 1) := by decide +kernel
theorem dX8_plainRun_213 : decode cX8_plainRun 213 = .ok (.getfield 48, 3) := by decide +kernel
theorem dX8_plainRun_216 : decode cX8_plainRun 216 = .ok (.iconst 0, 1) := by decide +kernel
theorem dX8_plainRun_217 : decode cX8_plainRun 217 = .ok (.aload_n 0, 1) := by decide +kernel
theorem dX8_plainRun_218 : decode cX8_plainRun 218 = .ok (.getfield 26, 3) := by decide +kernel
theorem dX8_plainRun_221 : decode cX8_plainRun 221 = .ok (.iload_n 1, 1) := by decide +kernel
theorem dX8_plainRun_222 : decode cX8_plainRun 222 = .ok (.iaload, 1) := by decide +kernel
theorem dX8_plainRun_223 : decode cX8_plainRun 223 = .ok (.aload_n 0, 1) := by decide +kernel
theorem dX8_plainRun_224 : decode cX8_plainRun 224 = .ok (.getfield 104, 3) := by decide +kernel
theorem dX8_plainRun_227 : decode cX8_plainRun 227 = .ok (.invokestatic 75, 3) := by decide +kernel
theorem dX8_plainRun_230 : decode cX8_plainRun 230 = .ok (.iastore, 1) := by decide +kernel
theorem dX8_plainRun_231 : decode cX8_plainRun 231 = .ok (.aload_n 0, 1) := by decide +kernel
theorem dX8_plainRun_232 : decode cX8_plainRun 232 = .ok (.getfield 13, 3) := by decide +kernel
theorem dX8_plainRun_235 : decode cX8_plainRun 235 = .ok (.iload_n 1, 1) := by decide +kernel
theorem dX8_plainRun_236 : decode cX8_plainRun 236 = .ok (.iaload, 1) := by decide +kernel
theorem dX8_plainRun_237 : decode cX8_plainRun 237 = .ok (.bipush 6, 2) := by decide +kernel
theorem dX8_plainRun_239 : decode cX8_plainRun 239 = .ok (.if_icmp .ne 8, 3) := by decide +kernel
theorem dX8_plainRun_242 : decode cX8_plainRun 242 = .ok (.aload_n 0, 1) := by decide +kernel
theorem dX8_plainRun_243 : decode cX8_plainRun 243 = .ok (.iconst 1, 1) := by decide +kernel
theorem dX8_plainRun_244 : decode cX8_plainRun 244 = .ok (.putfield 113, 3) := by decide +kernel
theorem dX8_plainRun_247 : decode cX8_plainRun 247 = .ok (.aload_n 0, 1) := by decide +kernel
theorem dX8_plainRun_248 : decode cX8_plainRun 248 = .ok (.getfield 13, 3) := by decide +kernel
theorem dX8_plainRun_251 : decode cX8_plainRun 251 = .ok (.iload_n 1, 1) := by decide +kernel
theorem dX8_plainRun_252 : decode cX8_plainRun 252 = .ok (.iaload, 1) := by decide +kernel
theorem dX8_plainRun_253 : decode cX8_plainRun 253 = .ok (.iconst 5, 1) := by decide +kernel
theorem dX8_plainRun_254 : decode cX8_plainRun 254 = .ok (.if_icmp .eq 12, 3) := by decide +kernel
theorem dX8_plainRun_257 : decode cX8_plainRun 257 = .ok (.aload_n 0, 1) := by decide +kernel
theorem dX8_plainRun_258 : decode cX8_plainRun 258 = .ok (.getfield 48, 3) := by decide +kernel
theorem dX8_plainRun_261 : decode cX8_plainRun 261 = .ok (.iconst 0, 1) := by decide +kernel
theorem dX8_plainRun_262 : decode cX8_plainRun 262 = .ok (.iaload, 1) := by decide +kernel
theorem dX8_plainRun_263 : decode cX8_plainRun 263 = .ok (.ifCond .lt 8, 3) := by decide +kernel
theorem dX8_plainRun_266 : decode cX8_plainRun 266 = .ok (.aload_n 0, 1) := by decide +kernel
theorem dX8_plainRun_267 : decode cX8_plainRun 267 = .ok (.iconst 1, 1) := by decide +kernel
theorem dX8_plainRun_268 : decode cX8_plainRun 268 = .ok (.putfield 110, 3) := by decide +kernel
theorem dX8_plainRun_271 : decode cX8_plainRun 271 = .ok (.return_, 1) := by decide +kernel
theorem dX8_fetch_0 : decode cX8_fetch 0 = .ok (.aload_n 0, 1) := by decide +kernel
theorem dX8_fetch_1 : decode cX8_fetch 1 = .ok (.getfield 164, 3) := by decide +kernel
theorem dX8_fetch_4 : decode cX8_fetch 4 = .ok (.ifCond .eq 19, 3) := by decide +kernel
theorem dX8_fetch_7 : decode cX8_fetch 7 = .ok (.aload_n 0, 1) := by decide +kernel
theorem dX8_fetch_8 : decode cX8_fetch 8 = .ok (.getfield 29, 3) := by decide +kernel
theorem dX8_fetch_11 : decode cX8_fetch 11 = .ok (.iconst 0, 1) := by decide +kernel
theorem dX8_fetch_12 : decode cX8_fetch 12 = .ok (.iaload, 1) := by decide +kernel
theorem dX8_fetch_13 : decode cX8_fetch 13 = .ok (.ifCond .ge 10, 3) := by decide +kernel
theorem dX8_fetch_16 : decode cX8_fetch 16 = .ok (.aload_n 0, 1) := by decide +kernel
theorem dX8_fetch_17 : decode cX8_fetch 17 = .ok (.getfield 113, 3) := by decide +kernel
theorem dX8_fetch_20 : decode cX8_fetch 20 = .ok (.ifCond .eq 4, 3) := by decide +kernel
theorem dX8_fetch_23 : decode cX8_fetch 23 = .ok (.return_, 1) := by decide +kernel
theorem dX8_fetch_24 : decode cX8_fetch 24 = .ok (.aload_n 0, 1) := by decide +kernel
theorem dX8_fetch_25 : decode cX8_fetch 25 = .ok (.getfield 107, 3) := by decide +kernel
theorem dX8_fetch_28 : decode cX8_fetch 28 = .ok (.istore_n 1, 1) := by decide +kernel
theorem dX8_fetch_29 : decode cX8_fetch 29 = .ok (.aload_n 0, 1) := by decide +kernel
theorem dX8_fetch_30 : decode cX8_fetch 30 = .ok (.aload_n 0, 1) := by decide +kernel
theorem dX8_fetch_31 : decode cX8_fetch 31 = .ok (.getfield 107, 3) := by decide +kernel
theorem dX8_fetch_34 : decode cX8_fetch 34 = .ok (.iconst 1, 1) := by decide +kernel
theorem dX8_fetch_35 : decode cX8_fetch 35 = .ok (.iadd, 1) := by decide +kernel
theorem dX8_fetch_36 : decode cX8_fetch 36 = .ok (.aload_n 0, 1) := by decide +kernel
theorem dX8_fetch_37 : decode cX8_fetch 37 = .ok (.getfield 104, 3) := by decide +kernel
theorem dX8_fetch_40 : decode cX8_fetch 40 = .ok (.irem, 1) := by decide +kernel
theorem dX8_fetch_41 : decode cX8_fetch 41 = .ok (.putfield 107, 3) := by decide +kernel
theorem dX8_fetch_44 : decode cX8_fetch 44 = .ok (.aload_n 0, 1) := by decide +kernel
theorem dX8_fetch_45 : decode cX8_fetch 45 = .ok (.dup, 1) := by decide +kernel
theorem dX8_fetch_46 : decode cX8_fetch 46 = .ok (.getfield 125, 3) := by decide +kernel
theorem dX8_fetch_49 : decode cX8_fetch 49 = .ok (.iconst 1, 1) := by decide +kernel
theorem dX8_fetch_50 : decode cX8_fetch 50 = .ok (.iadd, 1) := by decide +kernel
theorem dX8_fetch_51 : decode cX8_fetch 51 = .ok (.putfield 125, 3) := by decide +kernel
theorem dX8_fetch_54 : decode cX8_fetch 54 = .ok (.aload_n 0, 1) := by decide +kernel
theorem dX8_fetch_55 : decode cX8_fetch 55 = .ok (.getfield 29, 3) := by decide +kernel
theorem dX8_fetch_58 : decode cX8_fetch 58 = .ok (.iconst 0, 1) := by decide +kernel
theorem dX8_fetch_59 : decode cX8_fetch 59 = .ok (.iload_n 1, 1) := by decide +kernel
theorem dX8_fetch_60 : decode cX8_fetch 60 = .ok (.iastore, 1) := by decide +kernel
theorem dX8_fetch_61 : decode cX8_fetch 61 = .ok (.aload_n 0, 1) := by decide +kernel
theorem dX8_fetch_62 : decode cX8_fetch 62 = .ok (.getfield 32, 3) := by decide +kernel
theorem dX8_fetch_65 : decode cX8_fetch 65 = .ok (.iconst 0, 1) := by decide +kernel
theorem dX8_fetch_66 : decode cX8_fetch 66 = .ok (.aload_n 0, 1) := by decide +kernel
theorem dX8_fetch_67 : decode cX8_fetch 67 = .ok (.getfield 110, 3) := by decide +kernel
theorem dX8_fetch_70 : decode cX8_fetch 70 = .ok (.ifCond .ne 7, 3) := by decide +kernel
theorem dX8_fetch_73 : decode cX8_fetch 73 = .ok (.iconst 1, 1) := by decide +kernel
theorem dX8_fetch_74 : decode cX8_fetch 74 = .ok (.goto 4, 3) := by decide +kernel
theorem dX8_fetch_77 : decode cX8_fetch 77 = .ok (.iconst 0, 1) := by decide +kernel
theorem dX8_fetch_78 : decode cX8_fetch 78 = .ok (.bastore, 1) := by decide +kernel
theorem dX8_fetch_79 : decode cX8_fetch 79 = .ok (.aload_n 0, 1) := by decide +kernel
theorem dX8_fetch_80 : decode cX8_fetch 80 = .ok (.getfield 36, 3) := by decide +kernel
theorem dX8_fetch_83 : decode cX8_fetch 83 = .ok (.iconst 0, 1) := by decide +kernel
theorem dX8_fetch_84 : decode cX8_fetch 84 = .ok (.iconst 0, 1) := by decide +kernel
theorem dX8_fetch_85 : decode cX8_fetch 85 = .ok (.bastore, 1) := by decide +kernel
theorem dX8_fetch_86 : decode cX8_fetch 86 = .ok (.aload_n 0, 1) := by decide +kernel
theorem dX8_fetch_87 : decode cX8_fetch 87 = .ok (.getfield 39, 3) := by decide +kernel
theorem dX8_fetch_90 : decode cX8_fetch 90 = .ok (.iconst 0, 1) := by decide +kernel
theorem dX8_fetch_91 : decode cX8_fetch 91 = .ok (.iconst 0, 1) := by decide +kernel
theorem dX8_fetch_92 : decode cX8_fetch 92 = .ok (.iastore, 1) := by decide +kernel
theorem dX8_fetch_93 : decode cX8_fetch 93 = .ok (.aload_n 0, 1) := by decide +kernel
theorem dX8_fetch_94 : decode cX8_fetch 94 = .ok (.getfield 32, 3) := by decide +kernel
theorem dX8_fetch_97 : decode cX8_fetch 97 = .ok (.iconst 0, 1) := by decide +kernel
theorem dX8_fetch_98 : decode cX8_fetch 98 = .ok (.baload, 1) := by decide +kernel
theorem dX8_fetch_99 : decode cX8_fetch 99 = .ok (.ifCond .eq 8, 3) := by decide +kernel
theorem dX8_fetch_102 : decode cX8_fetch 102 = .ok (.aload_n 0, 1) := by decide +kernel
theorem dX8_fetch_103 : decode cX8_fetch 103 = .ok (.iload_n 1, 1) := by decide +kernel
theorem dX8_fetch_104 : decode cX8_fetch 104 = .ok (.invokevirtual 194, 3) := by decide +kernel
theorem dX8_fetch_107 : decode cX8_fetch 107 = .ok (.return_, 1) := by decide +kernel
theorem dX8_cycle_0 : decode cX8_cycle 0 = .ok (.aload_n 0, 1) := by decide +kernel
theorem dX8_cycle_1 : decode cX8_cycle 1 = .ok (.dup, 1) := by decide +kernel
theorem dX8_cycle_2 : decode cX8_cycle 2 = .ok (.getfield 119, 3) := by decide +kernel
theorem dX8_cycle_5 : decode cX8_cycle 5 = .ok (.iconst 1, 1) := by decide +kernel
theorem dX8_cycle_6 : decode cX8_cycle 6 = .ok (.iadd, 1) := by decide +kernel
theorem dX8_cycle_7 : decode cX8_cycle 7 = .ok (.putfield 119, 3) := by decide +kernel
theorem dX8_cycle_10 : decode cX8_cycle 10 = .ok (.aload_n 0, 1) := by decide +kernel
theorem dX8_cycle_11 : decode cX8_cycle 11 = .ok (.iconst 1, 1) := by decide +kernel
theorem dX8_cycle_12 : decode cX8_cycle 12 = .ok (.putfield 164, 3) := by decide +kernel
theorem dX8_cycle_15 : decode cX8_cycle 15 = .ok (.aload_n 0, 1) := by decide +kernel
theorem dX8_cycle_16 : decode cX8_cycle 16 = .ok (.invokevirtual 197, 3) := by decide +kernel
theorem dX8_cycle_19 : decode cX8_cycle 19 = .ok (.istore_n 1, 1) := by decide +kernel
theorem dX8_cycle_20 : decode cX8_cycle 20 = .ok (.aload_n 0, 1) := by decide +kernel
theorem dX8_cycle_21 : decode cX8_cycle 21 = .ok (.getfield 116, 3) := by decide +kernel
theorem dX8_cycle_24 : decode cX8_cycle 24 = .ok (.ifCond .ne 23, 3) := by decide +kernel
theorem dX8_cycle_27 : decode cX8_cycle 27 = .ok (.aload_n 0, 1) := by decide +kernel
theorem dX8_cycle_28 : decode cX8_cycle 28 = .ok (.invokevirtual 200, 3) := by decide +kernel
theorem dX8_cycle_31 : decode cX8_cycle 31 = .ok (.istore_n 2, 1) := by decide +kernel
theorem dX8_cycle_32 : decode cX8_cycle 32 = .ok (.iload_n 1, 1) := by decide +kernel
theorem dX8_cycle_33 : decode cX8_cycle 33 = .ok (.iconst 4, 1) := by decide +kernel
theorem dX8_cycle_34 : decode cX8_cycle 34 = .ok (.if_icmp .ge 7, 3) := by decide +kernel
theorem dX8_cycle_37 : decode cX8_cycle 37 = .ok (.iload_n 1, 1) := by decide +kernel
theorem dX8_cycle_38 : decode cX8_cycle 38 = .ok (.goto 4, 3) := by decide +kernel
theorem dX8_cycle_41 : decode cX8_cycle 41 = .ok (.iload_n 2, 1) := by decide +kernel
theorem dX8_cycle_42 : decode cX8_cycle 42 = .ok (.istore_n 1, 1) := by decide +kernel
theorem dX8_cycle_43 : decode cX8_cycle 43 = .ok (.aload_n 0, 1) := by decide +kernel
theorem dX8_cycle_44 : decode cX8_cycle 44 = .ok (.invokevirtual 203, 3) := by decide +kernel
theorem dX8_cycle_47 : decode cX8_cycle 47 = .ok (.aload_n 0, 1) := by decide +kernel
theorem dX8_cycle_48 : decode cX8_cycle 48 = .ok (.getfield 63, 3) := by decide +kernel
theorem dX8_cycle_51 : decode cX8_cycle 51 = .ok (.iload_n 1, 1) := by decide +kernel
theorem dX8_cycle_52 : decode cX8_cycle 52 = .ok (.dup2, 1) := by decide +kernel
theorem dX8_cycle_53 : decode cX8_cycle 53 = .ok (.iaload, 1) := by decide +kernel
theorem dX8_cycle_54 : decode cX8_cycle 54 = .ok (.iconst 1, 1) := by decide +kernel
theorem dX8_cycle_55 : decode cX8_cycle 55 = .ok (.iadd, 1) := by decide +kernel
theorem dX8_cycle_56 : decode cX8_cycle 56 = .ok (.iastore, 1) := by decide +kernel
theorem dX8_cycle_57 : decode cX8_cycle 57 = .ok (.return_, 1) := by decide +kernel
theorem dX8_run_0 : decode cX8_run 0 = .ok (.aload_n 0, 1) := by decide +kernel
theorem dX8_run_1 : decode cX8_run 1 = .ok (.iconst 0, 1) := by decide +kernel
theorem dX8_run_2 : decode cX8_run 2 = .ok (.putfield 101, 3) := by decide +kernel
theorem dX8_run_5 : decode cX8_run 5 = .ok (.iload_n 1, 1) := by decide +kernel
theorem dX8_run_6 : decode cX8_run 6 = .ok (.iconst 1, 1) := by decide +kernel
theorem dX8_run_7 : decode cX8_run 7 = .ok (.sipush 2000, 3) := by decide +kernel
theorem dX8_run_10 : decode cX8_run 10 = .ok (.invokestatic 137, 3) := by decide +kernel
theorem dX8_run_13 : decode cX8_run 13 = .ok (.ifCond .ne 9, 3) := by decide +kernel
theorem dX8_run_16 : decode cX8_run 16 = .ok (.aload_n 0, 1) := by decide +kernel
theorem dX8_run_17 : decode cX8_run 17 = .ok (.iconst 1, 1) := by decide +kernel
theorem dX8_run_18 : decode cX8_run 18 = .ok (.invokevirtual 145, 3) := by decide +kernel
theorem dX8_run_21 : decode cX8_run 21 = .ok (.ireturn, 1) := by decide +kernel
theorem dX8_run_22 : decode cX8_run 22 = .ok (.aload_n 0, 1) := by decide +kernel
theorem dX8_run_23 : decode cX8_run 23 = .ok (.getfield 104, 3) := by decide +kernel
theorem dX8_run_26 : decode cX8_run 26 = .ok (.ifCond .ne 9, 3) := by decide +kernel
theorem dX8_run_29 : decode cX8_run 29 = .ok (.aload_n 0, 1) := by decide +kernel
theorem dX8_run_30 : decode cX8_run 30 = .ok (.iconst 2, 1) := by decide +kernel
theorem dX8_run_31 : decode cX8_run 31 = .ok (.invokevirtual 145, 3) := by decide +kernel
theorem dX8_run_34 : decode cX8_run 34 = .ok (.ireturn, 1) := by decide +kernel
theorem dX8_run_35 : decode cX8_run 35 = .ok (.iconst 0, 1) := by decide +kernel
theorem dX8_run_36 : decode cX8_run 36 = .ok (.istore_n 2, 1) := by decide +kernel
theorem dX8_run_37 : decode cX8_run 37 = .ok (.iload_n 2, 1) := by decide +kernel
theorem dX8_run_38 : decode cX8_run 38 = .ok (.iload_n 1, 1) := by decide +kernel
theorem dX8_run_39 : decode cX8_run 39 = .ok (.if_icmp .ge 20, 3) := by decide +kernel
theorem dX8_run_42 : decode cX8_run 42 = .ok (.aload_n 0, 1) := by decide +kernel
theorem dX8_run_43 : decode cX8_run 43 = .ok (.getfield 116, 3) := by decide +kernel
theorem dX8_run_46 : decode cX8_run 46 = .ok (.ifCond .ne 13, 3) := by decide +kernel
theorem dX8_run_49 : decode cX8_run 49 = .ok (.aload_n 0, 1) := by decide +kernel
theorem dX8_run_50 : decode cX8_run 50 = .ok (.invokevirtual 206, 3) := by decide +kernel
theorem dX8_run_53 : decode cX8_run 53 = .ok (.iinc 2 1, 3) := by decide +kernel
theorem dX8_run_56 : decode cX8_run 56 = .ok (.goto (-19), 3) := by decide +kernel
theorem dX8_run_59 : decode cX8_run 59 = .ok (.iload_n 2, 1) := by decide +kernel
theorem dX8_run_60 : decode cX8_run 60 = .ok (.ireturn, 1) := by decide +kernel
theorem dX8_stage_0 : decode cX8_stage 0 = .ok (.aload_n 0, 1) := by decide +kernel
theorem dX8_stage_1 : decode cX8_stage 1 = .ok (.iconst 0, 1) := by decide +kernel
theorem dX8_stage_2 : decode cX8_stage 2 = .ok (.putfield 101, 3) := by decide +kernel
theorem dX8_stage_5 : decode cX8_stage 5 = .ok (.iload_n 1, 1) := by decide +kernel
theorem dX8_stage_6 : decode cX8_stage 6 = .ok (.iconst 0, 1) := by decide +kernel
theorem dX8_stage_7 : decode cX8_stage 7 = .ok (.aload_n 0, 1) := by decide +kernel
theorem dX8_stage_8 : decode cX8_stage 8 = .ok (.getfield 79, 3) := by decide +kernel
theorem dX8_stage_11 : decode cX8_stage 11 = .ok (.iconst 1, 1) := by decide +kernel
theorem dX8_stage_12 : decode cX8_stage 12 = .ok (.isub, 1) := by decide +kernel
theorem dX8_stage_13 : decode cX8_stage 13 = .ok (.invokestatic 137, 3) := by decide +kernel
theorem dX8_stage_16 : decode cX8_stage 16 = .ok (.ifCond .eq 12, 3) := by decide +kernel
theorem dX8_stage_19 : decode cX8_stage 19 = .ok (.iload_n 2, 1) := by decide +kernel
theorem dX8_stage_20 : decode cX8_stage 20 = .ok (.iconst 0, 1) := by decide +kernel
theorem dX8_stage_21 : decode cX8_stage 21 = .ok (.iconst 1, 1) := by decide +kernel
theorem dX8_stage_22 : decode cX8_stage 22 = .ok (.invokestatic 137, 3) := by decide +kernel
theorem dX8_stage_25 : decode cX8_stage 25 = .ok (.ifCond .ne 9, 3) := by decide +kernel
theorem dX8_stage_28 : decode cX8_stage 28 = .ok (.aload_n 0, 1) := by decide +kernel
theorem dX8_stage_29 : decode cX8_stage 29 = .ok (.iconst 1, 1) := by decide +kernel
theorem dX8_stage_30 : decode cX8_stage 30 = .ok (.invokevirtual 145, 3) := by decide +kernel
theorem dX8_stage_33 : decode cX8_stage 33 = .ok (.ireturn, 1) := by decide +kernel
theorem dX8_stage_34 : decode cX8_stage 34 = .ok (.iload_n 2, 1) := by decide +kernel
theorem dX8_stage_35 : decode cX8_stage 35 = .ok (.ifCond .ne 12, 3) := by decide +kernel
theorem dX8_stage_38 : decode cX8_stage 38 = .ok (.aload_n 0, 1) := by decide +kernel
theorem dX8_stage_39 : decode cX8_stage 39 = .ok (.getfield 29, 3) := by decide +kernel
theorem dX8_stage_42 : decode cX8_stage 42 = .ok (.iload_n 1, 1) := by decide +kernel
theorem dX8_stage_43 : decode cX8_stage 43 = .ok (.iaload, 1) := by decide +kernel
theorem dX8_stage_44 : decode cX8_stage 44 = .ok (.goto 26, 3) := by decide +kernel
theorem dX8_stage_47 : decode cX8_stage 47 = .ok (.aload_n 0, 1) := by decide +kernel
theorem dX8_stage_48 : decode cX8_stage 48 = .ok (.getfield 29, 3) := by decide +kernel
theorem dX8_stage_51 : decode cX8_stage 51 = .ok (.iload_n 1, 1) := by decide +kernel
theorem dX8_stage_52 : decode cX8_stage 52 = .ok (.iaload, 1) := by decide +kernel
theorem dX8_stage_53 : decode cX8_stage 53 = .ok (.ifCond .lt 16, 3) := by decide +kernel
theorem dX8_stage_56 : decode cX8_stage 56 = .ok (.aload_n 0, 1) := by decide +kernel
theorem dX8_stage_57 : decode cX8_stage 57 = .ok (.getfield 32, 3) := by decide +kernel
theorem dX8_stage_60 : decode cX8_stage 60 = .ok (.iload_n 1, 1) := by decide +kernel
theorem dX8_stage_61 : decode cX8_stage 61 = .ok (.baload, 1) := by decide +kernel
theorem dX8_stage_62 : decode cX8_stage 62 = .ok (.ifCond .eq 7, 3) := by decide +kernel
theorem dX8_stage_65 : decode cX8_stage 65 = .ok (.iconst 1, 1) := by decide +kernel
theorem dX8_stage_66 : decode cX8_stage 66 = .ok (.goto 4, 3) := by decide +kernel
theorem dX8_stage_69 : decode cX8_stage 69 = .ok (.iconst 0, 1) := by decide +kernel
theorem dX8_stage_70 : decode cX8_stage 70 = .ok (.ireturn, 1) := by decide +kernel
theorem dX8_committed_0 : decode cX8_committed 0 = .ok (.aload_n 0, 1) := by decide +kernel
theorem dX8_committed_1 : decode cX8_committed 1 = .ok (.iconst 0, 1) := by decide +kernel
theorem dX8_committed_2 : decode cX8_committed 2 = .ok (.putfield 101, 3) := by decide +kernel
theorem dX8_committed_5 : decode cX8_committed 5 = .ok (.aload_n 0, 1) := by decide +kernel
theorem dX8_committed_6 : decode cX8_committed 6 = .ok (.getfield 122, 3) := by decide +kernel
theorem dX8_committed_9 : decode cX8_committed 9 = .ok (.sipush 400, 3) := by decide +kernel
theorem dX8_committed_12 : decode cX8_committed 12 = .ok (.if_icmp .ge 10, 3) := by decide +kernel
theorem dX8_committed_15 : decode cX8_committed 15 = .ok (.aload_n 0, 1) := by decide +kernel
theorem dX8_committed_16 : decode cX8_committed 16 = .ok (.getfield 122, 3) := by decide +kernel
theorem dX8_committed_19 : decode cX8_committed 19 = .ok (.goto 6, 3) := by decide +kernel
theorem dX8_committed_22 : decode cX8_committed 22 = .ok (.sipush 400, 3) := by decide +kernel
theorem dX8_committed_25 : decode cX8_committed 25 = .ok (.istore_n 3, 1) := by decide +kernel
theorem dX8_committed_26 : decode cX8_committed 26 = .ok (.iload_n 1, 1) := by decide +kernel
theorem dX8_committed_27 : decode cX8_committed 27 = .ok (.iconst 0, 1) := by decide +kernel
theorem dX8_committed_28 : decode cX8_committed 28 = .ok (.iload_n 3, 1) := by decide +kernel
theorem dX8_committed_29 : decode cX8_committed 29 = .ok (.iconst 1, 1) := by decide +kernel
theorem dX8_committed_30 : decode cX8_committed 30 = .ok (.isub, 1) := by decide +kernel
theorem dX8_committed_31 : decode cX8_committed 31 = .ok (.invokestatic 137, 3) := by decide +kernel
theorem dX8_committed_34 : decode cX8_committed 34 = .ok (.ifCond .eq 12, 3) := by decide +kernel
theorem dX8_committed_37 : decode cX8_committed 37 = .ok (.iload_n 2, 1) := by decide +kernel
theorem dX8_committed_38 : decode cX8_committed 38 = .ok (.iconst 0, 1) := by decide +kernel
theorem dX8_committed_39 : decode cX8_committed 39 = .ok (.iconst 2, 1) := by decide +kernel
theorem dX8_committed_40 : decode cX8_committed 40 = .ok (.invokestatic 137, 3) := by decide +kernel
theorem dX8_committed_43 : decode cX8_committed 43 = .ok (.ifCond .ne 9, 3) := by decide +kernel
theorem dX8_committed_46 : decode cX8_committed 46 = .ok (.aload_n 0, 1) := by decide +kernel
theorem dX8_committed_47 : decode cX8_committed 47 = .ok (.iconst 1, 1) := by decide +kernel
theorem dX8_committed_48 : decode cX8_committed 48 = .ok (.invokevirtual 145, 3) := by decide +kernel
theorem dX8_committed_51 : decode cX8_committed 51 = .ok (.ireturn, 1) := by decide +kernel
theorem dX8_committed_52 : decode cX8_committed 52 = .ok (.aload_n 0, 1) := by decide +kernel
theorem dX8_committed_53 : decode cX8_committed 53 = .ok (.getfield 122, 3) := by decide +kernel
theorem dX8_committed_56 : decode cX8_committed 56 = .ok (.iload_n 3, 1) := by decide +kernel
theorem dX8_committed_57 : decode cX8_committed 57 = .ok (.isub, 1) := by decide +kernel
theorem dX8_committed_58 : decode cX8_committed 58 = .ok (.iload_n 1, 1) := by decide +kernel
theorem dX8_committed_59 : decode cX8_committed 59 = .ok (.iadd, 1) := by decide +kernel
theorem dX8_committed_60 : decode cX8_committed 60 = .ok (.sipush 400, 3) := by decide +kernel
theorem dX8_committed_63 : decode cX8_committed 63 = .ok (.irem, 1) := by decide +kernel
theorem dX8_committed_64 : decode cX8_committed 64 = .ok (.istore 4, 2) := by decide +kernel
theorem dX8_committed_66 : decode cX8_committed 66 = .ok (.iload_n 2, 1) := by decide +kernel
theorem dX8_committed_67 : decode cX8_committed 67 = .ok (.ifCond .ne 13, 3) := by decide +kernel
theorem dX8_committed_70 : decode cX8_committed 70 = .ok (.aload_n 0, 1) := by decide +kernel
theorem dX8_committed_71 : decode cX8_committed 71 = .ok (.getfield 66, 3) := by decide +kernel
theorem dX8_committed_74 : decode cX8_committed 74 = .ok (.iload 4, 2) := by decide +kernel
theorem dX8_committed_76 : decode cX8_committed 76 = .ok (.iaload, 1) := by decide +kernel
theorem dX8_committed_77 : decode cX8_committed 77 = .ok (.goto 25, 3) := by decide +kernel
theorem dX8_committed_80 : decode cX8_committed 80 = .ok (.iload_n 2, 1) := by decide +kernel
theorem dX8_committed_81 : decode cX8_committed 81 = .ok (.iconst 1, 1) := by decide +kernel
theorem dX8_committed_82 : decode cX8_committed 82 = .ok (.if_icmp .ne 13, 3) := by decide +kernel
theorem dX8_committed_85 : decode cX8_committed 85 = .ok (.aload_n 0, 1) := by decide +kernel
theorem dX8_committed_86 : decode cX8_committed 86 = .ok (.getfield 69, 3) := by decide +kernel
theorem dX8_committed_89 : decode cX8_committed 89 = .ok (.iload 4, 2) := by decide +kernel
theorem dX8_committed_91 : decode cX8_committed 91 = .ok (.iaload, 1) := by decide +kernel
theorem dX8_committed_92 : decode cX8_committed 92 = .ok (.goto 10, 3) := by decide +kernel
theorem dX8_committed_95 : decode cX8_committed 95 = .ok (.aload_n 0, 1) := by decide +kernel
theorem dX8_committed_96 : decode cX8_committed 96 = .ok (.getfield 72, 3) := by decide +kernel
theorem dX8_committed_99 : decode cX8_committed 99 = .ok (.iload 4, 2) := by decide +kernel
theorem dX8_committed_101 : decode cX8_committed 101 = .ok (.iaload, 1) := by decide +kernel
theorem dX8_committed_102 : decode cX8_committed 102 = .ok (.ireturn, 1) := by decide +kernel
theorem dX8_register_0 : decode cX8_register 0 = .ok (.aload_n 0, 1) := by decide +kernel
theorem dX8_register_1 : decode cX8_register 1 = .ok (.iconst 0, 1) := by decide +kernel
theorem dX8_register_2 : decode cX8_register 2 = .ok (.putfield 101, 3) := by decide +kernel
theorem dX8_register_5 : decode cX8_register 5 = .ok (.iload_n 1, 1) := by decide +kernel
theorem dX8_register_6 : decode cX8_register 6 = .ok (.invokestatic 141, 3) := by decide +kernel
theorem dX8_register_9 : decode cX8_register 9 = .ok (.ifCond .eq 12, 3) := by decide +kernel
theorem dX8_register_12 : decode cX8_register 12 = .ok (.aload_n 0, 1) := by decide +kernel
theorem dX8_register_13 : decode cX8_register 13 = .ok (.getfield 57, 3) := by decide +kernel
theorem dX8_register_16 : decode cX8_register 16 = .ok (.iload_n 1, 1) := by decide +kernel
theorem dX8_register_17 : decode cX8_register 17 = .ok (.iaload, 1) := by decide +kernel
theorem dX8_register_18 : decode cX8_register 18 = .ok (.goto 8, 3) := by decide +kernel
theorem dX8_register_21 : decode cX8_register 21 = .ok (.aload_n 0, 1) := by decide +kernel
theorem dX8_register_22 : decode cX8_register 22 = .ok (.iconst 1, 1) := by decide +kernel
theorem dX8_register_23 : decode cX8_register 23 = .ok (.invokevirtual 145, 3) := by decide +kernel
theorem dX8_register_26 : decode cX8_register 26 = .ok (.ireturn, 1) := by decide +kernel
theorem dX8_memory_0 : decode cX8_memory 0 = .ok (.aload_n 0, 1) := by decide +kernel
theorem dX8_memory_1 : decode cX8_memory 1 = .ok (.iconst 0, 1) := by decide +kernel
theorem dX8_memory_2 : decode cX8_memory 2 = .ok (.putfield 101, 3) := by decide +kernel
theorem dX8_memory_5 : decode cX8_memory 5 = .ok (.iload_n 1, 1) := by decide +kernel
theorem dX8_memory_6 : decode cX8_memory 6 = .ok (.iconst 0, 1) := by decide +kernel
theorem dX8_memory_7 : decode cX8_memory 7 = .ok (.bipush 63, 2) := by decide +kernel
theorem dX8_memory_9 : decode cX8_memory 9 = .ok (.invokestatic 137, 3) := by decide +kernel
theorem dX8_memory_12 : decode cX8_memory 12 = .ok (.ifCond .eq 12, 3) := by decide +kernel
theorem dX8_memory_15 : decode cX8_memory 15 = .ok (.aload_n 0, 1) := by decide +kernel
theorem dX8_memory_16 : decode cX8_memory 16 = .ok (.getfield 60, 3) := by decide +kernel
theorem dX8_memory_19 : decode cX8_memory 19 = .ok (.iload_n 1, 1) := by decide +kernel
theorem dX8_memory_20 : decode cX8_memory 20 = .ok (.iaload, 1) := by decide +kernel
theorem dX8_memory_21 : decode cX8_memory 21 = .ok (.goto 8, 3) := by decide +kernel
theorem dX8_memory_24 : decode cX8_memory 24 = .ok (.aload_n 0, 1) := by decide +kernel
theorem dX8_memory_25 : decode cX8_memory 25 = .ok (.iconst 1, 1) := by decide +kernel
theorem dX8_memory_26 : decode cX8_memory 26 = .ok (.invokevirtual 145, 3) := by decide +kernel
theorem dX8_memory_29 : decode cX8_memory 29 = .ok (.ireturn, 1) := by decide +kernel
theorem dX8_cause_0 : decode cX8_cause 0 = .ok (.aload_n 0, 1) := by decide +kernel
theorem dX8_cause_1 : decode cX8_cause 1 = .ok (.iconst 0, 1) := by decide +kernel
theorem dX8_cause_2 : decode cX8_cause 2 = .ok (.putfield 101, 3) := by decide +kernel
theorem dX8_cause_5 : decode cX8_cause 5 = .ok (.iload_n 1, 1) := by decide +kernel
theorem dX8_cause_6 : decode cX8_cause 6 = .ok (.iconst 0, 1) := by decide +kernel
theorem dX8_cause_7 : decode cX8_cause 7 = .ok (.iconst 4, 1) := by decide +kernel
theorem dX8_cause_8 : decode cX8_cause 8 = .ok (.invokestatic 137, 3) := by decide +kernel
theorem dX8_cause_11 : decode cX8_cause 11 = .ok (.ifCond .eq 12, 3) := by decide +kernel
theorem dX8_cause_14 : decode cX8_cause 14 = .ok (.aload_n 0, 1) := by decide +kernel
theorem dX8_cause_15 : decode cX8_cause 15 = .ok (.getfield 63, 3) := by decide +kernel
theorem dX8_cause_18 : decode cX8_cause 18 = .ok (.iload_n 1, 1) := by decide +kernel
theorem dX8_cause_19 : decode cX8_cause 19 = .ok (.iaload, 1) := by decide +kernel
theorem dX8_cause_20 : decode cX8_cause 20 = .ok (.goto 8, 3) := by decide +kernel
theorem dX8_cause_23 : decode cX8_cause 23 = .ok (.aload_n 0, 1) := by decide +kernel
theorem dX8_cause_24 : decode cX8_cause 24 = .ok (.iconst 1, 1) := by decide +kernel
theorem dX8_cause_25 : decode cX8_cause 25 = .ok (.invokevirtual 145, 3) := by decide +kernel
theorem dX8_cause_28 : decode cX8_cause 28 = .ok (.ireturn, 1) := by decide +kernel
theorem dX8_count_0 : decode cX8_count 0 = .ok (.aload_n 0, 1) := by decide +kernel
theorem dX8_count_1 : decode cX8_count 1 = .ok (.iconst 0, 1) := by decide +kernel
theorem dX8_count_2 : decode cX8_count 2 = .ok (.putfield 101, 3) := by decide +kernel
theorem dX8_count_5 : decode cX8_count 5 = .ok (.iload_n 1, 1) := by decide +kernel
theorem dX8_count_6 : decode cX8_count 6 = .ok (.tableswitch 148 0 13 #[70, 75, 80, 85, 90, 95, 108, 113, 118, 123, 128, 133, 138, 143], 70) := by decide +kernel
theorem dX8_count_76 : decode cX8_count 76 = .ok (.aload_n 0, 1) := by decide +kernel
theorem dX8_count_77 : decode cX8_count 77 = .ok (.getfield 119, 3) := by decide +kernel
theorem dX8_count_80 : decode cX8_count 80 = .ok (.ireturn, 1) := by decide +kernel
theorem dX8_count_81 : decode cX8_count 81 = .ok (.aload_n 0, 1) := by decide +kernel
theorem dX8_count_82 : decode cX8_count 82 = .ok (.getfield 122, 3) := by decide +kernel
theorem dX8_count_85 : decode cX8_count 85 = .ok (.ireturn, 1) := by decide +kernel
theorem dX8_count_86 : decode cX8_count 86 = .ok (.aload_n 0, 1) := by decide +kernel
theorem dX8_count_87 : decode cX8_count 87 = .ok (.getfield 125, 3) := by decide +kernel
theorem dX8_count_90 : decode cX8_count 90 = .ok (.ireturn, 1) := by decide +kernel
theorem dX8_count_91 : decode cX8_count 91 = .ok (.aload_n 0, 1) := by decide +kernel
theorem dX8_count_92 : decode cX8_count 92 = .ok (.getfield 128, 3) := by decide +kernel
theorem dX8_count_95 : decode cX8_count 95 = .ok (.ireturn, 1) := by decide +kernel
theorem dX8_count_96 : decode cX8_count 96 = .ok (.aload_n 0, 1) := by decide +kernel
theorem dX8_count_97 : decode cX8_count 97 = .ok (.getfield 131, 3) := by decide +kernel
theorem dX8_count_100 : decode cX8_count 100 = .ok (.ireturn, 1) := by decide +kernel
theorem dX8_count_101 : decode cX8_count 101 = .ok (.aload_n 0, 1) := by decide +kernel
theorem dX8_count_102 : decode cX8_count 102 = .ok (.getfield 116, 3) := by decide +kernel
theorem dX8_count_105 : decode cX8_count 105 = .ok (.ifCond .eq 7, 3) := by decide +kernel
theorem dX8_count_108 : decode cX8_count 108 = .ok (.iconst 1, 1) := by decide +kernel
theorem dX8_count_109 : decode cX8_count 109 = .ok (.goto 4, 3) := by decide +kernel
theorem dX8_count_112 : decode cX8_count 112 = .ok (.iconst 0, 1) := by decide +kernel
theorem dX8_count_113 : decode cX8_count 113 = .ok (.ireturn, 1) := by decide +kernel
theorem dX8_count_114 : decode cX8_count 114 = .ok (.aload_n 0, 1) := by decide +kernel
theorem dX8_count_115 : decode cX8_count 115 = .ok (.getfield 79, 3) := by decide +kernel
theorem dX8_count_118 : decode cX8_count 118 = .ok (.ireturn, 1) := by decide +kernel
theorem dX8_count_119 : decode cX8_count 119 = .ok (.aload_n 0, 1) := by decide +kernel
theorem dX8_count_120 : decode cX8_count 120 = .ok (.getfield 83, 3) := by decide +kernel
theorem dX8_count_123 : decode cX8_count 123 = .ok (.ireturn, 1) := by decide +kernel
theorem dX8_count_124 : decode cX8_count 124 = .ok (.aload_n 0, 1) := by decide +kernel
theorem dX8_count_125 : decode cX8_count 125 = .ok (.getfield 86, 3) := by decide +kernel
theorem dX8_count_128 : decode cX8_count 128 = .ok (.ireturn, 1) := by decide +kernel
theorem dX8_count_129 : decode cX8_count 129 = .ok (.aload_n 0, 1) := by decide +kernel
theorem dX8_count_130 : decode cX8_count 130 = .ok (.getfield 89, 3) := by decide +kernel
theorem dX8_count_133 : decode cX8_count 133 = .ok (.ireturn, 1) := by decide +kernel
theorem dX8_count_134 : decode cX8_count 134 = .ok (.aload_n 0, 1) := by decide +kernel
theorem dX8_count_135 : decode cX8_count 135 = .ok (.getfield 92, 3) := by decide +kernel
theorem dX8_count_138 : decode cX8_count 138 = .ok (.ireturn, 1) := by decide +kernel
theorem dX8_count_139 : decode cX8_count 139 = .ok (.aload_n 0, 1) := by decide +kernel
theorem dX8_count_140 : decode cX8_count 140 = .ok (.getfield 95, 3) := by decide +kernel
theorem dX8_count_143 : decode cX8_count 143 = .ok (.ireturn, 1) := by decide +kernel
theorem dX8_count_144 : decode cX8_count 144 = .ok (.aload_n 0, 1) := by decide +kernel
theorem dX8_count_145 : decode cX8_count 145 = .ok (.getfield 104, 3) := by decide +kernel
theorem dX8_count_148 : decode cX8_count 148 = .ok (.ireturn, 1) := by decide +kernel
theorem dX8_count_149 : decode cX8_count 149 = .ok (.aload_n 0, 1) := by decide +kernel
theorem dX8_count_150 : decode cX8_count 150 = .ok (.getfield 134, 3) := by decide +kernel
theorem dX8_count_153 : decode cX8_count 153 = .ok (.ireturn, 1) := by decide +kernel
theorem dX8_count_154 : decode cX8_count 154 = .ok (.iconst (-1), 1) := by decide +kernel
theorem dX8_count_155 : decode cX8_count 155 = .ok (.ireturn, 1) := by decide +kernel
end
section
theorem dL_cell_0 : decode cL_cell 0 = .ok (.iload_n 1, 1) := by decide +kernel
theorem dL_cell_1 : decode cL_cell 1 = .ok (.aload_n 0, 1) := by decide +kernel
theorem dL_cell_2 : decode cL_cell 2 = .ok (.arraylength, 1) := by decide +kernel
theorem dL_cell_3 : decode cL_cell 3 = .ok (.if_icmp .ge 9, 3) := by decide +kernel
theorem dL_cell_6 : decode cL_cell 6 = .ok (.aload_n 0, 1) := by decide +kernel
theorem dL_cell_7 : decode cL_cell 7 = .ok (.iload_n 1, 1) := by decide +kernel
theorem dL_cell_8 : decode cL_cell 8 = .ok (.iaload, 1) := by decide +kernel
theorem dL_cell_9 : decode cL_cell 9 = .ok (.goto 4, 3) := by decide +kernel
theorem dL_cell_12 : decode cL_cell 12 = .ok (.iconst 0, 1) := by decide +kernel
theorem dL_cell_13 : decode cL_cell 13 = .ok (.ireturn, 1) := by decide +kernel
theorem dL_word_0 : decode cL_word 0 = .ok (.aload 6, 2) := by decide +kernel
theorem dL_word_2 : decode cL_word 2 = .ok (.iconst 0, 1) := by decide +kernel
theorem dL_word_3 : decode cL_word 3 = .ok (.aload_n 0, 1) := by decide +kernel
theorem dL_word_4 : decode cL_word 4 = .ok (.iload_n 1, 1) := by decide +kernel
theorem dL_word_5 : decode cL_word 5 = .ok (.iload_n 2, 1) := by decide +kernel
theorem dL_word_6 : decode cL_word 6 = .ok (.iload_n 3, 1) := by decide +kernel
theorem dL_word_7 : decode cL_word 7 = .ok (.iload 4, 2) := by decide +kernel
theorem dL_word_9 : decode cL_word 9 = .ok (.iload 5, 2) := by decide +kernel
theorem dL_word_11 : decode cL_word 11 = .ok (.invokevirtual 7, 3) := by decide +kernel
theorem dL_word_14 : decode cL_word 14 = .ok (.i2l, 1) := by decide +kernel
theorem dL_word_15 : decode cL_word 15 = .ok (.lastore, 1) := by decide +kernel
theorem dL_word_16 : decode cL_word 16 = .ok (.goto 15, 3) := by decide +kernel
theorem dL_word_19 : decode cL_word 19 = .ok (.astore 7, 2) := by decide +kernel
theorem dL_word_21 : decode cL_word 21 = .ok (.iconst 1, 1) := by decide +kernel
theorem dL_word_22 : decode cL_word 22 = .ok (.ireturn, 1) := by decide +kernel
theorem dL_word_23 : decode cL_word 23 = .ok (.astore 7, 2) := by decide +kernel
theorem dL_word_25 : decode cL_word 25 = .ok (.iconst 2, 1) := by decide +kernel
theorem dL_word_26 : decode cL_word 26 = .ok (.ireturn, 1) := by decide +kernel
theorem dL_word_27 : decode cL_word 27 = .ok (.astore 7, 2) := by decide +kernel
theorem dL_word_29 : decode cL_word 29 = .ok (.iconst 3, 1) := by decide +kernel
theorem dL_word_30 : decode cL_word 30 = .ok (.ireturn, 1) := by decide +kernel
theorem dL_word_31 : decode cL_word 31 = .ok (.iconst 0, 1) := by decide +kernel
theorem dL_word_32 : decode cL_word 32 = .ok (.ireturn, 1) := by decide +kernel
theorem dL_set_0 : decode cL_set 0 = .ok (.aload_n 3, 1) := by decide +kernel
theorem dL_set_1 : decode cL_set 1 = .ok (.iconst 0, 1) := by decide +kernel
theorem dL_set_2 : decode cL_set 2 = .ok (.aload_n 0, 1) := by decide +kernel
theorem dL_set_3 : decode cL_set 3 = .ok (.iload_n 1, 1) := by decide +kernel
theorem dL_set_4 : decode cL_set 4 = .ok (.iload_n 2, 1) := by decide +kernel
theorem dL_set_5 : decode cL_set 5 = .ok (.invokevirtual 19, 3) := by decide +kernel
theorem dL_set_8 : decode cL_set 8 = .ok (.ifCond .eq 7, 3) := by decide +kernel
theorem dL_set_11 : decode cL_set 11 = .ok (.lconst 1, 1) := by decide +kernel
theorem dL_set_12 : decode cL_set 12 = .ok (.goto 4, 3) := by decide +kernel
theorem dL_set_15 : decode cL_set 15 = .ok (.lconst 0, 1) := by decide +kernel
theorem dL_set_16 : decode cL_set 16 = .ok (.lastore, 1) := by decide +kernel
theorem dL_set_17 : decode cL_set 17 = .ok (.goto 11, 3) := by decide +kernel
theorem dL_set_20 : decode cL_set 20 = .ok (.astore 4, 2) := by decide +kernel
theorem dL_set_22 : decode cL_set 22 = .ok (.iconst 1, 1) := by decide +kernel
theorem dL_set_23 : decode cL_set 23 = .ok (.ireturn, 1) := by decide +kernel
theorem dL_set_24 : decode cL_set 24 = .ok (.astore 4, 2) := by decide +kernel
theorem dL_set_26 : decode cL_set 26 = .ok (.iconst 2, 1) := by decide +kernel
theorem dL_set_27 : decode cL_set 27 = .ok (.ireturn, 1) := by decide +kernel
theorem dL_set_28 : decode cL_set 28 = .ok (.iconst 0, 1) := by decide +kernel
theorem dL_set_29 : decode cL_set 29 = .ok (.ireturn, 1) := by decide +kernel
theorem dL_run_0 : decode cL_run 0 = .ok (.aload_n 2, 1) := by decide +kernel
theorem dL_run_1 : decode cL_run 1 = .ok (.iconst 0, 1) := by decide +kernel
theorem dL_run_2 : decode cL_run 2 = .ok (.aload_n 0, 1) := by decide +kernel
theorem dL_run_3 : decode cL_run 3 = .ok (.iload_n 1, 1) := by decide +kernel
theorem dL_run_4 : decode cL_run 4 = .ok (.invokevirtual 23, 3) := by decide +kernel
theorem dL_run_7 : decode cL_run 7 = .ok (.i2l, 1) := by decide +kernel
theorem dL_run_8 : decode cL_run 8 = .ok (.lastore, 1) := by decide +kernel
theorem dL_run_9 : decode cL_run 9 = .ok (.goto 9, 3) := by decide +kernel
theorem dL_run_12 : decode cL_run 12 = .ok (.astore_n 3, 1) := by decide +kernel
theorem dL_run_13 : decode cL_run 13 = .ok (.iconst 1, 1) := by decide +kernel
theorem dL_run_14 : decode cL_run 14 = .ok (.ireturn, 1) := by decide +kernel
theorem dL_run_15 : decode cL_run 15 = .ok (.astore_n 3, 1) := by decide +kernel
theorem dL_run_16 : decode cL_run 16 = .ok (.iconst 2, 1) := by decide +kernel
theorem dL_run_17 : decode cL_run 17 = .ok (.ireturn, 1) := by decide +kernel
theorem dL_run_18 : decode cL_run 18 = .ok (.iconst 0, 1) := by decide +kernel
theorem dL_run_19 : decode cL_run 19 = .ok (.ireturn, 1) := by decide +kernel
theorem dL_stage_0 : decode cL_stage 0 = .ok (.aload_n 3, 1) := by decide +kernel
theorem dL_stage_1 : decode cL_stage 1 = .ok (.iconst 0, 1) := by decide +kernel
theorem dL_stage_2 : decode cL_stage 2 = .ok (.aload_n 0, 1) := by decide +kernel
theorem dL_stage_3 : decode cL_stage 3 = .ok (.iload_n 1, 1) := by decide +kernel
theorem dL_stage_4 : decode cL_stage 4 = .ok (.iload_n 2, 1) := by decide +kernel
theorem dL_stage_5 : decode cL_stage 5 = .ok (.invokevirtual 27, 3) := by decide +kernel
theorem dL_stage_8 : decode cL_stage 8 = .ok (.i2l, 1) := by decide +kernel
theorem dL_stage_9 : decode cL_stage 9 = .ok (.lastore, 1) := by decide +kernel
theorem dL_stage_10 : decode cL_stage 10 = .ok (.goto 7, 3) := by decide +kernel
theorem dL_stage_13 : decode cL_stage 13 = .ok (.astore 4, 2) := by decide +kernel
theorem dL_stage_15 : decode cL_stage 15 = .ok (.iconst 1, 1) := by decide +kernel
theorem dL_stage_16 : decode cL_stage 16 = .ok (.ireturn, 1) := by decide +kernel
theorem dL_stage_17 : decode cL_stage 17 = .ok (.iconst 0, 1) := by decide +kernel
theorem dL_stage_18 : decode cL_stage 18 = .ok (.ireturn, 1) := by decide +kernel
theorem dL_committed_0 : decode cL_committed 0 = .ok (.aload_n 3, 1) := by decide +kernel
theorem dL_committed_1 : decode cL_committed 1 = .ok (.iconst 0, 1) := by decide +kernel
theorem dL_committed_2 : decode cL_committed 2 = .ok (.aload_n 0, 1) := by decide +kernel
theorem dL_committed_3 : decode cL_committed 3 = .ok (.iload_n 1, 1) := by decide +kernel
theorem dL_committed_4 : decode cL_committed 4 = .ok (.iload_n 2, 1) := by decide +kernel
theorem dL_committed_5 : decode cL_committed 5 = .ok (.invokevirtual 33, 3) := by decide +kernel
theorem dL_committed_8 : decode cL_committed 8 = .ok (.i2l, 1) := by decide +kernel
theorem dL_committed_9 : decode cL_committed 9 = .ok (.lastore, 1) := by decide +kernel
theorem dL_committed_10 : decode cL_committed 10 = .ok (.goto 7, 3) := by decide +kernel
theorem dL_committed_13 : decode cL_committed 13 = .ok (.astore 4, 2) := by decide +kernel
theorem dL_committed_15 : decode cL_committed 15 = .ok (.iconst 1, 1) := by decide +kernel
theorem dL_committed_16 : decode cL_committed 16 = .ok (.ireturn, 1) := by decide +kernel
theorem dL_committed_17 : decode cL_committed 17 = .ok (.iconst 0, 1) := by decide +kernel
theorem dL_committed_18 : decode cL_committed 18 = .ok (.ireturn, 1) := by decide +kernel
theorem dL_register_0 : decode cL_register 0 = .ok (.aload_n 2, 1) := by decide +kernel
theorem dL_register_1 : decode cL_register 1 = .ok (.iconst 0, 1) := by decide +kernel
theorem dL_register_2 : decode cL_register 2 = .ok (.aload_n 0, 1) := by decide +kernel
theorem dL_register_3 : decode cL_register 3 = .ok (.iload_n 1, 1) := by decide +kernel
theorem dL_register_4 : decode cL_register 4 = .ok (.invokevirtual 36, 3) := by decide +kernel
theorem dL_register_7 : decode cL_register 7 = .ok (.i2l, 1) := by decide +kernel
theorem dL_register_8 : decode cL_register 8 = .ok (.lastore, 1) := by decide +kernel
theorem dL_register_9 : decode cL_register 9 = .ok (.goto 6, 3) := by decide +kernel
theorem dL_register_12 : decode cL_register 12 = .ok (.astore_n 3, 1) := by decide +kernel
theorem dL_register_13 : decode cL_register 13 = .ok (.iconst 1, 1) := by decide +kernel
theorem dL_register_14 : decode cL_register 14 = .ok (.ireturn, 1) := by decide +kernel
theorem dL_register_15 : decode cL_register 15 = .ok (.iconst 0, 1) := by decide +kernel
theorem dL_register_16 : decode cL_register 16 = .ok (.ireturn, 1) := by decide +kernel
theorem dL_memory_0 : decode cL_memory 0 = .ok (.aload_n 2, 1) := by decide +kernel
theorem dL_memory_1 : decode cL_memory 1 = .ok (.iconst 0, 1) := by decide +kernel
theorem dL_memory_2 : decode cL_memory 2 = .ok (.aload_n 0, 1) := by decide +kernel
theorem dL_memory_3 : decode cL_memory 3 = .ok (.iload_n 1, 1) := by decide +kernel
theorem dL_memory_4 : decode cL_memory 4 = .ok (.invokevirtual 39, 3) := by decide +kernel
theorem dL_memory_7 : decode cL_memory 7 = .ok (.i2l, 1) := by decide +kernel
theorem dL_memory_8 : decode cL_memory 8 = .ok (.lastore, 1) := by decide +kernel
theorem dL_memory_9 : decode cL_memory 9 = .ok (.goto 6, 3) := by decide +kernel
theorem dL_memory_12 : decode cL_memory 12 = .ok (.astore_n 3, 1) := by decide +kernel
theorem dL_memory_13 : decode cL_memory 13 = .ok (.iconst 1, 1) := by decide +kernel
theorem dL_memory_14 : decode cL_memory 14 = .ok (.ireturn, 1) := by decide +kernel
theorem dL_memory_15 : decode cL_memory 15 = .ok (.iconst 0, 1) := by decide +kernel
theorem dL_memory_16 : decode cL_memory 16 = .ok (.ireturn, 1) := by decide +kernel
theorem dL_cause_0 : decode cL_cause 0 = .ok (.aload_n 2, 1) := by decide +kernel
theorem dL_cause_1 : decode cL_cause 1 = .ok (.iconst 0, 1) := by decide +kernel
theorem dL_cause_2 : decode cL_cause 2 = .ok (.aload_n 0, 1) := by decide +kernel
theorem dL_cause_3 : decode cL_cause 3 = .ok (.iload_n 1, 1) := by decide +kernel
theorem dL_cause_4 : decode cL_cause 4 = .ok (.invokevirtual 42, 3) := by decide +kernel
theorem dL_cause_7 : decode cL_cause 7 = .ok (.i2l, 1) := by decide +kernel
theorem dL_cause_8 : decode cL_cause 8 = .ok (.lastore, 1) := by decide +kernel
theorem dL_cause_9 : decode cL_cause 9 = .ok (.goto 6, 3) := by decide +kernel
theorem dL_cause_12 : decode cL_cause 12 = .ok (.astore_n 3, 1) := by decide +kernel
theorem dL_cause_13 : decode cL_cause 13 = .ok (.iconst 1, 1) := by decide +kernel
theorem dL_cause_14 : decode cL_cause 14 = .ok (.ireturn, 1) := by decide +kernel
theorem dL_cause_15 : decode cL_cause 15 = .ok (.iconst 0, 1) := by decide +kernel
theorem dL_cause_16 : decode cL_cause 16 = .ok (.ireturn, 1) := by decide +kernel
theorem dL_law_0 : decode code 0 = .ok (.new 8, 3) := by decide +kernel
theorem dL_law_3 : decode code 3 = .ok (.dup, 1) := by decide +kernel
theorem dL_law_4 : decode code 4 = .ok (.aload_n 0, 1) := by decide +kernel
theorem dL_law_5 : decode code 5 = .ok (.iconst 0, 1) := by decide +kernel
theorem dL_law_6 : decode code 6 = .ok (.invokestatic 45, 3) := by decide +kernel
theorem dL_law_9 : decode code 9 = .ok (.aload_n 0, 1) := by decide +kernel
theorem dL_law_10 : decode code 10 = .ok (.iconst 1, 1) := by decide +kernel
theorem dL_law_11 : decode code 11 = .ok (.invokestatic 45, 3) := by decide +kernel
theorem dL_law_14 : decode code 14 = .ok (.aload_n 0, 1) := by decide +kernel
theorem dL_law_15 : decode code 15 = .ok (.iconst 2, 1) := by decide +kernel
theorem dL_law_16 : decode code 16 = .ok (.invokestatic 45, 3) := by decide +kernel
theorem dL_law_19 : decode code 19 = .ok (.aload_n 0, 1) := by decide +kernel
theorem dL_law_20 : decode code 20 = .ok (.iconst 3, 1) := by decide +kernel
theorem dL_law_21 : decode code 21 = .ok (.invokestatic 45, 3) := by decide +kernel
theorem dL_law_24 : decode code 24 = .ok (.aload_n 0, 1) := by decide +kernel
theorem dL_law_25 : decode code 25 = .ok (.iconst 4, 1) := by decide +kernel
theorem dL_law_26 : decode code 26 = .ok (.invokestatic 45, 3) := by decide +kernel
theorem dL_law_29 : decode code 29 = .ok (.aload_n 0, 1) := by decide +kernel
theorem dL_law_30 : decode code 30 = .ok (.iconst 5, 1) := by decide +kernel
theorem dL_law_31 : decode code 31 = .ok (.invokestatic 45, 3) := by decide +kernel
theorem dL_law_34 : decode code 34 = .ok (.invokespecial 51, 3) := by decide +kernel
theorem dL_law_37 : decode code 37 = .ok (.astore_n 1, 1) := by decide +kernel
theorem dL_law_38 : decode code 38 = .ok (.new 54, 3) := by decide +kernel
theorem dL_law_41 : decode code 41 = .ok (.dup, 1) := by decide +kernel
theorem dL_law_42 : decode code 42 = .ok (.aload_n 0, 1) := by decide +kernel
theorem dL_law_43 : decode code 43 = .ok (.iconst 0, 1) := by decide +kernel
theorem dL_law_44 : decode code 44 = .ok (.invokestatic 45, 3) := by decide +kernel
theorem dL_law_47 : decode code 47 = .ok (.aload_n 0, 1) := by decide +kernel
theorem dL_law_48 : decode code 48 = .ok (.iconst 1, 1) := by decide +kernel
theorem dL_law_49 : decode code 49 = .ok (.invokestatic 45, 3) := by decide +kernel
theorem dL_law_52 : decode code 52 = .ok (.aload_n 0, 1) := by decide +kernel
theorem dL_law_53 : decode code 53 = .ok (.iconst 2, 1) := by decide +kernel
theorem dL_law_54 : decode code 54 = .ok (.invokestatic 45, 3) := by decide +kernel
theorem dL_law_57 : decode code 57 = .ok (.aload_n 0, 1) := by decide +kernel
theorem dL_law_58 : decode code 58 = .ok (.iconst 3, 1) := by decide +kernel
theorem dL_law_59 : decode code 59 = .ok (.invokestatic 45, 3) := by decide +kernel
theorem dL_law_62 : decode code 62 = .ok (.aload_n 0, 1) := by decide +kernel
theorem dL_law_63 : decode code 63 = .ok (.iconst 4, 1) := by decide +kernel
theorem dL_law_64 : decode code 64 = .ok (.invokestatic 45, 3) := by decide +kernel
theorem dL_law_67 : decode code 67 = .ok (.aload_n 0, 1) := by decide +kernel
theorem dL_law_68 : decode code 68 = .ok (.iconst 5, 1) := by decide +kernel
theorem dL_law_69 : decode code 69 = .ok (.invokestatic 45, 3) := by decide +kernel
theorem dL_law_72 : decode code 72 = .ok (.invokespecial 56, 3) := by decide +kernel
theorem dL_law_75 : decode code 75 = .ok (.astore_n 2, 1) := by decide +kernel
theorem dL_law_76 : decode code 76 = .ok (.iconst 1, 1) := by decide +kernel
theorem dL_law_77 : decode code 77 = .ok (.newarray .long, 2) := by decide +kernel
theorem dL_law_79 : decode code 79 = .ok (.astore_n 3, 1) := by decide +kernel
theorem dL_law_80 : decode code 80 = .ok (.bipush 6, 2) := by decide +kernel
theorem dL_law_82 : decode code 82 = .ok (.istore 4, 2) := by decide +kernel
theorem dL_law_84 : decode code 84 = .ok (.iload 4, 2) := by decide +kernel
theorem dL_law_86 : decode code 86 = .ok (.aload_n 0, 1) := by decide +kernel
theorem dL_law_87 : decode code 87 = .ok (.arraylength, 1) := by decide +kernel
theorem dL_law_88 : decode code 88 = .ok (.bipush 6, 2) := by decide +kernel
theorem dL_law_90 : decode code 90 = .ok (.isub, 1) := by decide +kernel
theorem dL_law_91 : decode code 91 = .ok (.if_icmp .gt 664, 3) := by decide +kernel
theorem dL_law_94 : decode code 94 = .ok (.aload_n 0, 1) := by decide +kernel
theorem dL_law_95 : decode code 95 = .ok (.iload 4, 2) := by decide +kernel
theorem dL_law_97 : decode code 97 = .ok (.iaload, 1) := by decide +kernel
theorem dL_law_98 : decode code 98 = .ok (.bipush 15, 2) := by decide +kernel
theorem dL_law_100 : decode code 100 = .ok (.iand, 1) := by decide +kernel
theorem dL_law_101 : decode code 101 = .ok (.tableswitch 648 0 9 #[55, 159, 250, 263, 319, 387, 455, 511, 567, 623], 55) := by decide +kernel
theorem dL_law_156 : decode code 156 = .ok (.aload_n 1, 1) := by decide +kernel
theorem dL_law_157 : decode code 157 = .ok (.aload_n 0, 1) := by decide +kernel
theorem dL_law_158 : decode code 158 = .ok (.iload 4, 2) := by decide +kernel
theorem dL_law_160 : decode code 160 = .ok (.iconst 1, 1) := by decide +kernel
theorem dL_law_161 : decode code 161 = .ok (.iadd, 1) := by decide +kernel
theorem dL_law_162 : decode code 162 = .ok (.iaload, 1) := by decide +kernel
theorem dL_law_163 : decode code 163 = .ok (.aload_n 0, 1) := by decide +kernel
theorem dL_law_164 : decode code 164 = .ok (.iload 4, 2) := by decide +kernel
theorem dL_law_166 : decode code 166 = .ok (.iconst 2, 1) := by decide +kernel
theorem dL_law_167 : decode code 167 = .ok (.iadd, 1) := by decide +kernel
theorem dL_law_168 : decode code 168 = .ok (.iaload, 1) := by decide +kernel
theorem dL_law_169 : decode code 169 = .ok (.aload_n 0, 1) := by decide +kernel
theorem dL_law_170 : decode code 170 = .ok (.iload 4, 2) := by decide +kernel
theorem dL_law_172 : decode code 172 = .ok (.iconst 3, 1) := by decide +kernel
theorem dL_law_173 : decode code 173 = .ok (.iadd, 1) := by decide +kernel
theorem dL_law_174 : decode code 174 = .ok (.iaload, 1) := by decide +kernel
theorem dL_law_175 : decode code 175 = .ok (.aload_n 0, 1) := by decide +kernel
theorem dL_law_176 : decode code 176 = .ok (.iload 4, 2) := by decide +kernel
theorem dL_law_178 : decode code 178 = .ok (.iconst 4, 1) := by decide +kernel
theorem dL_law_179 : decode code 179 = .ok (.iadd, 1) := by decide +kernel
theorem dL_law_180 : decode code 180 = .ok (.iaload, 1) := by decide +kernel
theorem dL_law_181 : decode code 181 = .ok (.aload_n 0, 1) := by decide +kernel
theorem dL_law_182 : decode code 182 = .ok (.iload 4, 2) := by decide +kernel
theorem dL_law_184 : decode code 184 = .ok (.iconst 5, 1) := by decide +kernel
theorem dL_law_185 : decode code 185 = .ok (.iadd, 1) := by decide +kernel
theorem dL_law_186 : decode code 186 = .ok (.iaload, 1) := by decide +kernel
theorem dL_law_187 : decode code 187 = .ok (.aload_n 3, 1) := by decide +kernel
theorem dL_law_188 : decode code 188 = .ok (.invokestatic 57, 3) := by decide +kernel
theorem dL_law_191 : decode code 191 = .ok (.istore 5, 2) := by decide +kernel
theorem dL_law_193 : decode code 193 = .ok (.aload_n 2, 1) := by decide +kernel
theorem dL_law_194 : decode code 194 = .ok (.aload_n 0, 1) := by decide +kernel
theorem dL_law_195 : decode code 195 = .ok (.iload 4, 2) := by decide +kernel
theorem dL_law_197 : decode code 197 = .ok (.iconst 1, 1) := by decide +kernel
theorem dL_law_198 : decode code 198 = .ok (.iadd, 1) := by decide +kernel
theorem dL_law_199 : decode code 199 = .ok (.iaload, 1) := by decide +kernel
theorem dL_law_200 : decode code 200 = .ok (.aload_n 0, 1) := by decide +kernel
theorem dL_law_201 : decode code 201 = .ok (.iload 4, 2) := by decide +kernel
theorem dL_law_203 : decode code 203 = .ok (.iconst 2, 1) := by decide +kernel
theorem dL_law_204 : decode code 204 = .ok (.iadd, 1) := by decide +kernel
theorem dL_law_205 : decode code 205 = .ok (.iaload, 1) := by decide +kernel
theorem dL_law_206 : decode code 206 = .ok (.aload_n 0, 1) := by decide +kernel
theorem dL_law_207 : decode code 207 = .ok (.iload 4, 2) := by decide +kernel
theorem dL_law_209 : decode code 209 = .ok (.iconst 3, 1) := by decide +kernel
theorem dL_law_210 : decode code 210 = .ok (.iadd, 1) := by decide +kernel
theorem dL_law_211 : decode code 211 = .ok (.iaload, 1) := by decide +kernel
theorem dL_law_212 : decode code 212 = .ok (.aload_n 0, 1) := by decide +kernel
theorem dL_law_213 : decode code 213 = .ok (.iload 4, 2) := by decide +kernel
theorem dL_law_215 : decode code 215 = .ok (.iconst 4, 1) := by decide +kernel
theorem dL_law_216 : decode code 216 = .ok (.iadd, 1) := by decide +kernel
theorem dL_law_217 : decode code 217 = .ok (.iaload, 1) := by decide +kernel
theorem dL_law_218 : decode code 218 = .ok (.aload_n 0, 1) := by decide +kernel
theorem dL_law_219 : decode code 219 = .ok (.iload 4, 2) := by decide +kernel
theorem dL_law_221 : decode code 221 = .ok (.iconst 5, 1) := by decide +kernel
theorem dL_law_222 : decode code 222 = .ok (.iadd, 1) := by decide +kernel
theorem dL_law_223 : decode code 223 = .ok (.iaload, 1) := by decide +kernel
theorem dL_law_224 : decode code 224 = .ok (.invokevirtual 60, 3) := by decide +kernel
theorem dL_law_227 : decode code 227 = .ok (.istore 6, 2) := by decide +kernel
theorem dL_law_229 : decode code 229 = .ok (.aload_n 2, 1) := by decide +kernel
theorem dL_law_230 : decode code 230 = .ok (.invokevirtual 61, 3) := by decide +kernel
theorem dL_law_233 : decode code 233 = .ok (.iload 5, 2) := by decide +kernel
theorem dL_law_235 : decode code 235 = .ok (.if_icmp .eq 5, 3) := by decide +kernel
theorem dL_law_238 : decode code 238 = .ok (.iconst 0, 1) := by decide +kernel
theorem dL_law_239 : decode code 239 = .ok (.ireturn, 1) := by decide +kernel
theorem dL_law_240 : decode code 240 = .ok (.iload 5, 2) := by decide +kernel
theorem dL_law_242 : decode code 242 = .ok (.ifCond .ne 15, 3) := by decide +kernel
theorem dL_law_245 : decode code 245 = .ok (.aload_n 3, 1) := by decide +kernel
theorem dL_law_246 : decode code 246 = .ok (.iconst 0, 1) := by decide +kernel
theorem dL_law_247 : decode code 247 = .ok (.laload, 1) := by decide +kernel
theorem dL_law_248 : decode code 248 = .ok (.iload 6, 2) := by decide +kernel
theorem dL_law_250 : decode code 250 = .ok (.i2l, 1) := by decide +kernel
theorem dL_law_251 : decode code 251 = .ok (.lcmp, 1) := by decide +kernel
theorem dL_law_252 : decode code 252 = .ok (.ifCond .eq 5, 3) := by decide +kernel
theorem dL_law_255 : decode code 255 = .ok (.iconst 0, 1) := by decide +kernel
theorem dL_law_256 : decode code 256 = .ok (.ireturn, 1) := by decide +kernel
theorem dL_law_257 : decode code 257 = .ok (.goto 492, 3) := by decide +kernel
theorem dL_law_260 : decode code 260 = .ok (.aload_n 1, 1) := by decide +kernel
theorem dL_law_261 : decode code 261 = .ok (.aload_n 0, 1) := by decide +kernel
theorem dL_law_262 : decode code 262 = .ok (.iload 4, 2) := by decide +kernel
theorem dL_law_264 : decode code 264 = .ok (.iconst 1, 1) := by decide +kernel
theorem dL_law_265 : decode code 265 = .ok (.iadd, 1) := by decide +kernel
theorem dL_law_266 : decode code 266 = .ok (.iaload, 1) := by decide +kernel
theorem dL_law_267 : decode code 267 = .ok (.ifCond .eq 7, 3) := by decide +kernel
theorem dL_law_270 : decode code 270 = .ok (.iconst 1, 1) := by decide +kernel
theorem dL_law_271 : decode code 271 = .ok (.goto 4, 3) := by decide +kernel
theorem dL_law_274 : decode code 274 = .ok (.iconst 0, 1) := by decide +kernel
theorem dL_law_275 : decode code 275 = .ok (.aload_n 0, 1) := by decide +kernel
theorem dL_law_276 : decode code 276 = .ok (.iload 4, 2) := by decide +kernel
theorem dL_law_278 : decode code 278 = .ok (.iconst 2, 1) := by decide +kernel
theorem dL_law_279 : decode code 279 = .ok (.iadd, 1) := by decide +kernel
theorem dL_law_280 : decode code 280 = .ok (.iaload, 1) := by decide +kernel
theorem dL_law_281 : decode code 281 = .ok (.aload_n 3, 1) := by decide +kernel
theorem dL_law_282 : decode code 282 = .ok (.invokestatic 65, 3) := by decide +kernel
theorem dL_law_285 : decode code 285 = .ok (.istore 5, 2) := by decide +kernel
theorem dL_law_287 : decode code 287 = .ok (.aload_n 2, 1) := by decide +kernel
theorem dL_law_288 : decode code 288 = .ok (.aload_n 0, 1) := by decide +kernel
theorem dL_law_289 : decode code 289 = .ok (.iload 4, 2) := by decide +kernel
theorem dL_law_291 : decode code 291 = .ok (.iconst 1, 1) := by decide +kernel
theorem dL_law_292 : decode code 292 = .ok (.iadd, 1) := by decide +kernel
theorem dL_law_293 : decode code 293 = .ok (.iaload, 1) := by decide +kernel
theorem dL_law_294 : decode code 294 = .ok (.ifCond .eq 7, 3) := by decide +kernel
theorem dL_law_297 : decode code 297 = .ok (.iconst 1, 1) := by decide +kernel
theorem dL_law_298 : decode code 298 = .ok (.goto 4, 3) := by decide +kernel
theorem dL_law_301 : decode code 301 = .ok (.iconst 0, 1) := by decide +kernel
theorem dL_law_302 : decode code 302 = .ok (.aload_n 0, 1) := by decide +kernel
theorem dL_law_303 : decode code 303 = .ok (.iload 4, 2) := by decide +kernel
theorem dL_law_305 : decode code 305 = .ok (.iconst 2, 1) := by decide +kernel
theorem dL_law_306 : decode code 306 = .ok (.iadd, 1) := by decide +kernel
theorem dL_law_307 : decode code 307 = .ok (.iaload, 1) := by decide +kernel
theorem dL_law_308 : decode code 308 = .ok (.invokevirtual 68, 3) := by decide +kernel
theorem dL_law_311 : decode code 311 = .ok (.istore 6, 2) := by decide +kernel
theorem dL_law_313 : decode code 313 = .ok (.aload_n 2, 1) := by decide +kernel
theorem dL_law_314 : decode code 314 = .ok (.invokevirtual 61, 3) := by decide +kernel
theorem dL_law_317 : decode code 317 = .ok (.iload 5, 2) := by decide +kernel
theorem dL_law_319 : decode code 319 = .ok (.if_icmp .eq 5, 3) := by decide +kernel
theorem dL_law_322 : decode code 322 = .ok (.iconst 0, 1) := by decide +kernel
theorem dL_law_323 : decode code 323 = .ok (.ireturn, 1) := by decide +kernel
theorem dL_law_324 : decode code 324 = .ok (.iload 5, 2) := by decide +kernel
theorem dL_law_326 : decode code 326 = .ok (.ifCond .ne 22, 3) := by decide +kernel
theorem dL_law_329 : decode code 329 = .ok (.aload_n 3, 1) := by decide +kernel
theorem dL_law_330 : decode code 330 = .ok (.iconst 0, 1) := by decide +kernel
theorem dL_law_331 : decode code 331 = .ok (.laload, 1) := by decide +kernel
theorem dL_law_332 : decode code 332 = .ok (.iload 6, 2) := by decide +kernel
theorem dL_law_334 : decode code 334 = .ok (.ifCond .eq 7, 3) := by decide +kernel
theorem dL_law_337 : decode code 337 = .ok (.lconst 1, 1) := by decide +kernel
theorem dL_law_338 : decode code 338 = .ok (.goto 4, 3) := by decide +kernel
theorem dL_law_341 : decode code 341 = .ok (.lconst 0, 1) := by decide +kernel
theorem dL_law_342 : decode code 342 = .ok (.lcmp, 1) := by decide +kernel
theorem dL_law_343 : decode code 343 = .ok (.ifCond .eq 5, 3) := by decide +kernel
theorem dL_law_346 : decode code 346 = .ok (.iconst 0, 1) := by decide +kernel
theorem dL_law_347 : decode code 347 = .ok (.ireturn, 1) := by decide +kernel
theorem dL_law_348 : decode code 348 = .ok (.goto 401, 3) := by decide +kernel
theorem dL_law_351 : decode code 351 = .ok (.aload_n 1, 1) := by decide +kernel
theorem dL_law_352 : decode code 352 = .ok (.invokevirtual 69, 3) := by decide +kernel
theorem dL_law_355 : decode code 355 = .ok (.aload_n 2, 1) := by decide +kernel
theorem dL_law_356 : decode code 356 = .ok (.invokevirtual 72, 3) := by decide +kernel
theorem dL_law_359 : decode code 359 = .ok (.if_icmp .eq 390, 3) := by decide +kernel
theorem dL_law_362 : decode code 362 = .ok (.iconst 0, 1) := by decide +kernel
theorem dL_law_363 : decode code 363 = .ok (.ireturn, 1) := by decide +kernel
theorem dL_law_364 : decode code 364 = .ok (.aload_n 1, 1) := by decide +kernel
theorem dL_law_365 : decode code 365 = .ok (.aload_n 0, 1) := by decide +kernel
theorem dL_law_366 : decode code 366 = .ok (.iload 4, 2) := by decide +kernel
theorem dL_law_368 : decode code 368 = .ok (.iconst 1, 1) := by decide +kernel
theorem dL_law_369 : decode code 369 = .ok (.iadd, 1) := by decide +kernel
theorem dL_law_370 : decode code 370 = .ok (.iaload, 1) := by decide +kernel
theorem dL_law_371 : decode code 371 = .ok (.aload_n 3, 1) := by decide +kernel
theorem dL_law_372 : decode code 372 = .ok (.invokestatic 73, 3) := by decide +kernel
theorem dL_law_375 : decode code 375 = .ok (.istore 5, 2) := by decide +kernel
theorem dL_law_377 : decode code 377 = .ok (.aload_n 2, 1) := by decide +kernel
theorem dL_law_378 : decode code 378 = .ok (.aload_n 0, 1) := by decide +kernel
theorem dL_law_379 : decode code 379 = .ok (.iload 4, 2) := by decide +kernel
theorem dL_law_381 : decode code 381 = .ok (.iconst 1, 1) := by decide +kernel
theorem dL_law_382 : decode code 382 = .ok (.iadd, 1) := by decide +kernel
theorem dL_law_383 : decode code 383 = .ok (.iaload, 1) := by decide +kernel
theorem dL_law_384 : decode code 384 = .ok (.invokevirtual 76, 3) := by decide +kernel
theorem dL_law_387 : decode code 387 = .ok (.istore 6, 2) := by decide +kernel
theorem dL_law_389 : decode code 389 = .ok (.aload_n 2, 1) := by decide +kernel
theorem dL_law_390 : decode code 390 = .ok (.invokevirtual 61, 3) := by decide +kernel
theorem dL_law_393 : decode code 393 = .ok (.iload 5, 2) := by decide +kernel
theorem dL_law_395 : decode code 395 = .ok (.if_icmp .eq 5, 3) := by decide +kernel
theorem dL_law_398 : decode code 398 = .ok (.iconst 0, 1) := by decide +kernel
theorem dL_law_399 : decode code 399 = .ok (.ireturn, 1) := by decide +kernel
theorem dL_law_400 : decode code 400 = .ok (.iload 5, 2) := by decide +kernel
theorem dL_law_402 : decode code 402 = .ok (.ifCond .ne 15, 3) := by decide +kernel
theorem dL_law_405 : decode code 405 = .ok (.aload_n 3, 1) := by decide +kernel
theorem dL_law_406 : decode code 406 = .ok (.iconst 0, 1) := by decide +kernel
theorem dL_law_407 : decode code 407 = .ok (.laload, 1) := by decide +kernel
theorem dL_law_408 : decode code 408 = .ok (.iload 6, 2) := by decide +kernel
theorem dL_law_410 : decode code 410 = .ok (.i2l, 1) := by decide +kernel
theorem dL_law_411 : decode code 411 = .ok (.lcmp, 1) := by decide +kernel
theorem dL_law_412 : decode code 412 = .ok (.ifCond .eq 5, 3) := by decide +kernel
theorem dL_law_415 : decode code 415 = .ok (.iconst 0, 1) := by decide +kernel
theorem dL_law_416 : decode code 416 = .ok (.ireturn, 1) := by decide +kernel
theorem dL_law_417 : decode code 417 = .ok (.goto 332, 3) := by decide +kernel
theorem dL_law_420 : decode code 420 = .ok (.aload_n 1, 1) := by decide +kernel
theorem dL_law_421 : decode code 421 = .ok (.aload_n 0, 1) := by decide +kernel
theorem dL_law_422 : decode code 422 = .ok (.iload 4, 2) := by decide +kernel
theorem dL_law_424 : decode code 424 = .ok (.iconst 1, 1) := by decide +kernel
theorem dL_law_425 : decode code 425 = .ok (.iadd, 1) := by decide +kernel
theorem dL_law_426 : decode code 426 = .ok (.iaload, 1) := by decide +kernel
theorem dL_law_427 : decode code 427 = .ok (.aload_n 0, 1) := by decide +kernel
theorem dL_law_428 : decode code 428 = .ok (.iload 4, 2) := by decide +kernel
theorem dL_law_430 : decode code 430 = .ok (.iconst 2, 1) := by decide +kernel
theorem dL_law_431 : decode code 431 = .ok (.iadd, 1) := by decide +kernel
theorem dL_law_432 : decode code 432 = .ok (.iaload, 1) := by decide +kernel
theorem dL_law_433 : decode code 433 = .ok (.aload_n 3, 1) := by decide +kernel
theorem dL_law_434 : decode code 434 = .ok (.invokestatic 77, 3) := by decide +kernel
theorem dL_law_437 : decode code 437 = .ok (.istore 5, 2) := by decide +kernel
theorem dL_law_439 : decode code 439 = .ok (.aload_n 2, 1) := by decide +kernel
theorem dL_law_440 : decode code 440 = .ok (.aload_n 0, 1) := by decide +kernel
theorem dL_law_441 : decode code 441 = .ok (.iload 4, 2) := by decide +kernel
theorem dL_law_443 : decode code 443 = .ok (.iconst 1, 1) := by decide +kernel
theorem dL_law_444 : decode code 444 = .ok (.iadd, 1) := by decide +kernel
theorem dL_law_445 : decode code 445 = .ok (.iaload, 1) := by decide +kernel
theorem dL_law_446 : decode code 446 = .ok (.aload_n 0, 1) := by decide +kernel
theorem dL_law_447 : decode code 447 = .ok (.iload 4, 2) := by decide +kernel
theorem dL_law_449 : decode code 449 = .ok (.iconst 2, 1) := by decide +kernel
theorem dL_law_450 : decode code 450 = .ok (.iadd, 1) := by decide +kernel
theorem dL_law_451 : decode code 451 = .ok (.iaload, 1) := by decide +kernel
theorem dL_law_452 : decode code 452 = .ok (.invokevirtual 80, 3) := by decide +kernel
theorem dL_law_455 : decode code 455 = .ok (.istore 6, 2) := by decide +kernel
theorem dL_law_457 : decode code 457 = .ok (.aload_n 2, 1) := by decide +kernel
theorem dL_law_458 : decode code 458 = .ok (.invokevirtual 61, 3) := by decide +kernel
theorem dL_law_461 : decode code 461 = .ok (.iload 5, 2) := by decide +kernel
theorem dL_law_463 : decode code 463 = .ok (.if_icmp .eq 5, 3) := by decide +kernel
theorem dL_law_466 : decode code 466 = .ok (.iconst 0, 1) := by decide +kernel
theorem dL_law_467 : decode code 467 = .ok (.ireturn, 1) := by decide +kernel
theorem dL_law_468 : decode code 468 = .ok (.iload 5, 2) := by decide +kernel
theorem dL_law_470 : decode code 470 = .ok (.ifCond .ne 15, 3) := by decide +kernel
theorem dL_law_473 : decode code 473 = .ok (.aload_n 3, 1) := by decide +kernel
theorem dL_law_474 : decode code 474 = .ok (.iconst 0, 1) := by decide +kernel
theorem dL_law_475 : decode code 475 = .ok (.laload, 1) := by decide +kernel
theorem dL_law_476 : decode code 476 = .ok (.iload 6, 2) := by decide +kernel
theorem dL_law_478 : decode code 478 = .ok (.i2l, 1) := by decide +kernel
theorem dL_law_479 : decode code 479 = .ok (.lcmp, 1) := by decide +kernel
theorem dL_law_480 : decode code 480 = .ok (.ifCond .eq 5, 3) := by decide +kernel
theorem dL_law_483 : decode code 483 = .ok (.iconst 0, 1) := by decide +kernel
theorem dL_law_484 : decode code 484 = .ok (.ireturn, 1) := by decide +kernel
theorem dL_law_485 : decode code 485 = .ok (.goto 264, 3) := by decide +kernel
theorem dL_law_488 : decode code 488 = .ok (.aload_n 1, 1) := by decide +kernel
theorem dL_law_489 : decode code 489 = .ok (.aload_n 0, 1) := by decide +kernel
theorem dL_law_490 : decode code 490 = .ok (.iload 4, 2) := by decide +kernel
theorem dL_law_492 : decode code 492 = .ok (.iconst 1, 1) := by decide +kernel
theorem dL_law_493 : decode code 493 = .ok (.iadd, 1) := by decide +kernel
theorem dL_law_494 : decode code 494 = .ok (.iaload, 1) := by decide +kernel
theorem dL_law_495 : decode code 495 = .ok (.aload_n 0, 1) := by decide +kernel
theorem dL_law_496 : decode code 496 = .ok (.iload 4, 2) := by decide +kernel
theorem dL_law_498 : decode code 498 = .ok (.iconst 2, 1) := by decide +kernel
theorem dL_law_499 : decode code 499 = .ok (.iadd, 1) := by decide +kernel
theorem dL_law_500 : decode code 500 = .ok (.iaload, 1) := by decide +kernel
theorem dL_law_501 : decode code 501 = .ok (.aload_n 3, 1) := by decide +kernel
theorem dL_law_502 : decode code 502 = .ok (.invokestatic 81, 3) := by decide +kernel
theorem dL_law_505 : decode code 505 = .ok (.istore 5, 2) := by decide +kernel
theorem dL_law_507 : decode code 507 = .ok (.aload_n 2, 1) := by decide +kernel
theorem dL_law_508 : decode code 508 = .ok (.aload_n 0, 1) := by decide +kernel
theorem dL_law_509 : decode code 509 = .ok (.iload 4, 2) := by decide +kernel
theorem dL_law_511 : decode code 511 = .ok (.iconst 1, 1) := by decide +kernel
theorem dL_law_512 : decode code 512 = .ok (.iadd, 1) := by decide +kernel
theorem dL_law_513 : decode code 513 = .ok (.iaload, 1) := by decide +kernel
theorem dL_law_514 : decode code 514 = .ok (.aload_n 0, 1) := by decide +kernel
theorem dL_law_515 : decode code 515 = .ok (.iload 4, 2) := by decide +kernel
theorem dL_law_517 : decode code 517 = .ok (.iconst 2, 1) := by decide +kernel
theorem dL_law_518 : decode code 518 = .ok (.iadd, 1) := by decide +kernel
theorem dL_law_519 : decode code 519 = .ok (.iaload, 1) := by decide +kernel
theorem dL_law_520 : decode code 520 = .ok (.invokevirtual 83, 3) := by decide +kernel
theorem dL_law_523 : decode code 523 = .ok (.istore 6, 2) := by decide +kernel
theorem dL_law_525 : decode code 525 = .ok (.aload_n 2, 1) := by decide +kernel
theorem dL_law_526 : decode code 526 = .ok (.invokevirtual 61, 3) := by decide +kernel
theorem dL_law_529 : decode code 529 = .ok (.iload 5, 2) := by decide +kernel
theorem dL_law_531 : decode code 531 = .ok (.if_icmp .eq 5, 3) := by decide +kernel
theorem dL_law_534 : decode code 534 = .ok (.iconst 0, 1) := by decide +kernel
theorem dL_law_535 : decode code 535 = .ok (.ireturn, 1) := by decide +kernel
theorem dL_law_536 : decode code 536 = .ok (.iload 5, 2) := by decide +kernel
theorem dL_law_538 : decode code 538 = .ok (.ifCond .ne 15, 3) := by decide +kernel
theorem dL_law_541 : decode code 541 = .ok (.aload_n 3, 1) := by decide +kernel
theorem dL_law_542 : decode code 542 = .ok (.iconst 0, 1) := by decide +kernel
theorem dL_law_543 : decode code 543 = .ok (.laload, 1) := by decide +kernel
theorem dL_law_544 : decode code 544 = .ok (.iload 6, 2) := by decide +kernel
theorem dL_law_546 : decode code 546 = .ok (.i2l, 1) := by decide +kernel
theorem dL_law_547 : decode code 547 = .ok (.lcmp, 1) := by decide +kernel
theorem dL_law_548 : decode code 548 = .ok (.ifCond .eq 5, 3) := by decide +kernel
theorem dL_law_551 : decode code 551 = .ok (.iconst 0, 1) := by decide +kernel
theorem dL_law_552 : decode code 552 = .ok (.ireturn, 1) := by decide +kernel
theorem dL_law_553 : decode code 553 = .ok (.goto 196, 3) := by decide +kernel
theorem dL_law_556 : decode code 556 = .ok (.aload_n 1, 1) := by decide +kernel
theorem dL_law_557 : decode code 557 = .ok (.aload_n 0, 1) := by decide +kernel
theorem dL_law_558 : decode code 558 = .ok (.iload 4, 2) := by decide +kernel
theorem dL_law_560 : decode code 560 = .ok (.iconst 1, 1) := by decide +kernel
theorem dL_law_561 : decode code 561 = .ok (.iadd, 1) := by decide +kernel
theorem dL_law_562 : decode code 562 = .ok (.iaload, 1) := by decide +kernel
theorem dL_law_563 : decode code 563 = .ok (.aload_n 3, 1) := by decide +kernel
theorem dL_law_564 : decode code 564 = .ok (.invokestatic 84, 3) := by decide +kernel
theorem dL_law_567 : decode code 567 = .ok (.istore 5, 2) := by decide +kernel
theorem dL_law_569 : decode code 569 = .ok (.aload_n 2, 1) := by decide +kernel
theorem dL_law_570 : decode code 570 = .ok (.aload_n 0, 1) := by decide +kernel
theorem dL_law_571 : decode code 571 = .ok (.iload 4, 2) := by decide +kernel
theorem dL_law_573 : decode code 573 = .ok (.iconst 1, 1) := by decide +kernel
theorem dL_law_574 : decode code 574 = .ok (.iadd, 1) := by decide +kernel
theorem dL_law_575 : decode code 575 = .ok (.iaload, 1) := by decide +kernel
theorem dL_law_576 : decode code 576 = .ok (.invokevirtual 86, 3) := by decide +kernel
theorem dL_law_579 : decode code 579 = .ok (.istore 6, 2) := by decide +kernel
theorem dL_law_581 : decode code 581 = .ok (.aload_n 2, 1) := by decide +kernel
theorem dL_law_582 : decode code 582 = .ok (.invokevirtual 61, 3) := by decide +kernel
theorem dL_law_585 : decode code 585 = .ok (.iload 5, 2) := by decide +kernel
theorem dL_law_587 : decode code 587 = .ok (.if_icmp .eq 5, 3) := by decide +kernel
theorem dL_law_590 : decode code 590 = .ok (.iconst 0, 1) := by decide +kernel
theorem dL_law_591 : decode code 591 = .ok (.ireturn, 1) := by decide +kernel
theorem dL_law_592 : decode code 592 = .ok (.iload 5, 2) := by decide +kernel
theorem dL_law_594 : decode code 594 = .ok (.ifCond .ne 15, 3) := by decide +kernel
theorem dL_law_597 : decode code 597 = .ok (.aload_n 3, 1) := by decide +kernel
theorem dL_law_598 : decode code 598 = .ok (.iconst 0, 1) := by decide +kernel
theorem dL_law_599 : decode code 599 = .ok (.laload, 1) := by decide +kernel
theorem dL_law_600 : decode code 600 = .ok (.iload 6, 2) := by decide +kernel
theorem dL_law_602 : decode code 602 = .ok (.i2l, 1) := by decide +kernel
theorem dL_law_603 : decode code 603 = .ok (.lcmp, 1) := by decide +kernel
theorem dL_law_604 : decode code 604 = .ok (.ifCond .eq 5, 3) := by decide +kernel
theorem dL_law_607 : decode code 607 = .ok (.iconst 0, 1) := by decide +kernel
theorem dL_law_608 : decode code 608 = .ok (.ireturn, 1) := by decide +kernel
theorem dL_law_609 : decode code 609 = .ok (.goto 140, 3) := by decide +kernel
theorem dL_law_612 : decode code 612 = .ok (.aload_n 1, 1) := by decide +kernel
theorem dL_law_613 : decode code 613 = .ok (.aload_n 0, 1) := by decide +kernel
theorem dL_law_614 : decode code 614 = .ok (.iload 4, 2) := by decide +kernel
theorem dL_law_616 : decode code 616 = .ok (.iconst 1, 1) := by decide +kernel
theorem dL_law_617 : decode code 617 = .ok (.iadd, 1) := by decide +kernel
theorem dL_law_618 : decode code 618 = .ok (.iaload, 1) := by decide +kernel
theorem dL_law_619 : decode code 619 = .ok (.aload_n 3, 1) := by decide +kernel
theorem dL_law_620 : decode code 620 = .ok (.invokestatic 87, 3) := by decide +kernel
theorem dL_law_623 : decode code 623 = .ok (.istore 5, 2) := by decide +kernel
theorem dL_law_625 : decode code 625 = .ok (.aload_n 2, 1) := by decide +kernel
theorem dL_law_626 : decode code 626 = .ok (.aload_n 0, 1) := by decide +kernel
theorem dL_law_627 : decode code 627 = .ok (.iload 4, 2) := by decide +kernel
theorem dL_law_629 : decode code 629 = .ok (.iconst 1, 1) := by decide +kernel
theorem dL_law_630 : decode code 630 = .ok (.iadd, 1) := by decide +kernel
theorem dL_law_631 : decode code 631 = .ok (.iaload, 1) := by decide +kernel
theorem dL_law_632 : decode code 632 = .ok (.invokevirtual 89, 3) := by decide +kernel
theorem dL_law_635 : decode code 635 = .ok (.istore 6, 2) := by decide +kernel
theorem dL_law_637 : decode code 637 = .ok (.aload_n 2, 1) := by decide +kernel
theorem dL_law_638 : decode code 638 = .ok (.invokevirtual 61, 3) := by decide +kernel
theorem dL_law_641 : decode code 641 = .ok (.iload 5, 2) := by decide +kernel
theorem dL_law_643 : decode code 643 = .ok (.if_icmp .eq 5, 3) := by decide +kernel
theorem dL_law_646 : decode code 646 = .ok (.iconst 0, 1) := by decide +kernel
theorem dL_law_647 : decode code 647 = .ok (.ireturn, 1) := by decide +kernel
theorem dL_law_648 : decode code 648 = .ok (.iload 5, 2) := by decide +kernel
theorem dL_law_650 : decode code 650 = .ok (.ifCond .ne 15, 3) := by decide +kernel
theorem dL_law_653 : decode code 653 = .ok (.aload_n 3, 1) := by decide +kernel
theorem dL_law_654 : decode code 654 = .ok (.iconst 0, 1) := by decide +kernel
theorem dL_law_655 : decode code 655 = .ok (.laload, 1) := by decide +kernel
theorem dL_law_656 : decode code 656 = .ok (.iload 6, 2) := by decide +kernel
theorem dL_law_658 : decode code 658 = .ok (.i2l, 1) := by decide +kernel
theorem dL_law_659 : decode code 659 = .ok (.lcmp, 1) := by decide +kernel
theorem dL_law_660 : decode code 660 = .ok (.ifCond .eq 5, 3) := by decide +kernel
theorem dL_law_663 : decode code 663 = .ok (.iconst 0, 1) := by decide +kernel
theorem dL_law_664 : decode code 664 = .ok (.ireturn, 1) := by decide +kernel
theorem dL_law_665 : decode code 665 = .ok (.goto 84, 3) := by decide +kernel
theorem dL_law_668 : decode code 668 = .ok (.aload_n 1, 1) := by decide +kernel
theorem dL_law_669 : decode code 669 = .ok (.aload_n 0, 1) := by decide +kernel
theorem dL_law_670 : decode code 670 = .ok (.iload 4, 2) := by decide +kernel
theorem dL_law_672 : decode code 672 = .ok (.iconst 1, 1) := by decide +kernel
theorem dL_law_673 : decode code 673 = .ok (.iadd, 1) := by decide +kernel
theorem dL_law_674 : decode code 674 = .ok (.iaload, 1) := by decide +kernel
theorem dL_law_675 : decode code 675 = .ok (.aload_n 3, 1) := by decide +kernel
theorem dL_law_676 : decode code 676 = .ok (.invokestatic 90, 3) := by decide +kernel
theorem dL_law_679 : decode code 679 = .ok (.istore 5, 2) := by decide +kernel
theorem dL_law_681 : decode code 681 = .ok (.aload_n 2, 1) := by decide +kernel
theorem dL_law_682 : decode code 682 = .ok (.aload_n 0, 1) := by decide +kernel
theorem dL_law_683 : decode code 683 = .ok (.iload 4, 2) := by decide +kernel
theorem dL_law_685 : decode code 685 = .ok (.iconst 1, 1) := by decide +kernel
theorem dL_law_686 : decode code 686 = .ok (.iadd, 1) := by decide +kernel
theorem dL_law_687 : decode code 687 = .ok (.iaload, 1) := by decide +kernel
theorem dL_law_688 : decode code 688 = .ok (.invokevirtual 92, 3) := by decide +kernel
theorem dL_law_691 : decode code 691 = .ok (.istore 6, 2) := by decide +kernel
theorem dL_law_693 : decode code 693 = .ok (.aload_n 2, 1) := by decide +kernel
theorem dL_law_694 : decode code 694 = .ok (.invokevirtual 61, 3) := by decide +kernel
theorem dL_law_697 : decode code 697 = .ok (.iload 5, 2) := by decide +kernel
theorem dL_law_699 : decode code 699 = .ok (.if_icmp .eq 5, 3) := by decide +kernel
theorem dL_law_702 : decode code 702 = .ok (.iconst 0, 1) := by decide +kernel
theorem dL_law_703 : decode code 703 = .ok (.ireturn, 1) := by decide +kernel
theorem dL_law_704 : decode code 704 = .ok (.iload 5, 2) := by decide +kernel
theorem dL_law_706 : decode code 706 = .ok (.ifCond .ne 15, 3) := by decide +kernel
theorem dL_law_709 : decode code 709 = .ok (.aload_n 3, 1) := by decide +kernel
theorem dL_law_710 : decode code 710 = .ok (.iconst 0, 1) := by decide +kernel
theorem dL_law_711 : decode code 711 = .ok (.laload, 1) := by decide +kernel
theorem dL_law_712 : decode code 712 = .ok (.iload 6, 2) := by decide +kernel
theorem dL_law_714 : decode code 714 = .ok (.i2l, 1) := by decide +kernel
theorem dL_law_715 : decode code 715 = .ok (.lcmp, 1) := by decide +kernel
theorem dL_law_716 : decode code 716 = .ok (.ifCond .eq 5, 3) := by decide +kernel
theorem dL_law_719 : decode code 719 = .ok (.iconst 0, 1) := by decide +kernel
theorem dL_law_720 : decode code 720 = .ok (.ireturn, 1) := by decide +kernel
theorem dL_law_721 : decode code 721 = .ok (.goto 28, 3) := by decide +kernel
theorem dL_law_724 : decode code 724 = .ok (.aload_n 1, 1) := by decide +kernel
theorem dL_law_725 : decode code 725 = .ok (.aload_n 0, 1) := by decide +kernel
theorem dL_law_726 : decode code 726 = .ok (.iload 4, 2) := by decide +kernel
theorem dL_law_728 : decode code 728 = .ok (.iconst 1, 1) := by decide +kernel
theorem dL_law_729 : decode code 729 = .ok (.iadd, 1) := by decide +kernel
theorem dL_law_730 : decode code 730 = .ok (.iaload, 1) := by decide +kernel
theorem dL_law_731 : decode code 731 = .ok (.invokevirtual 93, 3) := by decide +kernel
theorem dL_law_734 : decode code 734 = .ok (.aload_n 2, 1) := by decide +kernel
theorem dL_law_735 : decode code 735 = .ok (.aload_n 0, 1) := by decide +kernel
theorem dL_law_736 : decode code 736 = .ok (.iload 4, 2) := by decide +kernel
theorem dL_law_738 : decode code 738 = .ok (.iconst 1, 1) := by decide +kernel
theorem dL_law_739 : decode code 739 = .ok (.iadd, 1) := by decide +kernel
theorem dL_law_740 : decode code 740 = .ok (.iaload, 1) := by decide +kernel
theorem dL_law_741 : decode code 741 = .ok (.invokevirtual 96, 3) := by decide +kernel
theorem dL_law_744 : decode code 744 = .ok (.if_icmp .eq 5, 3) := by decide +kernel
theorem dL_law_747 : decode code 747 = .ok (.iconst 0, 1) := by decide +kernel
theorem dL_law_748 : decode code 748 = .ok (.ireturn, 1) := by decide +kernel
theorem dL_law_749 : decode code 749 = .ok (.iinc 4 6, 3) := by decide +kernel
theorem dL_law_752 : decode code 752 = .ok (.goto (-668), 3) := by decide +kernel
theorem dL_law_755 : decode code 755 = .ok (.iconst 1, 1) := by decide +kernel
theorem dL_law_756 : decode code 756 = .ok (.ireturn, 1) := by decide +kernel
end
section
/-! The walk in my own words: J says 'from any heap that holds the world w, with these locals and this stack, the method at pc comes to Q'. What stays the same through a body is jC. -/
section JB
def jC (p : Program) (s : State) (m : MethodId) (args : Array Value) (meth : Method) (c : Code) (cc : ByteArray) (nL : Nat) (own : String) (Ts : List Cond) (D : va_G) (cl : List vw_C) (tys : List (ClassId × FieldType)) (A : Nat → Prop) : Prop :=
  p.tables.exec = Jvm.exec ∧ c.code = cc ∧ c.maxLocals = nL ∧ s.vm.findClass own = some m.cls ∧ (∀ w ∈ Ts, w.before args s = true) ∧ va_K D cl tys s ∧ (∀ q : Nat, s.heap.size ≤ q → A q) ∧ meth.locks = false ∧ GoodIn Ts Ts
def J (p : Program) (l : Launch) (e : Env) (R : Room) (s : State) (m : MethodId) (args : Array Value) (below : List Frame) (meth : Method) (c : Code) (D : va_G) (cl : List vw_C) (A : Nat → Prop) (nL cells slots : Nat) (Q : State → Prop) (w : va_W) (pc : Nat) (lv : List (Nat × Value)) (st : List Value) : Prop :=
  ∀ (H : Heap) (locs : List Loc) (ls : Array Slot), va_P D cl w H → va_D A w → va_S A s.heap H locs → lv_has ls nL lv → W p l e R s m args below meth c H locs cells slots Q (F0 m pc ls st)
variable {p : Program} {l : Launch} {e : Env} {R : Room} {s : State} {m : MethodId} {args : Array Value} {below : List Frame} {meth : Method} {c : Code} {cc : ByteArray} {nL : Nat} {own : String} {Ts : List Cond} {D : va_G} {cl : List vw_C} {tys : List (ClassId × FieldType)} {A : Nat → Prop} {cells slots : Nat} {Q : State → Prop} {w : va_W} {pc : Nat} {lv : List (Nat × Value)} {st : List Value}
theorem j_world {w' : va_W} (hw : w = w') (kk : J p l e R s m args below meth c D cl A nL cells slots Q w' pc lv st) : J p l e R s m args below meth c D cl A nL cells slots Q w pc lv st := by subst hw; exact kk
theorem j_lv {lv' : List (Nat × Value)} (ks : List Nat) (hl : lv_pick lv ks = lv') (kk : J p l e R s m args below meth c D cl A nL cells slots Q w pc lv' st) : J p l e R s m args below meth c D cl A nL cells slots Q w pc lv st :=
  fun H locs ls hP hD hS h => kk H locs ls hP hD hS (lv_sub h ks hl)
theorem j_widen {k n : Nat} (h1 : cells ≤ k) (h2 : slots ≤ n) (kk : J p l e R s m args below meth c D cl A nL k n Q w pc lv st) : J p l e R s m args below meth c D cl A nL cells slots Q w pc lv st :=
  fun H locs ls hP hD hS h => W.widen h1 h2 (kk H locs ls hP hD hS h)
theorem j_iconst (h : jC p s m args meth c cc nL own Ts D cl tys A) {n : Int} {v : Int32} (hd : decode cc pc = .ok (.iconst n, 1)) (hv : Int32.ofInt n = v) (kk : J p l e R s m args below meth c D cl A nL cells slots Q w (pc + 1) lv (.int v :: st)) : J p l e R s m args below meth c D cl A nL cells slots Q w pc lv st :=
  fun H locs ls hP hD hS hl => lv_iconst h.1 h.2.1 hd hv (kk H locs ls hP hD hS hl)
theorem j_bipush (h : jC p s m args meth c cc nL own Ts D cl tys A) {n : Int} {v : Int32} (hd : decode cc pc = .ok (.bipush n, 2)) (hv : (Int8.ofInt n).toInt32 = v) (kk : J p l e R s m args below meth c D cl A nL cells slots Q w (pc + 2) lv (.int v :: st)) : J p l e R s m args below meth c D cl A nL cells slots Q w pc lv st :=
  fun H locs ls hP hD hS hl => lv_bipush h.1 h.2.1 hd hv (kk H locs ls hP hD hS hl)
theorem j_sipush (h : jC p s m args meth c cc nL own Ts D cl tys A) {n : Int} {v : Int32} (hd : decode cc pc = .ok (.sipush n, 3)) (hv : (Int16.ofInt n).toInt32 = v) (kk : J p l e R s m args below meth c D cl A nL cells slots Q w (pc + 3) lv (.int v :: st)) : J p l e R s m args below meth c D cl A nL cells slots Q w pc lv st :=
  fun H locs ls hP hD hS hl => lv_sipush h.1 h.2.1 hd hv (kk H locs ls hP hD hS hl)
theorem j_lconst (h : jC p s m args meth c cc nL own Ts D cl tys A) {n : Fin 2} {v : Int64} (hd : decode cc pc = .ok (.lconst n, 1)) (hv : Int64.ofNat (n : Nat) = v) (kk : J p l e R s m args below meth c D cl A nL cells slots Q w (pc + 1) lv (.long v :: st)) : J p l e R s m args below meth c D cl A nL cells slots Q w pc lv st :=
  fun H locs ls hP hD hS hl => lv_lconst h.1 h.2.1 hd hv (kk H locs ls hP hD hS hl)
theorem j_iload_n (h : jC p s m args meth c cc nL own Ts D cl tys A) (j : Nat) {k : Fin 4} {i : Nat} {x : Int32} (hd : decode cc pc = .ok (.iload_n k, 1)) (hi : (k : Nat) = i) (hj : lv[j]? = some (i, .int x)) (kk : J p l e R s m args below meth c D cl A nL cells slots Q w (pc + 1) lv (.int x :: st)) : J p l e R s m args below meth c D cl A nL cells slots Q w pc lv st :=
  fun H locs ls hP hD hS hl => lv_iload_n h.1 h.2.1 hd hi (lv_at hl j hj) (kk H locs ls hP hD hS hl)
theorem j_iload (h : jC p s m args meth c cc nL own Ts D cl tys A) (j : Nat) {i : Nat} {x : Int32} (hd : decode cc pc = .ok (.iload i, 2)) (hj : lv[j]? = some (i, .int x)) (kk : J p l e R s m args below meth c D cl A nL cells slots Q w (pc + 2) lv (.int x :: st)) : J p l e R s m args below meth c D cl A nL cells slots Q w pc lv st :=
  fun H locs ls hP hD hS hl => lv_iload h.1 h.2.1 hd (lv_at hl j hj) (kk H locs ls hP hD hS hl)
theorem j_aload_n (h : jC p s m args meth c cc nL own Ts D cl tys A) (j : Nat) {k : Fin 4} {i x : Nat} (hd : decode cc pc = .ok (.aload_n k, 1)) (hi : (k : Nat) = i) (hj : lv[j]? = some (i, .ref x)) (kk : J p l e R s m args below meth c D cl A nL cells slots Q w (pc + 1) lv (.ref x :: st)) : J p l e R s m args below meth c D cl A nL cells slots Q w pc lv st :=
  fun H locs ls hP hD hS hl => lv_aload_n h.1 h.2.1 hd hi (lv_at hl j hj) (kk H locs ls hP hD hS hl)
theorem j_aload (h : jC p s m args meth c cc nL own Ts D cl tys A) (j : Nat) {i x : Nat} (hd : decode cc pc = .ok (.aload i, 2)) (hj : lv[j]? = some (i, .ref x)) (kk : J p l e R s m args below meth c D cl A nL cells slots Q w (pc + 2) lv (.ref x :: st)) : J p l e R s m args below meth c D cl A nL cells slots Q w pc lv st :=
  fun H locs ls hP hD hS hl => lv_aload h.1 h.2.1 hd (lv_at hl j hj) (kk H locs ls hP hD hS hl)
theorem j_istore_n (h : jC p s m args meth c cc nL own Ts D cl tys A) {k : Fin 4} {i : Nat} {x : Int32} {lv' : List (Nat × Value)} (hd : decode cc pc = .ok (.istore_n k, 1)) (hi : (k : Nat) = i) (hn : i < nL) (hv : (i, Value.int x) :: lv.filter (fun q => !(q.1 == i) && !(q.1 + 1 == i && q.2.category == 2)) = lv') (kk : J p l e R s m args below meth c D cl A nL cells slots Q w (pc + 1) lv' st) : J p l e R s m args below meth c D cl A nL cells slots Q w pc lv (.int x :: st) :=
  fun H locs ls hP hD hS hl => lv_istore_n h.1 h.2.1 hd hi hl hn hv (fun ls' hl' => kk H locs ls' hP hD hS hl')
theorem j_istore (h : jC p s m args meth c cc nL own Ts D cl tys A) {i : Nat} {x : Int32} {lv' : List (Nat × Value)} (hd : decode cc pc = .ok (.istore i, 2)) (hn : i < nL) (hv : (i, Value.int x) :: lv.filter (fun q => !(q.1 == i) && !(q.1 + 1 == i && q.2.category == 2)) = lv') (kk : J p l e R s m args below meth c D cl A nL cells slots Q w (pc + 2) lv' st) : J p l e R s m args below meth c D cl A nL cells slots Q w pc lv (.int x :: st) :=
  fun H locs ls hP hD hS hl => lv_istore h.1 h.2.1 hd hl hn hv (fun ls' hl' => kk H locs ls' hP hD hS hl')
theorem j_astore_n (h : jC p s m args meth c cc nL own Ts D cl tys A) {k : Fin 4} {i x : Nat} {lv' : List (Nat × Value)} (hd : decode cc pc = .ok (.astore_n k, 1)) (hi : (k : Nat) = i) (hn : i < nL) (hv : (i, Value.ref x) :: lv.filter (fun q => !(q.1 == i) && !(q.1 + 1 == i && q.2.category == 2)) = lv') (kk : J p l e R s m args below meth c D cl A nL cells slots Q w (pc + 1) lv' st) : J p l e R s m args below meth c D cl A nL cells slots Q w pc lv (.ref x :: st) :=
  fun H locs ls hP hD hS hl => lv_astore_n h.1 h.2.1 hd hi hl hn hv (fun ls' hl' => kk H locs ls' hP hD hS hl')
theorem j_astore (h : jC p s m args meth c cc nL own Ts D cl tys A) {i x : Nat} {lv' : List (Nat × Value)} (hd : decode cc pc = .ok (.astore i, 2)) (hn : i < nL) (hv : (i, Value.ref x) :: lv.filter (fun q => !(q.1 == i) && !(q.1 + 1 == i && q.2.category == 2)) = lv') (kk : J p l e R s m args below meth c D cl A nL cells slots Q w (pc + 2) lv' st) : J p l e R s m args below meth c D cl A nL cells slots Q w pc lv (.ref x :: st) :=
  fun H locs ls hP hD hS hl => lv_astore h.1 h.2.1 hd hl hn hv (fun ls' hl' => kk H locs ls' hP hD hS hl')
theorem j_iinc (h : jC p s m args meth c cc nL own Ts D cl tys A) (j : Nat) {i : Nat} {n : Int} {x v : Int32} {lv' : List (Nat × Value)} (hd : decode cc pc = .ok (.iinc i n, 3)) (hj : lv[j]? = some (i, .int x)) (hx : x + Int32.ofInt n = v) (hn : i < nL) (hv : (i, Value.int v) :: lv.filter (fun q => !(q.1 == i) && !(q.1 + 1 == i && q.2.category == 2)) = lv') (kk : J p l e R s m args below meth c D cl A nL cells slots Q w (pc + 3) lv' st) : J p l e R s m args below meth c D cl A nL cells slots Q w pc lv st :=
  fun H locs ls hP hD hS hl => lv_iinc h.1 h.2.1 hd hl hj hx hn hv (fun ls' hl' => kk H locs ls' hP hD hS hl')
theorem j_iadd (h : jC p s m args meth c cc nL own Ts D cl tys A) {x y : Int32} (hd : decode cc pc = .ok (.iadd, 1)) (kk : J p l e R s m args below meth c D cl A nL cells slots Q w (pc + 1) lv (.int (x + y) :: st)) : J p l e R s m args below meth c D cl A nL cells slots Q w pc lv (.int y :: .int x :: st) :=
  fun H locs ls hP hD hS hl => lv_iadd h.1 h.2.1 hd (kk H locs ls hP hD hS hl)
theorem j_isub (h : jC p s m args meth c cc nL own Ts D cl tys A) {x y : Int32} (hd : decode cc pc = .ok (.isub, 1)) (kk : J p l e R s m args below meth c D cl A nL cells slots Q w (pc + 1) lv (.int (x - y) :: st)) : J p l e R s m args below meth c D cl A nL cells slots Q w pc lv (.int y :: .int x :: st) :=
  fun H locs ls hP hD hS hl => lv_isub h.1 h.2.1 hd (kk H locs ls hP hD hS hl)
theorem j_imul (h : jC p s m args meth c cc nL own Ts D cl tys A) {x y : Int32} (hd : decode cc pc = .ok (.imul, 1)) (kk : J p l e R s m args below meth c D cl A nL cells slots Q w (pc + 1) lv (.int (x * y) :: st)) : J p l e R s m args below meth c D cl A nL cells slots Q w pc lv (.int y :: .int x :: st) :=
  fun H locs ls hP hD hS hl => lv_imul h.1 h.2.1 hd (kk H locs ls hP hD hS hl)
theorem j_iand (h : jC p s m args meth c cc nL own Ts D cl tys A) {x y : Int32} (hd : decode cc pc = .ok (.iand, 1)) (kk : J p l e R s m args below meth c D cl A nL cells slots Q w (pc + 1) lv (.int (x &&& y) :: st)) : J p l e R s m args below meth c D cl A nL cells slots Q w pc lv (.int y :: .int x :: st) :=
  fun H locs ls hP hD hS hl => lv_iand h.1 h.2.1 hd (kk H locs ls hP hD hS hl)
theorem j_ixor (h : jC p s m args meth c cc nL own Ts D cl tys A) {x y : Int32} (hd : decode cc pc = .ok (.ixor, 1)) (kk : J p l e R s m args below meth c D cl A nL cells slots Q w (pc + 1) lv (.int (x ^^^ y) :: st)) : J p l e R s m args below meth c D cl A nL cells slots Q w pc lv (.int y :: .int x :: st) :=
  fun H locs ls hP hD hS hl => lv_ixor h.1 h.2.1 hd (kk H locs ls hP hD hS hl)
theorem j_irem (h : jC p s m args meth c cc nL own Ts D cl tys A) {x y : Int32} (hd : decode cc pc = .ok (.irem, 1)) (hne : ¬ y = 0) (kk : J p l e R s m args below meth c D cl A nL cells slots Q w (pc + 1) lv (.int (x - x / y * y) :: st)) : J p l e R s m args below meth c D cl A nL cells slots Q w pc lv (.int y :: .int x :: st) :=
  fun H locs ls hP hD hS hl => lv_irem h.1 h.2.1 hd hne (kk H locs ls hP hD hS hl)
theorem j_i2l (h : jC p s m args meth c cc nL own Ts D cl tys A) {x : Int32} {v : Int64} (hd : decode cc pc = .ok (.i2l, 1)) (hv : x.toInt64 = v) (kk : J p l e R s m args below meth c D cl A nL cells slots Q w (pc + 1) lv (.long v :: st)) : J p l e R s m args below meth c D cl A nL cells slots Q w pc lv (.int x :: st) :=
  fun H locs ls hP hD hS hl => lv_i2l h.1 h.2.1 hd hv (kk H locs ls hP hD hS hl)
theorem j_dup (h : jC p s m args meth c cc nL own Ts D cl tys A) {va : Value} (hd : decode cc pc = .ok (.dup, 1)) (hva : va.category = 1) (kk : J p l e R s m args below meth c D cl A nL cells slots Q w (pc + 1) lv (va :: va :: st)) : J p l e R s m args below meth c D cl A nL cells slots Q w pc lv (va :: st) :=
  fun H locs ls hP hD hS hl => lv_dup h.1 h.2.1 hd hva (kk H locs ls hP hD hS hl)
theorem j_pop (h : jC p s m args meth c cc nL own Ts D cl tys A) {va : Value} (hd : decode cc pc = .ok (.pop, 1)) (hva : va.category = 1) (kk : J p l e R s m args below meth c D cl A nL cells slots Q w (pc + 1) lv st) : J p l e R s m args below meth c D cl A nL cells slots Q w pc lv (va :: st) :=
  fun H locs ls hP hD hS hl => lv_pop h.1 h.2.1 hd hva (kk H locs ls hP hD hS hl)
theorem j_dup2 (h : jC p s m args meth c cc nL own Ts D cl tys A) {va vb : Value} (hd : decode cc pc = .ok (.dup2, 1)) (hva : va.category = 1) (hvb : vb.category = 1) (kk : J p l e R s m args below meth c D cl A nL cells slots Q w (pc + 1) lv (va :: vb :: va :: vb :: st)) : J p l e R s m args below meth c D cl A nL cells slots Q w pc lv (va :: vb :: st) :=
  fun H locs ls hP hD hS hl => lv_dup2_11 h.1 h.2.1 hd hva hvb (kk H locs ls hP hD hS hl)
theorem j_dup_x1 (h : jC p s m args meth c cc nL own Ts D cl tys A) {va vb : Value} (hd : decode cc pc = .ok (.dup_x1, 1)) (hva : va.category = 1) (hvb : vb.category = 1) (kk : J p l e R s m args below meth c D cl A nL cells slots Q w (pc + 1) lv (va :: vb :: va :: st)) : J p l e R s m args below meth c D cl A nL cells slots Q w pc lv (va :: vb :: st) :=
  fun H locs ls hP hD hS hl => lv_dup_x1 h.1 h.2.1 hd hva hvb (kk H locs ls hP hD hS hl)
theorem j_goto (h : jC p s m args meth c cc nL own Ts D cl tys A) {off : Int} {tgt : Nat} (hd : decode cc pc = .ok (.goto off, 3)) (ht : (pc : Int) + off = (tgt : Int)) (kk : J p l e R s m args below meth c D cl A nL cells slots Q w tgt lv st) : J p l e R s m args below meth c D cl A nL cells slots Q w pc lv st :=
  fun H locs ls hP hD hS hl => lv_goto h.1 h.2.1 hd ht (kk H locs ls hP hD hS hl)
theorem j_if_eq (h : jC p s m args meth c cc nL own Ts D cl tys A) {x : Int32} {off : Int} {tgt : Nat} (hd : decode cc pc = .ok (.ifCond .eq off, 3)) (ht : (pc : Int) + off = (tgt : Int)) (kt : x = 0 → J p l e R s m args below meth c D cl A nL cells slots Q w tgt lv st) (kf : ¬ x = 0 → J p l e R s m args below meth c D cl A nL cells slots Q w (pc + 3) lv st) : J p l e R s m args below meth c D cl A nL cells slots Q w pc lv (.int x :: st) :=
  fun H locs ls hP hD hS hl => lv_if_eq h.1 h.2.1 hd ht (fun q => kt q H locs ls hP hD hS hl) (fun q => kf q H locs ls hP hD hS hl)
theorem j_if_ne (h : jC p s m args meth c cc nL own Ts D cl tys A) {x : Int32} {off : Int} {tgt : Nat} (hd : decode cc pc = .ok (.ifCond .ne off, 3)) (ht : (pc : Int) + off = (tgt : Int)) (kt : ¬ x = 0 → J p l e R s m args below meth c D cl A nL cells slots Q w tgt lv st) (kf : x = 0 → J p l e R s m args below meth c D cl A nL cells slots Q w (pc + 3) lv st) : J p l e R s m args below meth c D cl A nL cells slots Q w pc lv (.int x :: st) :=
  fun H locs ls hP hD hS hl => lv_if_ne h.1 h.2.1 hd ht (fun q => kt q H locs ls hP hD hS hl) (fun q => kf q H locs ls hP hD hS hl)
theorem j_if_lt (h : jC p s m args meth c cc nL own Ts D cl tys A) {x : Int32} {off : Int} {tgt : Nat} (hd : decode cc pc = .ok (.ifCond .lt off, 3)) (ht : (pc : Int) + off = (tgt : Int)) (kt : x < 0 → J p l e R s m args below meth c D cl A nL cells slots Q w tgt lv st) (kf : ¬ x < 0 → J p l e R s m args below meth c D cl A nL cells slots Q w (pc + 3) lv st) : J p l e R s m args below meth c D cl A nL cells slots Q w pc lv (.int x :: st) :=
  fun H locs ls hP hD hS hl => lv_if_lt h.1 h.2.1 hd ht (fun q => kt q H locs ls hP hD hS hl) (fun q => kf q H locs ls hP hD hS hl)
theorem j_if_ge (h : jC p s m args meth c cc nL own Ts D cl tys A) {x : Int32} {off : Int} {tgt : Nat} (hd : decode cc pc = .ok (.ifCond .ge off, 3)) (ht : (pc : Int) + off = (tgt : Int)) (kt : 0 ≤ x → J p l e R s m args below meth c D cl A nL cells slots Q w tgt lv st) (kf : ¬ 0 ≤ x → J p l e R s m args below meth c D cl A nL cells slots Q w (pc + 3) lv st) : J p l e R s m args below meth c D cl A nL cells slots Q w pc lv (.int x :: st) :=
  fun H locs ls hP hD hS hl => lv_if_ge h.1 h.2.1 hd ht (fun q => kt q H locs ls hP hD hS hl) (fun q => kf q H locs ls hP hD hS hl)
theorem j_if_gt (h : jC p s m args meth c cc nL own Ts D cl tys A) {x : Int32} {off : Int} {tgt : Nat} (hd : decode cc pc = .ok (.ifCond .gt off, 3)) (ht : (pc : Int) + off = (tgt : Int)) (kt : 0 < x → J p l e R s m args below meth c D cl A nL cells slots Q w tgt lv st) (kf : ¬ 0 < x → J p l e R s m args below meth c D cl A nL cells slots Q w (pc + 3) lv st) : J p l e R s m args below meth c D cl A nL cells slots Q w pc lv (.int x :: st) :=
  fun H locs ls hP hD hS hl => lv_if_gt h.1 h.2.1 hd ht (fun q => kt q H locs ls hP hD hS hl) (fun q => kf q H locs ls hP hD hS hl)
theorem j_if_le (h : jC p s m args meth c cc nL own Ts D cl tys A) {x : Int32} {off : Int} {tgt : Nat} (hd : decode cc pc = .ok (.ifCond .le off, 3)) (ht : (pc : Int) + off = (tgt : Int)) (kt : x ≤ 0 → J p l e R s m args below meth c D cl A nL cells slots Q w tgt lv st) (kf : ¬ x ≤ 0 → J p l e R s m args below meth c D cl A nL cells slots Q w (pc + 3) lv st) : J p l e R s m args below meth c D cl A nL cells slots Q w pc lv (.int x :: st) :=
  fun H locs ls hP hD hS hl => lv_if_le h.1 h.2.1 hd ht (fun q => kt q H locs ls hP hD hS hl) (fun q => kf q H locs ls hP hD hS hl)
theorem j_icmp_eq (h : jC p s m args meth c cc nL own Ts D cl tys A) {x y : Int32} {off : Int} {tgt : Nat} (hd : decode cc pc = .ok (.if_icmp .eq off, 3)) (ht : (pc : Int) + off = (tgt : Int)) (kt : x = y → J p l e R s m args below meth c D cl A nL cells slots Q w tgt lv st) (kf : ¬ x = y → J p l e R s m args below meth c D cl A nL cells slots Q w (pc + 3) lv st) : J p l e R s m args below meth c D cl A nL cells slots Q w pc lv (.int y :: .int x :: st) :=
  fun H locs ls hP hD hS hl => lv_icmp_eq h.1 h.2.1 hd ht (fun q => kt q H locs ls hP hD hS hl) (fun q => kf q H locs ls hP hD hS hl)
theorem j_icmp_ne (h : jC p s m args meth c cc nL own Ts D cl tys A) {x y : Int32} {off : Int} {tgt : Nat} (hd : decode cc pc = .ok (.if_icmp .ne off, 3)) (ht : (pc : Int) + off = (tgt : Int)) (kt : ¬ x = y → J p l e R s m args below meth c D cl A nL cells slots Q w tgt lv st) (kf : x = y → J p l e R s m args below meth c D cl A nL cells slots Q w (pc + 3) lv st) : J p l e R s m args below meth c D cl A nL cells slots Q w pc lv (.int y :: .int x :: st) :=
  fun H locs ls hP hD hS hl => lv_icmp_ne h.1 h.2.1 hd ht (fun q => kt q H locs ls hP hD hS hl) (fun q => kf q H locs ls hP hD hS hl)
theorem j_icmp_lt (h : jC p s m args meth c cc nL own Ts D cl tys A) {x y : Int32} {off : Int} {tgt : Nat} (hd : decode cc pc = .ok (.if_icmp .lt off, 3)) (ht : (pc : Int) + off = (tgt : Int)) (kt : x < y → J p l e R s m args below meth c D cl A nL cells slots Q w tgt lv st) (kf : ¬ x < y → J p l e R s m args below meth c D cl A nL cells slots Q w (pc + 3) lv st) : J p l e R s m args below meth c D cl A nL cells slots Q w pc lv (.int y :: .int x :: st) :=
  fun H locs ls hP hD hS hl => lv_icmp_lt h.1 h.2.1 hd ht (fun q => kt q H locs ls hP hD hS hl) (fun q => kf q H locs ls hP hD hS hl)
theorem j_icmp_ge (h : jC p s m args meth c cc nL own Ts D cl tys A) {x y : Int32} {off : Int} {tgt : Nat} (hd : decode cc pc = .ok (.if_icmp .ge off, 3)) (ht : (pc : Int) + off = (tgt : Int)) (kt : y ≤ x → J p l e R s m args below meth c D cl A nL cells slots Q w tgt lv st) (kf : ¬ y ≤ x → J p l e R s m args below meth c D cl A nL cells slots Q w (pc + 3) lv st) : J p l e R s m args below meth c D cl A nL cells slots Q w pc lv (.int y :: .int x :: st) :=
  fun H locs ls hP hD hS hl => lv_icmp_ge h.1 h.2.1 hd ht (fun q => kt q H locs ls hP hD hS hl) (fun q => kf q H locs ls hP hD hS hl)
theorem j_icmp_gt (h : jC p s m args meth c cc nL own Ts D cl tys A) {x y : Int32} {off : Int} {tgt : Nat} (hd : decode cc pc = .ok (.if_icmp .gt off, 3)) (ht : (pc : Int) + off = (tgt : Int)) (kt : y < x → J p l e R s m args below meth c D cl A nL cells slots Q w tgt lv st) (kf : ¬ y < x → J p l e R s m args below meth c D cl A nL cells slots Q w (pc + 3) lv st) : J p l e R s m args below meth c D cl A nL cells slots Q w pc lv (.int y :: .int x :: st) :=
  fun H locs ls hP hD hS hl => lv_icmp_gt h.1 h.2.1 hd ht (fun q => kt q H locs ls hP hD hS hl) (fun q => kf q H locs ls hP hD hS hl)
theorem j_icmp_le (h : jC p s m args meth c cc nL own Ts D cl tys A) {x y : Int32} {off : Int} {tgt : Nat} (hd : decode cc pc = .ok (.if_icmp .le off, 3)) (ht : (pc : Int) + off = (tgt : Int)) (kt : x ≤ y → J p l e R s m args below meth c D cl A nL cells slots Q w tgt lv st) (kf : ¬ x ≤ y → J p l e R s m args below meth c D cl A nL cells slots Q w (pc + 3) lv st) : J p l e R s m args below meth c D cl A nL cells slots Q w pc lv (.int y :: .int x :: st) :=
  fun H locs ls hP hD hS hl => lv_icmp_le h.1 h.2.1 hd ht (fun q => kt q H locs ls hP hD hS hl) (fun q => kf q H locs ls hP hD hS hl)
theorem j_tableOut (h : jC p s m args meth c cc nL own Ts D cl tys A) {dflt lo hi : Int} {offs : Array Int} {len : Nat} {x : Int32} {tgt : Nat} (hd : decode cc pc = .ok (.tableswitch dflt lo hi offs, len)) (hx : x.toInt < lo ∨ hi < x.toInt) (ht : (pc : Int) + dflt = (tgt : Int)) (kk : J p l e R s m args below meth c D cl A nL cells slots Q w tgt lv st) : J p l e R s m args below meth c D cl A nL cells slots Q w pc lv (.int x :: st) :=
  fun H locs ls hP hD hS hl => lv_tableOut h.1 h.2.1 hd hx ht (kk H locs ls hP hD hS hl)
theorem j_tableIn (h : jC p s m args meth c cc nL own Ts D cl tys A) {dflt lo hi : Int} {offs : Array Int} {len : Nat} {x : Int32} {off : Int} {tgt : Nat} (hd : decode cc pc = .ok (.tableswitch dflt lo hi offs, len)) (h1 : ¬ x.toInt < lo) (h2 : ¬ hi < x.toInt) (ho : offs[(x.toInt - lo).toNat]? = some off) (ht : (pc : Int) + off = (tgt : Int)) (kk : J p l e R s m args below meth c D cl A nL cells slots Q w tgt lv st) : J p l e R s m args below meth c D cl A nL cells slots Q w pc lv (.int x :: st) :=
  fun H locs ls hP hD hS hl => lv_tableIn h.1 h.2.1 hd h1 h2 ho ht (kk H locs ls hP hD hS hl)
theorem j_lookup (h : jC p s m args meth c cc nL own Ts D cl tys A) {dflt : Int} {ps : Array (Int × Int)} {len : Nat} {x : Int32} {off : Int} {tgt : Nat} (hd : decode cc pc = .ok (.lookupswitch dflt ps, len)) (hp : (ps.toList.zip (ps.toList.drop 1)).all (fun (a, next) => a.1 < next.1) = true) (ho : Op.lookupswitch.offset ps.toList dflt x.toInt = off) (ht : (pc : Int) + off = (tgt : Int)) (kk : J p l e R s m args below meth c D cl A nL cells slots Q w tgt lv st) : J p l e R s m args below meth c D cl A nL cells slots Q w pc lv (.int x :: st) :=
  fun H locs ls hP hD hS hl => lv_lookup h.1 h.2.1 hd hp ho ht (kk H locs ls hP hD hS hl)
theorem j_get (h : jC p s m args meth c cc nL own Ts D cl tys A) {ref C : String} {T : u_T} {N ci index a : Nat} (hin : ∀ w ∈ u_ws C T N, w ∈ Ts) (q0 : Nat) {fs : List Value} (he : w[q0]? = some (a, .inr (ci, fs))) (hc : cl[ci]? = some (C, T, N)) (k : Nat) (hk : k < N) (hlink : Cond.fieldLink own index ref (T k).2.1 (T k).2.2.1 ∈ Ts) (href : (T k).1 = ref) {v : Value} (hv : fs[k]? = some v) (hd : decode cc pc = .ok (.getfield index, 3)) (kk : J p l e R s m args below meth c D cl A nL cells slots Q w (pc + 3) lv (v :: st)) : J p l e R s m args below meth c D cl A nL cells slots Q w pc lv (.ref a :: st) :=
  fun H locs ls hP hD hS hl => va_get h.1 h.2.1 h.2.2.2.2.1 hin h.2.2.2.1 h.2.2.2.2.2.1 hP q0 he hc k hk (h.2.2.2.2.1 _ hlink) (fun _ z => by rw [← href]; exact z) hv hd (kk H locs ls hP hD hS hl)
theorem j_put (h : jC p s m args meth c cc nL own Ts D cl tys A) {ref C : String} {T : u_T} {N ci index a : Nat} (hin : ∀ w ∈ u_ws C T N, w ∈ Ts) (ty0 : Nat → FieldType) (hty : ∀ k, k < N → parseFieldDescriptor (T k).2.2.1 = some (ty0 k)) (hnm : ∀ a, a < N → ∀ b, b < N → a ≠ b → (T a).2.1 ≠ (T b).2.1) (q0 : Nat) {fs : List Value} (he : w[q0]? = some (a, .inr (ci, fs))) (hc : cl[ci]? = some (C, T, N)) (k : Nat) (hk : k < N) (hlink : Cond.fieldLink own index ref (T k).2.1 (T k).2.2.1 ∈ Ts) (href : (T k).1 = ref) (hfin : (T k).2.2.2 = false) {v : Value} (hn : narrow (ty0 k) v = v) (hfit : fits (ty0 k) v = true) (hl0 : k < fs.length) {w' : va_W} (hw : w.set q0 (a, .inr (ci, fs.set k v)) = w') (hd : decode cc pc = .ok (.putfield index, 3)) (kk : J p l e R s m args below meth c D cl A nL cells slots Q w' (pc + 3) lv st) : J p l e R s m args below meth c D cl A nL cells slots Q w pc lv (v :: .ref a :: st) := by
  subst hw
  exact fun H locs ls hP hD hS hl => va_put h.1 h.2.1 h.2.2.2.2.1 hin ty0 hty hnm h.2.2.2.1 h.2.2.2.2.2.1 hP hD hS q0 he hc k hk (h.2.2.2.2.1 _ hlink) (fun _ z => by rw [← href]; exact z) hfin (hty k hk) hn hfit hl0 hd (fun H1 locs1 hP1 hD1 hS1 => kk H1 locs1 ls hP1 hD1 hS1 hl)
theorem j_putF (h : jC p s m args meth c cc nL own Ts D cl tys A) {ref C : String} {T : u_T} {N ci index a : Nat} (hin : ∀ w ∈ u_ws C T N, w ∈ Ts) (ty0 : Nat → FieldType) (hty : ∀ k, k < N → parseFieldDescriptor (T k).2.2.1 = some (ty0 k)) (hnm : ∀ a, a < N → ∀ b, b < N → a ≠ b → (T a).2.1 ≠ (T b).2.1) (q0 : Nat) {fs : List Value} (he : w[q0]? = some (a, .inr (ci, fs))) (hc : cl[ci]? = some (C, T, N)) (k : Nat) (hk : k < N) (hlink : Cond.fieldLink own index ref (T k).2.1 (T k).2.2.1 ∈ Ts) (href : (T k).1 = ref) (hfin : (T k).2.2.2 = true) (hi : meth.name = "<init>") (ho : (T k).1 = own) {v : Value} (hn : narrow (ty0 k) v = v) (hfit : fits (ty0 k) v = true) (hl0 : k < fs.length) {w' : va_W} (hw : w.set q0 (a, .inr (ci, fs.set k v)) = w') (hd : decode cc pc = .ok (.putfield index, 3)) (kk : J p l e R s m args below meth c D cl A nL cells slots Q w' (pc + 3) lv st) : J p l e R s m args below meth c D cl A nL cells slots Q w pc lv (v :: .ref a :: st) := by
  subst hw
  exact fun H locs ls hP hD hS hl => va_putF h.1 h.2.1 h.2.2.2.2.1 hin ty0 hty hnm h.2.2.2.1 h.2.2.2.2.2.1 hP hD hS q0 he hc k hk (h.2.2.2.2.1 _ hlink) (fun _ z => by rw [← href]; exact z) hfin hi ho (hty k hk) hn hfit hl0 hd (fun H1 locs1 hP1 hD1 hS1 => kk H1 locs1 ls hP1 hD1 hS1 hl)
theorem j_iald (h : jC p s m args meth c cc nL own Ts D cl tys A) (q0 t0 : Nat) {cA : ClassId} {n a : Nat} {f : Nat → Int32} (ha : w[q0]? = some (a, .inl (cA, n, .inl f))) (ht : tys[t0]? = some (cA, .int)) {i : Int32} (hi : vp_in i n) (hd : decode cc pc = .ok (.iaload, 1)) (kk : J p l e R s m args below meth c D cl A nL cells slots Q w (pc + 1) lv (.int (f i.toNatClampNeg) :: st)) : J p l e R s m args below meth c D cl A nL cells slots Q w pc lv (.int i :: .ref a :: st) :=
  fun H locs ls hP hD hS hl => va_iald h.1 h.2.1 h.2.2.2.2.2.1 hP q0 t0 ha ht hi hd (kk H locs ls hP hD hS hl)
theorem j_zald (h : jC p s m args meth c cc nL own Ts D cl tys A) (q0 t0 : Nat) {cA : ClassId} {n a : Nat} {f : Nat → Int32} (ha : w[q0]? = some (a, .inl (cA, n, .inl f))) (ht : tys[t0]? = some (cA, .boolean)) {i : Int32} (hi : vp_in i n) (hd : decode cc pc = .ok (.baload, 1)) (kk : J p l e R s m args below meth c D cl A nL cells slots Q w (pc + 1) lv (.int (f i.toNatClampNeg) :: st)) : J p l e R s m args below meth c D cl A nL cells slots Q w pc lv (.int i :: .ref a :: st) :=
  fun H locs ls hP hD hS hl => va_zald h.1 h.2.1 h.2.2.2.2.2.1 hP q0 t0 ha ht hi hd (kk H locs ls hP hD hS hl)
theorem j_iast (h : jC p s m args meth c cc nL own Ts D cl tys A) (q0 t0 : Nat) {cA : ClassId} {n a : Nat} {f : Nat → Int32} (ha : w[q0]? = some (a, .inl (cA, n, .inl f))) (ht : tys[t0]? = some (cA, .int)) {i x : Int32} (hi : vp_in i n) {w' : va_W} (hw : w.set q0 (a, .inl (cA, n, .inl (upd f i.toNatClampNeg x))) = w') (hd : decode cc pc = .ok (.iastore, 1)) (kk : J p l e R s m args below meth c D cl A nL cells slots Q w' (pc + 1) lv st) : J p l e R s m args below meth c D cl A nL cells slots Q w pc lv (.int x :: .int i :: .ref a :: st) := by
  subst hw
  exact fun H locs ls hP hD hS hl => va_iast h.1 h.2.1 h.2.2.2.2.2.1 hP hD hS q0 t0 ha ht hi hd (fun H1 locs1 hP1 hD1 hS1 => kk H1 locs1 ls hP1 hD1 hS1 hl)
theorem j_zast (h : jC p s m args meth c cc nL own Ts D cl tys A) (q0 t0 : Nat) {cA : ClassId} {n a : Nat} {f : Nat → Int32} (ha : w[q0]? = some (a, .inl (cA, n, .inl f))) (ht : tys[t0]? = some (cA, .boolean)) {i x : Int32} (hi : vp_in i n) {w' : va_W} (hw : w.set q0 (a, .inl (cA, n, .inl (upd f i.toNatClampNeg (vp_nar .boolean x)))) = w') (hd : decode cc pc = .ok (.bastore, 1)) (kk : J p l e R s m args below meth c D cl A nL cells slots Q w' (pc + 1) lv st) : J p l e R s m args below meth c D cl A nL cells slots Q w pc lv (.int x :: .int i :: .ref a :: st) := by
  subst hw
  exact fun H locs ls hP hD hS hl => va_zast h.1 h.2.1 h.2.2.2.2.2.1 hP hD hS q0 t0 ha ht hi hd (fun H1 locs1 hP1 hD1 hS1 => kk H1 locs1 ls hP1 hD1 hS1 hl)
theorem j_alen (h : jC p s m args meth c cc nL own Ts D cl tys A) (q0 t0 : Nat) {cA : ClassId} {x : vp_A} {a : Nat} (ha : w[q0]? = some (a, .inl (cA, x))) {ty : FieldType} (ht : tys[t0]? = some (cA, ty)) {v : Int32} (hv : Int32.ofNat x.1 = v) (hd : decode cc pc = .ok (.arraylength, 1)) (kk : J p l e R s m args below meth c D cl A nL cells slots Q w (pc + 1) lv (.int v :: st)) : J p l e R s m args below meth c D cl A nL cells slots Q w pc lv (.ref a :: st) :=
  fun H locs ls hP hD hS hl => va_alen h.1 h.2.1 h.2.2.2.2.2.1 hP q0 t0 ha ht hv hd (kk H locs ls hP hD hS hl)
/-! contracts: from the world w, with these arguments, the method answers r and leaves the world w' -/
abbrev jB (D : va_G) (cl : List vw_C) (tys : List (ClassId × FieldType)) (A : Nat → Prop) (w : va_W) (t : State) : Prop := va_P D cl w t.heap ∧ va_K D cl tys t ∧ va_D A w
abbrev jPc (D : va_G) (cl : List vw_C) (tys : List (ClassId × FieldType)) (av : List Value) (w : va_W) (sz : Nat) : Array Value → State → Prop := va_Pc av (fun U => U.heap.size = sz ∧ va_P D cl w U.heap ∧ va_K D cl tys U ∧ va_D (fun _ => True) w)
abbrev jEi (D : va_G) (cl : List vw_C) (tys : List (ClassId × FieldType)) (A : Nat → Prop) (w' : va_W) (r : Int32) : Array Value → State → Outcome → State → Prop := va_Qi (fun (r' : Int32) (_ : Unit) => r' = r) (fun _ t => jB D cl tys A w' t) A
abbrev jEv (D : va_G) (cl : List vw_C) (tys : List (ClassId × FieldType)) (A : Nat → Prop) (w' : (Nat → Nat) → va_W) : Array Value → State → Outcome → State → Prop := va_Qv (fun (_ : Nat → Nat) => True) (fun u t => jB D cl tys A (w' u) t) A
def Ci (l : Launch) (y : MethodName) (cc : ByteArray) (maxL : Nat) (ret : Option FieldType) (Ts : List Cond) (rm : Room) (D : va_G) (cl : List vw_C) (tys : List (ClassId × FieldType)) (av : List Value) (w w' : va_W) (r : Int32) : Prop :=
  ∀ sz : Nat, Met l y (Cond.code y cc maxL ret :: Ts) rm (jPc D cl tys av w sz) (jEi D cl tys (va_A w sz) w' r) 0 0 (va_A w sz)
def Cv (l : Launch) (y : MethodName) (cc : ByteArray) (maxL : Nat) (ret : Option FieldType) (Ts : List Cond) (rm : Room) (D : va_G) (cl : List vw_C) (tys : List (ClassId × FieldType)) (av : List Value) (w : va_W) (w' : (Nat → Nat) → va_W) (mc ms : Nat) : Prop :=
  ∀ sz : Nat, Met l y (Cond.code y cc maxL ret :: Ts) rm (jPc D cl tys av w sz) (jEv D cl tys (va_A w sz) w') mc ms (va_A w sz)
theorem j_blind {D : va_G} {cl : List vw_C} {tys : List (ClassId × FieldType)} {av : List Value} {w : va_W} {sz : Nat} : FrameBlind (jPc D cl tys av w sz) :=
  fun a U g mk q => by
    obtain ⟨q0, q1, qP, qK, qD⟩ := q
    exact ⟨q0, q1, qP, va_K.moved (u := U) (U := U.calling g mk a) (Vm.Alike.refl U.vm) qK, qD⟩
theorem Ci_of {y : MethodName} {rm : Room} {maxL : Nat} {ret : Option FieldType} {av : List Value} {w' : va_W} {r : Int32} (hy : plainFor y = true) (hG : GoodIn Ts Ts) (hav : (lg_sl av).length ≤ maxL)
    (body : ∀ (p : Program) (e : Env) (s : State) (m : MethodId) (args : Array Value) (below : List Frame) (meth : Method) (c : Code) (A : Nat → Prop), jC p s m args meth c cc maxL y.cls Ts D cl tys A → meth.sig.returnType = ret → J p l e rm s m args below meth c D cl A maxL 0 0 (MQ below (jEi D cl tys A w' r) args s 0 0 A) w 0 (lv_args 0 av) []) : Ci l y cc maxL ret Ts rm D cl tys av w w' r := by
  intro sz
  refine va_MetF (cc := cc) (maxL := maxL) (ret := ret) hy rfl ?_
  intro p e s m args below meth c s₁ B hml hv
  obtain ⟨rfl, hsz, hP, hK, hD0⟩ := hv
  have hts0 := atoms_spec (ws := Cond.code y cc maxL ret :: Ts) B.pre
  have hts : ∀ w ∈ Ts, w.before _ s = true := fun w hw => hts0 w (List.mem_cons_of_mem _ hw)
  have hown : s.vm.findClass y.cls = some m.cls := findClass_of_methodNamed B.named
  subst hsz
  have hD := hD0.self (sz := s.heap.size)
  have hl := lv_entry av (n := maxL) hav
  rw [lg_entry_eq]
  exact body p e s m _ below meth c _ ⟨B.exec, B.bytes, hml, hown, hts, hK, fun q h => Or.inr h, B.notSynchronized, hG⟩ B.returns s.heap [] _ hP hD va_S.rf hl
theorem Cv_of {y : MethodName} {rm : Room} {maxL mc ms : Nat} {ret : Option FieldType} {av : List Value} {w' : (Nat → Nat) → va_W} (hy : plainFor y = true) (hG : GoodIn Ts Ts) (hav : (lg_sl av).length ≤ maxL)
    (body : ∀ (p : Program) (e : Env) (s : State) (m : MethodId) (args : Array Value) (below : List Frame) (meth : Method) (c : Code) (A : Nat → Prop), jC p s m args meth c cc maxL y.cls Ts D cl tys A → meth.sig.returnType = ret → meth.name = y.name → J p l e rm s m args below meth c D cl A maxL 0 0 (MQ below (jEv D cl tys A w') args s mc ms A) w 0 (lv_args 0 av) []) : Cv l y cc maxL ret Ts rm D cl tys av w w' mc ms := by
  intro sz
  refine va_MetF (cc := cc) (maxL := maxL) (ret := ret) hy rfl ?_
  intro p e s m args below meth c s₁ B hml hv
  obtain ⟨rfl, hsz, hP, hK, hD0⟩ := hv
  have hts0 := atoms_spec (ws := Cond.code y cc maxL ret :: Ts) B.pre
  have hts : ∀ w ∈ Ts, w.before _ s = true := fun w hw => hts0 w (List.mem_cons_of_mem _ hw)
  have hown : s.vm.findClass y.cls = some m.cls := findClass_of_methodNamed B.named
  subst hsz
  have hD := hD0.self (sz := s.heap.size)
  have hl := lv_entry av (n := maxL) hav
  rw [lg_entry_eq]
  exact body p e s m _ below meth c _ ⟨B.exec, B.bytes, hml, hown, hts, hK, fun q h => Or.inr h, B.notSynchronized, hG⟩ B.returns (name_of_methodNamed B.named B.method).1 s.heap [] _ hP hD va_S.rf hl
theorem j_ireturn (h : jC p s m args meth c cc nL own Ts D cl tys A) (hr : meth.sig.returnType = some .int) {v r : Int32} {w' : va_W} (hv : v = r) (hw : w = w') (hd : decode cc pc = .ok (.ireturn, 1)) : J p l e R s m args below meth c D cl A nL cells slots (MQ below (jEi D cl tys A w' r) args s cells slots A) w pc lv [.int v] := by
  subst hv; subst hw
  exact fun H locs ls hP hD hS hl => W.iret h.1 h.2.1 hr (fun t ht hW => ⟨⟨v, (), rfl, rfl, by rw [ht]; exact hP, va_K.moved hW.alike h.2.2.2.2.2.1, hD⟩, hS.F ht⟩) hS.2.2 hd (hlocks := h.2.2.2.2.2.2.2.1)
theorem j_zreturn (h : jC p s m args meth c cc nL own Ts D cl tys A) {ty : FieldType} (hr : meth.sig.returnType = some ty) {v r : Int32} (hn : narrow ty (.int v) = .int v) {w' : va_W} (hv : v = r) (hw : w = w') (hd : decode cc pc = .ok (.ireturn, 1)) : J p l e R s m args below meth c D cl A nL cells slots (MQ below (jEi D cl tys A w' r) args s cells slots A) w pc lv [.int v] := by
  subst hv; subst hw
  exact fun H locs ls hP hD hS hl => W.zret h.1 h.2.1 hr hn (fun t ht hW => ⟨⟨v, (), rfl, rfl, by rw [ht]; exact hP, va_K.moved hW.alike h.2.2.2.2.2.1, hD⟩, hS.F ht⟩) hS.2.2 hd (hlocks := h.2.2.2.2.2.2.2.1)
theorem j_vreturn (h : jC p s m args meth c cc nL own Ts D cl tys A) (hr : meth.sig.returnType = none) (u : Nat → Nat) {w' : (Nat → Nat) → va_W} (hw : w = w' u) (hd : decode cc pc = .ok (.return_, 1)) : J p l e R s m args below meth c D cl A nL cells slots (MQ below (jEv D cl tys A w') args s cells slots A) w pc lv [] := by
  subst hw
  exact fun H locs ls hP hD hS hl => W.vret h.1 h.2.1 hr (fun t ht hW => ⟨⟨u, rfl, trivial, by rw [ht]; exact hP, va_K.moved hW.alike h.2.2.2.2.2.1, hD⟩, hS.F ht⟩) hS.2.2 hd (hlocks := h.2.2.2.2.2.2.2.1)
/-! calls. The callee's world is all of the caller's (A), none of it (0), or some places of it (G) -/
theorem j_free {H : Heap} {locs : List Loc} (hD : va_D A w) (hS : va_S A s.heap H locs) (hA : ∀ q : Nat, s.heap.size ≤ q → A q) : ∀ q, va_A w H.size q → A q := by
  intro q hq
  rcases hq with ⟨k, e, hk⟩ | hq
  · exact hD.2 k (q, e) hk
  · exact hA q (Nat.le_trans hS.1 hq)
theorem j_none {H : Heap} {q : Nat} (hq : q < H.size) : ¬ va_A ([] : va_W) H.size q := by
  intro h
  rcases h with ⟨k, e, hk⟩ | h
  · simp at hk
  · omega
theorem j_goodV {y : MethodName} {bytes : ByteArray} {maxL index : Nat} {ret : Option FieldType} {C : String} (hG : GoodIn Ts Ts) (h1 : Cond.methodLink own index y ∈ Ts) (h2 : Cond.instanceMethod y ∈ Ts) (h3 : Cond.selects C y y ∈ Ts) (h4 : Cond.initialized C ∈ Ts) (h5 : Cond.code y bytes maxL ret ∈ Ts) : GoodIn Ts (wsV own index C y (Cond.code y bytes maxL ret :: Ts)) := by
  intro w hw
  refine hG w ?_
  unfold wsV at hw
  rcases List.mem_append.mp hw with hw | hw
  · simp only [List.mem_cons, List.not_mem_nil, or_false] at hw
    rcases hw with rfl | rfl | rfl | rfl
    · exact h1
    · exact h2
    · exact h3
    · exact h4
  · rcases List.mem_cons.mp hw with rfl | hw
    · exact h5
    · exact hw
theorem j_goodS {y : MethodName} {bytes : ByteArray} {maxL index : Nat} {ret : Option FieldType} (hG : GoodIn Ts Ts) (h1 : Cond.methodLink own index y ∈ Ts) (h2 : Cond.static y ∈ Ts) (h4 : Cond.initialized y.cls ∈ Ts) (h5 : Cond.code y bytes maxL ret ∈ Ts) : GoodIn Ts (va_wsS own index y (Cond.code y bytes maxL ret :: Ts)) := by
  intro w hw
  refine hG w ?_
  unfold va_wsS at hw
  rcases List.mem_append.mp hw with hw | hw
  · simp only [List.mem_cons, List.not_mem_nil, or_false] at hw
    rcases hw with rfl | rfl | rfl
    · exact h1
    · exact h2
    · exact h4
  · rcases List.mem_cons.mp hw with rfl | hw
    · exact h5
    · exact hw
theorem j_goodC {y : MethodName} {bytes : ByteArray} {maxL : Nat} {ret : Option FieldType} (hG : GoodIn Ts Ts) (h5 : Cond.code y bytes maxL ret ∈ Ts) : GoodIn Ts (Cond.code y bytes maxL ret :: Ts) := by
  intro w hw
  refine hG w ?_
  rcases List.mem_cons.mp hw with rfl | hw
  · exact h5
  · exact hw
theorem j_callVi {y : MethodName} {rmC : Room} {bytes : ByteArray} {maxL n index ci q0 N : Nat} {ret : Option FieldType} {b : Addr} {As st0 fs : List Value} {w1 : va_W} {r : Int32} {C : String} {T : u_T} (h : jC p s m args meth c cc nL own Ts D cl tys A)
    (hM : Ci l y bytes maxL ret Ts rmC D cl tys (.ref b :: As) w w1 r) (g1 : Cond.methodLink own index y ∈ Ts) (g2 : Cond.instanceMethod y ∈ Ts) (g3 : Cond.selects C y y ∈ Ts) (g4 : Cond.initialized C ∈ Ts) (g5 : Cond.code y bytes maxL ret ∈ Ts) (hz : rmC.cells = 0 ∧ rmC.slots = 0)
    (hy : y.cls = C ∧ y.cls ≠ "java/lang/invoke/MethodHandle" ∧ y.cls ≠ "java/lang/invoke/VarHandle" ∧ (parseMethodDescriptor y.desc).map (fun d => d.parameters.length) = some n) (hR : rmC.frames + 1 ≤ R.frames ∧ 8 + (maxL + 11) + rmC.locals ≤ R.locals) (hn : As.length = n) (hc : cl[ci]? = some (C, T, N)) (he : w[q0]? = some (b, .inr (ci, fs)))
    (hst : st0 = As.reverse ++ .ref b :: st) (hroom : (st.map fun v => v.category).sum ≤ 8) (hd : decode cc pc = .ok (.invokevirtual index, 3)) (hf : cells ≤ R.cells ∧ slots ≤ R.slots)
    (kk : J p l e R s m args below meth c D cl A nL cells slots Q w1 (pc + 3) lv (.int r :: st)) : J p l e R s m args below meth c D cl A nL cells slots Q w pc lv st0 := by
  subst hst
  intro H locs ls hP hD hS hl
  have hK := h.2.2.2.2.2.1
  have hFc := j_free hD hS h.2.2.2.2.2.2.1
  refine va_calli (va_runV (As := As) (rest := st) ⟨h.1, h.2.1, h.2.2.1, h.2.2.2.1, h.2.2.2.2.1⟩ (hM H.size) (cwV n h.2.2.2.2.1 (j_goodV h.2.2.2.2.2.2.2.2 g1 g2 g3 g4 g5) rfl hz.1 hz.2 hy hR) ⟨j_blind, va_recv hK hP hc he, fun U hU hW => ⟨rfl, by rw [hU], by rw [hU]; exact hP, va_K.moved hW.alike hK, hD.weaken (fun _ _ _ _ => trivial)⟩⟩ rfl hn hl.1 rfl (lv_room hroom) hd hf) hS (fun q _ hq => hFc q hq) hFc (fun r' u t H1 locs1 ht hvm hw' hB hz1 hk1 hS1 => ?_)
  obtain ⟨hP1, hK1, hD1⟩ := hB
  rw [ht] at hP1
  subst hw'
  exact kk H1 locs1 ls hP1 (hD1.weaken (fun k q _ hq => hFc q.1 hq)) hS1 hl
theorem j_callVv {y : MethodName} {rmC : Room} {bytes : ByteArray} {maxL n index ci q0 N : Nat} {ret : Option FieldType} {b : Addr} {As st0 fs : List Value} {w1 : va_W} {C : String} {T : u_T} (h : jC p s m args meth c cc nL own Ts D cl tys A)
    (hM : Cv l y bytes maxL ret Ts rmC D cl tys (.ref b :: As) w (fun _ => w1) 0 0) (g1 : Cond.methodLink own index y ∈ Ts) (g2 : Cond.instanceMethod y ∈ Ts) (g3 : Cond.selects C y y ∈ Ts) (g4 : Cond.initialized C ∈ Ts) (g5 : Cond.code y bytes maxL ret ∈ Ts) (hz : rmC.cells = 0 ∧ rmC.slots = 0)
    (hy : y.cls = C ∧ y.cls ≠ "java/lang/invoke/MethodHandle" ∧ y.cls ≠ "java/lang/invoke/VarHandle" ∧ (parseMethodDescriptor y.desc).map (fun d => d.parameters.length) = some n) (hR : rmC.frames + 1 ≤ R.frames ∧ 8 + (maxL + 11) + rmC.locals ≤ R.locals) (hn : As.length = n) (hc : cl[ci]? = some (C, T, N)) (he : w[q0]? = some (b, .inr (ci, fs)))
    (hst : st0 = As.reverse ++ .ref b :: st) (hroom : (st.map fun v => v.category).sum ≤ 8) (hd : decode cc pc = .ok (.invokevirtual index, 3)) (hf : cells ≤ R.cells ∧ slots ≤ R.slots)
    (kk : J p l e R s m args below meth c D cl A nL cells slots Q w1 (pc + 3) lv st) : J p l e R s m args below meth c D cl A nL cells slots Q w pc lv st0 := by
  subst hst
  intro H locs ls hP hD hS hl
  have hK := h.2.2.2.2.2.1
  have hFc := j_free hD hS h.2.2.2.2.2.2.1
  refine va_callv (va_runV (As := As) (rest := st) ⟨h.1, h.2.1, h.2.2.1, h.2.2.2.1, h.2.2.2.2.1⟩ (hM H.size) (cwV n h.2.2.2.2.1 (j_goodV h.2.2.2.2.2.2.2.2 g1 g2 g3 g4 g5) rfl hz.1 hz.2 hy hR) ⟨j_blind, va_recv hK hP hc he, fun U hU hW => ⟨rfl, by rw [hU], by rw [hU]; exact hP, va_K.moved hW.alike hK, hD.weaken (fun _ _ _ _ => trivial)⟩⟩ rfl hn hl.1 rfl (lv_room hroom) hd hf) hS (fun q _ hq => hFc q hq) hFc (fun u t H1 locs1 ht hvm hw' hB hz1 hk1 hS1 => ?_)
  obtain ⟨hP1, hK1, hD1⟩ := hB
  rw [ht] at hP1
  exact kk H1 locs1 ls hP1 (hD1.weaken (fun k q _ hq => hFc q.1 hq)) hS1 hl
theorem j_callSi0 {y : MethodName} {rmC : Room} {bytes : ByteArray} {maxL n index : Nat} {ret : Option FieldType} {As st0 : List Value} {r : Int32} (h : jC p s m args meth c cc nL own Ts D cl tys A)
    (hM : Ci l y bytes maxL ret Ts rmC D cl tys As [] [] r) (g1 : Cond.methodLink own index y ∈ Ts) (g2 : Cond.static y ∈ Ts) (g4 : Cond.initialized y.cls ∈ Ts) (g5 : Cond.code y bytes maxL ret ∈ Ts) (hz : rmC.cells = 0 ∧ rmC.slots = 0)
    (hy : y.cls ≠ "java/lang/invoke/MethodHandle" ∧ y.cls ≠ "java/lang/invoke/VarHandle" ∧ (parseMethodDescriptor y.desc).map (fun d => d.parameters.length) = some n) (hR : rmC.frames + 1 ≤ R.frames ∧ 8 + (maxL + 11) + rmC.locals ≤ R.locals) (hn : As.length = n)
    (hst : st0 = As.reverse ++ st) (hroom : (st.map fun v => v.category).sum ≤ 8) (hd : decode cc pc = .ok (.invokestatic index, 3)) (hf : cells ≤ R.cells ∧ slots ≤ R.slots)
    (kk : J p l e R s m args below meth c D cl A nL cells slots Q w (pc + 3) lv (.int r :: st)) : J p l e R s m args below meth c D cl A nL cells slots Q w pc lv st0 := by
  subst hst
  intro H locs ls hP hD hS hl
  have hK := h.2.2.2.2.2.1
  have hD0 : va_D A ([] : va_W) := ⟨fun i j p q h => by simp at h, fun k q h => by simp at h⟩
  have hP0 : va_P D cl ([] : va_W) H := fun k q h => by simp at h
  have hFc := j_free hD0 hS h.2.2.2.2.2.2.1
  refine va_calli (va_runS (As := As) (rest := st) ⟨h.1, h.2.1, h.2.2.1, h.2.2.2.1, h.2.2.2.2.1⟩ (hM H.size) (va_cwS n h.2.2.2.2.1 (j_goodS h.2.2.2.2.2.2.2.2 g1 g2 g4 g5) rfl hz.1 hz.2 hy hR) ⟨j_blind, fun U hU hW => ⟨rfl, by rw [hU], by rw [hU]; exact hP0, va_K.moved hW.alike hK, hD0.weaken (fun _ _ _ _ => trivial)⟩⟩ rfl hn hl.1 rfl (lv_room hroom) hd hf) hS (fun q _ hq => hFc q hq) hFc (fun r' u t H1 locs1 ht hvm hw' hB hz1 hk1 hS1 => ?_)
  subst hw'
  exact kk H1 locs1 ls (hP.kept (fun k q hk => hk1 q.1 (hP k q hk).lt (j_none (hP k q hk).lt))) hD hS1 hl
/-- behind a call: the other cells ahead of the callee's, then in any order -/
theorem j_joined {H H1 : Heap} {wc wr w1 w2 : va_W} (hP : va_P D cl w H) (hD : va_D A w) (isC isR isF : List Nat) (hC : isC.map (fun i => w[i]?) = wc.map some) (hR : isR.map (fun i => w[i]?) = wr.map some) (hn : va_nd isR = true) (hdis : ∀ i ∈ isR, i ∉ isC) (hF2 : isF.map (fun i => (wr ++ w1)[i]?) = w2.map some) (hnF : va_nd isF = true)
    (hk : ∀ q : Nat, q < H.size → ¬ va_A wc H.size q → H1[q]? = H[q]?) (hF : ∀ q, va_A wc H.size q → A q) (hP1 : va_P D cl w1 H1) (hD1 : va_D (va_A wc H.size) w1) : va_P D cl w2 H1 ∧ va_D A w2 := by
  obtain ⟨a, b⟩ := va_join hP hD isC isR hC hR hn hdis hk hF hP1 hD1
  refine ⟨fun k q hq => ?_, b.sub isF hnF hF2⟩
  have h1 : (isF.map (fun i => (wr ++ w1)[i]?))[k]? = some (some q) := by rw [hF2, List.getElem?_map, hq]; rfl
  rw [List.getElem?_map] at h1
  cases hi : isF[k]? with
  | none => rw [hi] at h1; cases h1
  | some i => rw [hi] at h1; exact a i q (Option.some.inj h1)
theorem j_part {H : Heap} {wc : va_W} (hP : va_P D cl w H) (isC : List Nat) (hC : isC.map (fun i => w[i]?) = wc.map some) : va_P D cl wc H := by
  intro k q hq
  have h1 : (isC.map (fun i => w[i]?))[k]? = some (some q) := by rw [hC, List.getElem?_map, hq]; rfl
  rw [List.getElem?_map] at h1
  cases hi : isC[k]? with
  | none => rw [hi] at h1; cases h1
  | some i => rw [hi] at h1; exact hP i q (Option.some.inj h1)
theorem j_callIG {y : MethodName} {rmC : Room} {bytes : ByteArray} {maxL n index mc ms : Nat} {b : Addr} {As st0 : List Value} {wc wr : va_W} {w1 w2 : (Nat → Nat) → va_W} (h : jC p s m args meth c cc nL own Ts D cl tys A)
    (hM : Cv l y bytes maxL none Ts rmC D cl tys (.ref b :: As) wc w1 mc ms) (g5 : Cond.code y bytes maxL none ∈ Ts) (hz : rmC.cells = mc ∧ rmC.slots = ms) (hini : Cond.initialized y.cls ∈ Ts) (hlk : Cond.methodLink own index y ∈ Ts) (hin : Cond.instanceMethod y ∈ Ts) (hy1 : y.name = "<init>")
    (hy : y.cls ≠ "java/lang/invoke/MethodHandle" ∧ y.cls ≠ "java/lang/invoke/VarHandle" ∧ (parseMethodDescriptor y.desc).map (fun d => d.parameters.length) = some n) (hR : rmC.frames + 1 ≤ R.frames ∧ 8 + (maxL + 11) + rmC.locals ≤ R.locals) (hn : As.length = n)
    (hst : st0 = As.reverse ++ .ref b :: st) (hroom : (st.map fun v => v.category).sum ≤ 8) (hd : decode cc pc = .ok (.invokespecial index, 3)) (hf : cells + mc ≤ R.cells ∧ slots + ms ≤ R.slots)
    (isC isR isF : List Nat) (hC : isC.map (fun i => w[i]?) = wc.map some) (hnC : va_nd isC = true) (hRR : isR.map (fun i => w[i]?) = wr.map some) (hnR : va_nd isR = true) (hdis : ∀ i ∈ isR, i ∉ isC) (hF2 : ∀ u, isF.map (fun i => (wr ++ w1 u)[i]?) = (w2 u).map some) (hnF : va_nd isF = true)
    (kk : ∀ u : Nat → Nat, J p l e R s m args below meth c D cl A nL (cells + mc) (slots + ms) Q (w2 u) (pc + 3) lv st) : J p l e R s m args below meth c D cl A nL cells slots Q w pc lv st0 := by
  subst hst
  intro H locs ls hP hD hS hl
  have hK := h.2.2.2.2.2.1
  have hPc := j_part hP isC hC
  have hDc := hD.sub isC hnC hC
  have hFc := j_free hDc hS h.2.2.2.2.2.2.1
  have ht9 := h.2.2.2.2.1
  refine va_callv (va_runI (As := As) (rest := st) ⟨h.1, h.2.1, h.2.2.1, h.2.2.2.1, ht9⟩ (hM H.size) (cwI n ht9 (j_goodC h.2.2.2.2.2.2.2.2 g5) rfl hz.1 hz.2 (ht9 _ hini) (ht9 _ hlk) (ht9 _ hin) hy1 hy hR) ⟨j_blind, fun U hU hW => ⟨rfl, by rw [hU], by rw [hU]; exact hPc, va_K.moved hW.alike hK, hDc.weaken (fun _ _ _ _ => trivial)⟩⟩ rfl hn hl.1 rfl (lv_room hroom) hd hf) hS (fun q _ hq => hFc q hq) hFc (fun u t H1 locs1 ht hvm hw' hB hz1 hk1 hS1 => ?_)
  obtain ⟨hP1, hK1, hD1⟩ := hB
  rw [ht] at hP1
  obtain ⟨a1, a2⟩ := j_joined hP hD isC isR isF hC hRR hnR hdis (hF2 u) hnF hk1 hFc hP1 hD1
  exact kk u H1 locs1 ls a1 a2 hS1 hl
theorem j_callING {y : MethodName} {rmC : Room} {bytes : ByteArray} {maxL n index mc ms : Nat} {b : Addr} {As st0 : List Value} {wc wr : va_W} {w1 w2 : (Nat → Nat) → va_W} (h : jC p s m args meth c cc nL own Ts D cl tys A)
    (hM : Cv l y bytes maxL none Ts rmC D cl tys (.ref b :: As) wc w1 mc ms) (g5 : Cond.code y bytes maxL none ∈ Ts) (hz : rmC.cells = mc ∧ rmC.slots = ms) (hini : Cond.initialized y.cls ∈ Ts) {host : String} (hlk : Cond.methodLinkNest own index y host ∈ Ts) (hin : Cond.instanceMethod y ∈ Ts) (hy1 : y.name = "<init>")
    (hy : y.cls ≠ "java/lang/invoke/MethodHandle" ∧ y.cls ≠ "java/lang/invoke/VarHandle" ∧ (parseMethodDescriptor y.desc).map (fun d => d.parameters.length) = some n) (hR : rmC.frames + 1 ≤ R.frames ∧ 8 + (maxL + 11) + rmC.locals ≤ R.locals) (hn : As.length = n)
    (hst : st0 = As.reverse ++ .ref b :: st) (hroom : (st.map fun v => v.category).sum ≤ 8) (hd : decode cc pc = .ok (.invokespecial index, 3)) (hf : cells + mc ≤ R.cells ∧ slots + ms ≤ R.slots)
    (isC isR isF : List Nat) (hC : isC.map (fun i => w[i]?) = wc.map some) (hnC : va_nd isC = true) (hRR : isR.map (fun i => w[i]?) = wr.map some) (hnR : va_nd isR = true) (hdis : ∀ i ∈ isR, i ∉ isC) (hF2 : ∀ u, isF.map (fun i => (wr ++ w1 u)[i]?) = (w2 u).map some) (hnF : va_nd isF = true)
    (kk : ∀ u : Nat → Nat, J p l e R s m args below meth c D cl A nL (cells + mc) (slots + ms) Q (w2 u) (pc + 3) lv st) : J p l e R s m args below meth c D cl A nL cells slots Q w pc lv st0 := by
  subst hst
  intro H locs ls hP hD hS hl
  have hK := h.2.2.2.2.2.1
  have hPc := j_part hP isC hC
  have hDc := hD.sub isC hnC hC
  have hFc := j_free hDc hS h.2.2.2.2.2.2.1
  have ht9 := h.2.2.2.2.1
  refine va_callv (va_runIN (As := As) (rest := st) ⟨h.1, h.2.1, h.2.2.1, h.2.2.2.1, ht9⟩ (hM H.size) ⟨va_cnB n ht9 (j_goodC h.2.2.2.2.2.2.2.2 g5) rfl hz.1 hz.2 (va_Nw.of rfl (ht9 _ hlk)) (ht9 _ hini) hy hR, hy1, ht9 _ hin⟩ ⟨j_blind, fun U hU hW => ⟨rfl, by rw [hU], by rw [hU]; exact hPc, va_K.moved hW.alike hK, hDc.weaken (fun _ _ _ _ => trivial)⟩⟩ rfl hn hl.1 rfl (lv_room hroom) hd hf) hS (fun q _ hq => hFc q hq) hFc (fun u t H1 locs1 ht hvm hw' hB hz1 hk1 hS1 => ?_)
  obtain ⟨hP1, hK1, hD1⟩ := hB
  rw [ht] at hP1
  obtain ⟨a1, a2⟩ := j_joined hP hD isC isR isF hC hRR hnR hdis (hF2 u) hnF hk1 hFc hP1 hD1
  exact kk u H1 locs1 ls a1 a2 hS1 hl
theorem j_callSvG {y : MethodName} {rmC : Room} {bytes : ByteArray} {maxL n index : Nat} {ret : Option FieldType} {As st0 : List Value} {wc wr w1 w2 : va_W} (h : jC p s m args meth c cc nL own Ts D cl tys A)
    (hM : Cv l y bytes maxL ret Ts rmC D cl tys As wc (fun _ => w1) 0 0) (g1 : Cond.methodLink own index y ∈ Ts) (g2 : Cond.static y ∈ Ts) (g4 : Cond.initialized y.cls ∈ Ts) (g5 : Cond.code y bytes maxL ret ∈ Ts) (hz : rmC.cells = 0 ∧ rmC.slots = 0)
    (hy : y.cls ≠ "java/lang/invoke/MethodHandle" ∧ y.cls ≠ "java/lang/invoke/VarHandle" ∧ (parseMethodDescriptor y.desc).map (fun d => d.parameters.length) = some n) (hR : rmC.frames + 1 ≤ R.frames ∧ 8 + (maxL + 11) + rmC.locals ≤ R.locals) (hn : As.length = n)
    (hst : st0 = As.reverse ++ st) (hroom : (st.map fun v => v.category).sum ≤ 8) (hd : decode cc pc = .ok (.invokestatic index, 3)) (hf : cells ≤ R.cells ∧ slots ≤ R.slots)
    (isC isR isF : List Nat) (hC : isC.map (fun i => w[i]?) = wc.map some) (hnC : va_nd isC = true) (hRR : isR.map (fun i => w[i]?) = wr.map some) (hnR : va_nd isR = true) (hdis : ∀ i ∈ isR, i ∉ isC) (hF2 : isF.map (fun i => (wr ++ w1)[i]?) = w2.map some) (hnF : va_nd isF = true)
    (kk : J p l e R s m args below meth c D cl A nL cells slots Q w2 (pc + 3) lv st) : J p l e R s m args below meth c D cl A nL cells slots Q w pc lv st0 := by
  subst hst
  intro H locs ls hP hD hS hl
  have hK := h.2.2.2.2.2.1
  have hPc := j_part hP isC hC
  have hDc := hD.sub isC hnC hC
  have hFc := j_free hDc hS h.2.2.2.2.2.2.1
  refine va_callv (va_runS (As := As) (rest := st) ⟨h.1, h.2.1, h.2.2.1, h.2.2.2.1, h.2.2.2.2.1⟩ (hM H.size) (va_cwS n h.2.2.2.2.1 (j_goodS h.2.2.2.2.2.2.2.2 g1 g2 g4 g5) rfl hz.1 hz.2 hy hR) ⟨j_blind, fun U hU hW => ⟨rfl, by rw [hU], by rw [hU]; exact hPc, va_K.moved hW.alike hK, hDc.weaken (fun _ _ _ _ => trivial)⟩⟩ rfl hn hl.1 rfl (lv_room hroom) hd hf) hS (fun q _ hq => hFc q hq) hFc (fun u t H1 locs1 ht hvm hw' hB hz1 hk1 hS1 => ?_)
  obtain ⟨hP1, hK1, hD1⟩ := hB
  rw [ht] at hP1
  obtain ⟨a1, a2⟩ := j_joined hP hD isC isR isF hC hRR hnR hdis hF2 hnF hk1 hFc hP1 hD1
  exact kk H1 locs1 ls a1 a2 hS1 hl
theorem j_objInit (h : jC p s m args meth c cc nL own Ts D cl tys A) {idx a : Nat} (hlk : Cond.methodLink own idx Lib.objectInit ∈ Ts) (hin : Cond.instanceMethod Lib.objectInit ∈ Ts) (hco : Cond.code Lib.objectInit ⟨#[0xb1]⟩ 1 none ∈ Ts) (hd : decode cc pc = .ok (.invokespecial idx, 3)) (hframes : 1 ≤ R.frames) (hroom : (st.map fun v => v.category).sum + 12 ≤ R.locals)
    (kk : J p l e R s m args below meth c D cl A nL cells slots Q w (pc + 3) lv st) : J p l e R s m args below meth c D cl A nL cells slots Q w pc lv (.ref a :: st) :=
  fun H locs ls hP hD hS hl => W.objInit h.1 h.2.1 h.2.2.2.1 (h.2.2.2.2.1 _ hlk) (h.2.2.2.2.1 _ hin) (h.2.2.2.2.1 _ hco) rfl (by rw [h.2.2.1]; exact hl.1) rfl hd hframes (by simpa [JFrame.monitorRoom] using hroom) (kk H locs ls hP hD hS hl)
theorem j_new (h : jC p s m args meth c cc nL own Ts D cl tys A) {C : String} {T : u_T} {N ci index : Nat} (hin : ∀ w ∈ u_ws C T N, w ∈ Ts) (ty : Nat → FieldType) (hty : ∀ k, k < N → parseFieldDescriptor (T k).2.2.1 = some (ty k)) (hcl : Cond.classLink own index C ∈ Ts) (hinst : Cond.instantiable C N ∈ Ts) (hini : Cond.initialized C ∈ Ts) (hc : cl[ci]? = some (C, T, N)) {fs : List Value} (hfs : ∀ j, j < N → defaultValue (ty j) = vp_V fs j) (hf : cells + 1 ≤ R.cells ∧ slots + N ≤ R.slots) (hd : decode cc pc = .ok (.new index, 3))
    (kk : ∀ q : Nat, J p l e R s m args below meth c D cl A nL (cells + 1) (slots + N) Q (w ++ [(q, .inr (ci, fs))]) (pc + 3) lv (.ref q :: st)) : J p l e R s m args below meth c D cl A nL cells slots Q w pc lv st :=
  fun H locs ls hP hD hS hl => va_new h.1 h.2.1 h.2.2.2.2.1 hin ty hty h.2.2.2.1 (h.2.2.2.2.1 _ hcl) (h.2.2.2.2.1 _ hinst) (h.2.2.2.2.1 _ hini) h.2.2.2.2.2.1 hP hD hS h.2.2.2.2.2.2.1 hc hfs hf.1 hf.2 hd (fun q H1 hP1 hD1 hS1 => kk q H1 locs ls hP1 hD1 hS1 hl)
theorem j_newarr (h : jC p s m args meth c cc nL own Ts D cl tys A) {atype : ArrayType} {ty : FieldType} (harr : Cond.arrayClass (newarray.typeOf atype) ∈ Ts) (hty : newarray.typeOf atype = ty) (t0 : Nat) {cA : ClassId} (ht : tys[t0]? = some (cA, ty)) (hra : ∀ (U : State) (cB : ClassId), va_RA U cB ty → U.vm.findClass ("[" ++ ty.toString) = some cB) {n : Int32} {N' : Nat} {a0 : vp_A} (ha : ∀ cA : ClassId, vp_cell cA a0 = arrV cA N' (fun _ => defaultValue ty)) (hn : ¬ n < 0) (hN : n.toNatClampNeg = N') (hbytes : N' * componentBytes ty ≤ 536870912) (hf : cells + 1 ≤ R.cells ∧ slots + N' ≤ R.slots) (hd : decode cc pc = .ok (.newarray atype, 2))
    (kk : ∀ q : Nat, J p l e R s m args below meth c D cl A nL (cells + 1) (slots + N') Q (w ++ [(q, .inl (cA, a0))]) (pc + 2) lv (.ref q :: st)) : J p l e R s m args below meth c D cl A nL cells slots Q w pc lv (.int n :: st) :=
  fun H locs ls hP hD hS hl => va_newa h.1 h.2.1 (h.2.2.2.2.1 _ harr) hty h.2.2.2.2.2.1 hP hD hS h.2.2.2.2.2.2.1 ha hn hN hbytes hf.1 hf.2 hd (fun q cB H1 hK1 hP1 hD1 hS1 => by
    have h1 := hra s cA (h.2.2.2.2.2.1.2 t0 _ ht).2
    have h2 := hra s cB (hK1.2 tys.length (cB, ty) (by rw [List.getElem?_append_right (Nat.le_refl _), Nat.sub_self]; rfl)).2
    cases Option.some.inj (h1.symm.trans h2)
    exact kk q H1 locs ls hP1 hD1 hS1 hl)
theorem j_perm (isF : List Nat) {w2 : va_W} (hF2 : isF.map (fun i => w[i]?) = w2.map some) (hnF : va_nd isF = true) (kk : J p l e R s m args below meth c D cl A nL cells slots Q w2 pc lv st) : J p l e R s m args below meth c D cl A nL cells slots Q w pc lv st :=
  fun H locs ls hP hD hS hl => kk H locs ls (j_part hP isF hF2) (hD.sub isF hnF hF2) hS hl
end JB
end
section
abbrev fx (a : Nat → Nat) (cI cZ : ClassId) (σ : St) : va_W :=
  [(a 0, .inr (7, [.ref (a 1), .ref (a 2), .ref (a 8)])),
   (a 1, .inr (4, [.int (σ.1 0), .int (σ.1 1), .int (σ.1 2), .int (σ.1 3), .int (σ.1 4), .int (σ.1 5)])),
   (a 2, .inr (3, [.ref (a 3), .ref (a 4), .ref (a 5), .ref (a 6), .ref (a 7), .int (σ.1 6)])),
   (a 3, .inl (cI, 64, .inl (σ.2 0))),
   (a 4, .inl (cI, 64, .inl (σ.2 1))),
   (a 5, .inl (cI, 64, .inl (σ.2 2))),
   (a 6, .inl (cI, 64, .inl (σ.2 3))),
   (a 7, .inl (cI, 64, .inl (σ.2 4))),
   (a 8, .inr (1, [.ref (a 1), .ref (a 2), .ref (a 9), .ref (a 13), .ref (a 17), .ref (a 19), .ref (a 22), .int (σ.1 16), .int (σ.1 17), .int (σ.1 18), .int (σ.1 19), .int (σ.1 20), .int (σ.1 21), .int (σ.1 22)])),
   (a 9, .inr (5, [.ref (a 10), .ref (a 11), .ref (a 12)])),
   (a 10, .inl (cI, 8, .inl (σ.2 5))),
   (a 11, .inl (cZ, 8, .inl (σ.2 6))),
   (a 12, .inl (cZ, 8, .inl (σ.2 7))),
   (a 13, .inr (0, [.ref (a 14), .ref (a 15), .ref (a 16), .int (σ.1 7), .int (σ.1 8)])),
   (a 14, .inl (cI, 400, .inl (σ.2 8))),
   (a 15, .inl (cI, 400, .inl (σ.2 9))),
   (a 16, .inl (cI, 400, .inl (σ.2 10))),
   (a 17, .inr (6, [.ref (a 18), .int (σ.1 9), .int (σ.1 10), .int (σ.1 11), .int (σ.1 12), .int (σ.1 13), .int (σ.1 14), .int (σ.1 15)])),
   (a 18, .inl (cI, 5, .inl (σ.2 11))),
   (a 19, .inr (2, [.ref (a 2), .ref (a 20), .ref (a 21)])),
   (a 20, .inl (cI, 8, .inl (σ.2 12))),
   (a 21, .inl (cI, 64, .inl (σ.2 13))),
   (a 22, .inr (2, [.ref (a 2), .ref (a 23), .ref (a 24)])),
   (a 23, .inl (cI, 8, .inl (σ.2 14))),
   (a 24, .inl (cI, 64, .inl (σ.2 15)))]
end
section
def rmJ9_floorMod : Room := { frames := 0, cells := 0, slots := 0, locals := 0 }
set_option maxRecDepth 100000 in
set_option maxHeartbeats 4000000 in
theorem kJ9_floorMod (l : Launch) (D : va_G) (cI cZ : ClassId) (x1 x2 : Int32) (h9 : ¬ x2 = 0) : Ci l yJ9_floorMod cJ9_floorMod 3 (some .int) TB rmJ9_floorMod D vwCl [(cI, .int), (cZ, .boolean)] [.int x1, .int x2] [] [] (fm x1 x2) := by
  refine Ci_of (cc := cJ9_floorMod) (maxL := 3) (ret := (some .int)) (by decide +kernel) TBg (Nat.le_of_ble_eq_true rfl) ?_
  intro p e s m args below meth c A h hr
  refine j_iload_n h 0 dJ9_floorMod_0 rfl rfl ?_
  refine j_iload_n h 1 dJ9_floorMod_1 rfl rfl ?_
  refine j_irem h dJ9_floorMod_2 h9 ?_
  refine j_istore_n h (lv' := [(2, .int (x1 - x1 / x2 * x2)), (0, .int x1), (1, .int x2)]) dJ9_floorMod_3 rfl (by decide) rfl ?_
  refine j_iload_n h 1 dJ9_floorMod_4 rfl rfl ?_
  refine j_iload_n h 2 dJ9_floorMod_5 rfl rfl ?_
  refine j_ixor h dJ9_floorMod_6 ?_
  refine j_if_ge h dJ9_floorMod_7 (tgt := 18) (by decide) (fun c1 => ?_) (fun c1 => ?_)
  ·
    refine j_iload_n h 0 dJ9_floorMod_18 rfl rfl ?_
    have E : fm x1 x2 = (x1 - x1 / x2 * x2) := j_ip c1 rfl
    exact j_ireturn h hr E.symm rfl dJ9_floorMod_19
  ·
    refine j_iload_n h 0 dJ9_floorMod_10 rfl rfl ?_
    refine j_if_eq h dJ9_floorMod_11 (tgt := 18) (by decide) (fun c2 => ?_) (fun c2 => ?_)
    ·
      refine j_iload_n h 0 dJ9_floorMod_18 rfl rfl ?_
      have E : fm x1 x2 = (x1 - x1 / x2 * x2) := j_ig c1 (j_ip c2 rfl)
      exact j_ireturn h hr E.symm rfl dJ9_floorMod_19
    ·
      refine j_iload_n h 0 dJ9_floorMod_14 rfl rfl ?_
      refine j_iload_n h 2 dJ9_floorMod_15 rfl rfl ?_
      refine j_iadd h dJ9_floorMod_16 ?_
      have E : fm x1 x2 = ((x1 - x1 / x2 * x2) + x2) := j_ig c1 (j_ig c2 rfl)
      exact j_ireturn h hr E.symm rfl dJ9_floorMod_17
/-- Arrays.fill: every place of it -/
def fillF (n : Nat) (v : Int32) (f : Nat → Int32) : Nat → Int32 := fun j => if j < n then v else f j
def rmJ7_fill : Room := { frames := 0, cells := 0, slots := 0, locals := 0 }
theorem fillF_0 (v : Int32) (f : Nat → Int32) : fillF 0 v f = f := funext fun j => if_neg (Nat.not_lt_zero j)
theorem fillF_s (k : Nat) (v : Int32) (f : Nat → Int32) : upd (fillF k v f) k v = fillF (k + 1) v f := funext fun j => by
  unfold upd fillF
  by_cases h : j = k
  · rw [if_pos h, if_pos (by omega)]
  · rw [if_neg h]
    by_cases h2 : j < k
    · rw [if_pos h2, if_pos (by omega)]
    · rw [if_neg h2, if_neg (by omega)]
set_option maxRecDepth 100000 in
set_option maxHeartbeats 4000000 in
theorem kJ7_fill (l : Launch) (D : va_G) (cI cZ : ClassId) (b n : Nat) (f : Nat → Int32) (v : Int32) (hn : n < 2 ^ 31) : Cv l yJ7_fill cJ7_fill 4 none TB rmJ7_fill D vwCl [(cI, .int), (cZ, .boolean)] [.ref b, .int v] [(b, .inl (cI, n, .inl f))] (fun _ => [(b, .inl (cI, n, .inl (fillF n v f)))]) 0 0 := by
  refine Cv_of (cc := cJ7_fill) (maxL := 4) (ret := none) (by decide +kernel) TBg (Nat.le_of_ble_eq_true rfl) ?_
  intro p e s m args below meth c A h hr hname
  have loop : ∀ (q k : Nat), k ≤ n → n < k + q → J p l e rmJ7_fill s m args below meth c D vwCl A 4 0 0 (MQ below (jEv D vwCl [(cI, .int), (cZ, .boolean)] A (fun _ => [(b, .inl (cI, n, .inl (fillF n v f)))])) args s 0 0 A) [(b, .inl (cI, n, .inl (fillF k v f)))] 5 [(2, .int (nI k)), (3, .int (nI n)), (0, .ref b), (1, .int v)] [] := by
    intro q
    induction q with
    | zero => intro k h1 h2; exact absurd h2 (by omega)
    | succ q ih =>
      intro k h1 h2
      refine j_iload_n h 0 dJ7_fill_5 rfl rfl ?_
      refine j_iload_n h 1 dJ7_fill_6 rfl rfl ?_
      refine j_icmp_ge h dJ7_fill_7 (tgt := 20) (by decide) (fun c1 => ?_) (fun c1 => ?_)
      · have e1 : k = n := by
          rcases Nat.lt_or_ge k n with z | z
          · exact absurd c1 (nI_ge z hn)
          · omega
        subst e1
        exact j_vreturn h hr (fun _ => 0) rfl dJ7_fill_20
      · have hk : k < n := by
          rcases Nat.lt_or_ge k n with z | z
          · exact z
          · exact absurd (nI_le z (by omega)) c1
        refine j_aload_n h 2 dJ7_fill_10 rfl rfl ?_
        refine j_iload_n h 0 dJ7_fill_11 rfl rfl ?_
        refine j_iload_n h 3 dJ7_fill_12 rfl rfl ?_
        refine j_iast h 0 0 rfl rfl (vp_in_nI hk hn) (w' := [(b, .inl (cI, n, .inl (fillF (k + 1) v f)))]) (by rw [nI_clamp (by omega), fillF_s]; rfl) dJ7_fill_13 ?_
        refine j_iinc h 0 (v := nI (k + 1)) (lv' := [(2, .int (nI (k + 1))), (3, .int (nI n)), (0, .ref b), (1, .int v)]) dJ7_fill_14 rfl (nI_1 k) (by decide) rfl ?_
        refine j_goto h dJ7_fill_17 (tgt := 5) (by decide) ?_
        exact ih (k + 1) hk (by omega)
  refine j_iconst h (v := 0) dJ7_fill_0 (by decide) ?_
  refine j_istore_n h (lv' := [(2, .int 0), (0, .ref b), (1, .int v)]) dJ7_fill_1 rfl (by decide) rfl ?_
  refine j_aload_n h 1 dJ7_fill_2 rfl rfl ?_
  refine j_alen h 0 0 rfl rfl (v := nI n) rfl dJ7_fill_3 ?_
  refine j_istore_n h (lv' := [(3, .int (nI n)), (2, .int 0), (0, .ref b), (1, .int v)]) dJ7_fill_4 rfl (by decide) rfl ?_
  refine j_lv [1, 0, 2, 3] (lv' := [(2, .int (nI 0)), (3, .int (nI n)), (0, .ref b), (1, .int v)]) rfl ?_
  refine j_world (w' := [(b, .inl (cI, n, .inl (fillF 0 v f)))]) (by rw [fillF_0]) ?_
  exact loop (n + 1) 0 (Nat.zero_le n) (by omega)

def fX7_isBelow (x1 x2 : Int32) : Int32 := (if x1 < 0 then 0 else (if x2 ≤ x1 then 0 else 1))
def rmX7_isBelow : Room := { frames := 0, cells := 0, slots := 0, locals := 0 }
set_option maxRecDepth 100000 in
set_option maxHeartbeats 4000000 in
theorem kX7_isBelow (l : Launch) (D : va_G) (cI cZ : ClassId) (x1 x2 : Int32) : Ci l yX7_isBelow cX7_isBelow 2 (some .boolean) TB rmX7_isBelow D vwCl [(cI, .int), (cZ, .boolean)] [.int x1, .int x2] [] [] (fX7_isBelow x1 x2) := by
  refine Ci_of (cc := cX7_isBelow) (maxL := 2) (ret := (some .boolean)) (by decide +kernel) TBg (Nat.le_of_ble_eq_true rfl) ?_
  intro p e s m args below meth c A h hr
  refine j_iload_n h 0 dX7_isBelow_0 rfl rfl ?_
  refine j_if_lt h dX7_isBelow_1 (tgt := 13) (by decide) (fun c1 => ?_) (fun c1 => ?_)
  ·
    refine j_iconst h (v := 0) dX7_isBelow_13 (by decide) ?_
    have E : fX7_isBelow x1 x2 = 0 := j_ip c1 rfl
    exact j_zreturn h hr (by decide) E.symm rfl dX7_isBelow_14
  ·
    refine j_iload_n h 0 dX7_isBelow_4 rfl rfl ?_
    refine j_iload_n h 1 dX7_isBelow_5 rfl rfl ?_
    refine j_icmp_ge h dX7_isBelow_6 (tgt := 13) (by decide) (fun c2 => ?_) (fun c2 => ?_)
    ·
      refine j_iconst h (v := 0) dX7_isBelow_13 (by decide) ?_
      have E : fX7_isBelow x1 x2 = 0 := j_ig c1 (j_ip c2 rfl)
      exact j_zreturn h hr (by decide) E.symm rfl dX7_isBelow_14
    ·
      refine j_iconst h (v := 1) dX7_isBelow_9 (by decide) ?_
      refine j_goto h dX7_isBelow_10 (tgt := 14) (by decide) ?_
      have E : fX7_isBelow x1 x2 = 1 := j_ig c1 (j_ig c2 rfl)
      exact j_zreturn h hr (by decide) E.symm rfl dX7_isBelow_14
def fX4_rest (x1 x2 : Int32) : Int32 := (if x2 ≤ 0 then 0 else (fm x1 x2))
def rmX4_rest : Room := { frames := 1, cells := 0, slots := 0, locals := 22 }
set_option maxRecDepth 100000 in
set_option maxHeartbeats 4000000 in
theorem kX4_rest (l : Launch) (D : va_G) (cI cZ : ClassId) (x1 x2 : Int32) : Ci l yX4_rest cX4_rest 2 (some .int) TB rmX4_rest D vwCl [(cI, .int), (cZ, .boolean)] [.int x1, .int x2] [] [] (fX4_rest x1 x2) := by
  refine Ci_of (cc := cX4_rest) (maxL := 2) (ret := (some .int)) (by decide +kernel) TBg (Nat.le_of_ble_eq_true rfl) ?_
  intro p e s m args below meth c A h hr
  refine j_iload_n h 1 dX4_rest_0 rfl rfl ?_
  refine j_if_le h dX4_rest_1 (tgt := 12) (by decide) (fun c1 => ?_) (fun c1 => ?_)
  ·
    refine j_iconst h (v := 0) dX4_rest_12 (by decide) ?_
    have E : fX4_rest x1 x2 = 0 := j_ip c1 rfl
    exact j_ireturn h hr E.symm rfl dX4_rest_13
  ·
    refine j_iload_n h 0 dX4_rest_4 rfl rfl ?_
    refine j_iload_n h 1 dX4_rest_5 rfl rfl ?_
    refine j_callSi0 h (kJ9_floorMod l D cI cZ x1 x2 (j_ne0 c1)) tb1_36 tb1_37 tb1_3 tb1_38 ⟨rfl, rfl⟩ (n := 2) (by decide +kernel) ⟨Nat.le_of_ble_eq_true rfl, Nat.le_of_ble_eq_true rfl⟩ (As := [.int x1, .int x2]) rfl (st := []) rfl (Nat.le_of_ble_eq_true rfl) dX4_rest_6 ⟨Nat.zero_le _, Nat.zero_le _⟩ ?_
    refine j_goto h dX4_rest_9 (tgt := 13) (by decide) ?_
    have E : fX4_rest x1 x2 = (fm x1 x2) := j_ig c1 rfl
    exact j_ireturn h hr E.symm rfl dX4_rest_13
def fX3_hasTarget (x1 : Int32) : Int32 := (if x1 = 0 then 1 else (if x1 = 1 then 1 else (if x1 = 3 then 1 else (if x1 = 7 then 1 else 0))))
def rmX3_hasTarget : Room := { frames := 0, cells := 0, slots := 0, locals := 0 }
set_option maxRecDepth 100000 in
set_option maxHeartbeats 4000000 in
theorem kX3_hasTarget (l : Launch) (D : va_G) (cI cZ : ClassId) (x1 : Int32) : Ci l yX3_hasTarget cX3_hasTarget 1 (some .boolean) TB rmX3_hasTarget D vwCl [(cI, .int), (cZ, .boolean)] [.int x1] [] [] (fX3_hasTarget x1) := by
  refine Ci_of (cc := cX3_hasTarget) (maxL := 1) (ret := (some .boolean)) (by decide +kernel) TBg (Nat.le_of_ble_eq_true rfl) ?_
  intro p e s m args below meth c A h hr
  refine j_iload_n h 0 dX3_hasTarget_0 rfl rfl ?_
  refine j_if_eq h dX3_hasTarget_1 (tgt := 20) (by decide) (fun c1 => ?_) (fun c1 => ?_)
  ·
    refine j_iconst h (v := 1) dX3_hasTarget_20 (by decide) ?_
    refine j_goto h dX3_hasTarget_21 (tgt := 25) (by decide) ?_
    have E : fX3_hasTarget x1 = 1 := j_ip c1 rfl
    exact j_zreturn h hr (by decide) E.symm rfl dX3_hasTarget_25
  ·
    refine j_iload_n h 0 dX3_hasTarget_4 rfl rfl ?_
    refine j_iconst h (v := 1) dX3_hasTarget_5 (by decide) ?_
    refine j_icmp_eq h dX3_hasTarget_6 (tgt := 20) (by decide) (fun c2 => ?_) (fun c2 => ?_)
    ·
      refine j_iconst h (v := 1) dX3_hasTarget_20 (by decide) ?_
      refine j_goto h dX3_hasTarget_21 (tgt := 25) (by decide) ?_
      have E : fX3_hasTarget x1 = 1 := j_ig c1 (j_ip c2 rfl)
      exact j_zreturn h hr (by decide) E.symm rfl dX3_hasTarget_25
    ·
      refine j_iload_n h 0 dX3_hasTarget_9 rfl rfl ?_
      refine j_iconst h (v := 3) dX3_hasTarget_10 (by decide) ?_
      refine j_icmp_eq h dX3_hasTarget_11 (tgt := 20) (by decide) (fun c3 => ?_) (fun c3 => ?_)
      ·
        refine j_iconst h (v := 1) dX3_hasTarget_20 (by decide) ?_
        refine j_goto h dX3_hasTarget_21 (tgt := 25) (by decide) ?_
        have E : fX3_hasTarget x1 = 1 := j_ig c1 (j_ig c2 (j_ip c3 rfl))
        exact j_zreturn h hr (by decide) E.symm rfl dX3_hasTarget_25
      ·
        refine j_iload_n h 0 dX3_hasTarget_14 rfl rfl ?_
        refine j_bipush h (v := 7) dX3_hasTarget_15 (by decide) ?_
        refine j_icmp_ne h dX3_hasTarget_17 (tgt := 24) (by decide) (fun c4 => ?_) (fun c4 => ?_)
        ·
          refine j_iconst h (v := 0) dX3_hasTarget_24 (by decide) ?_
          have E : fX3_hasTarget x1 = 0 := j_ig c1 (j_ig c2 (j_ig c3 (j_ig c4 rfl)))
          exact j_zreturn h hr (by decide) E.symm rfl dX3_hasTarget_25
        ·
          refine j_iconst h (v := 1) dX3_hasTarget_20 (by decide) ?_
          refine j_goto h dX3_hasTarget_21 (tgt := 25) (by decide) ?_
          have E : fX3_hasTarget x1 = 1 := j_ig c1 (j_ig c2 (j_ig c3 (j_ip c4 rfl)))
          exact j_zreturn h hr (by decide) E.symm rfl dX3_hasTarget_25
def fX3_readsSecond (x1 : Int32) : Int32 := (if x1 = 0 then 1 else (if x1 = 2 then 1 else (if x1 = 3 then 1 else 0)))
def rmX3_readsSecond : Room := { frames := 0, cells := 0, slots := 0, locals := 0 }
set_option maxRecDepth 100000 in
set_option maxHeartbeats 4000000 in
theorem kX3_readsSecond (l : Launch) (D : va_G) (cI cZ : ClassId) (x1 : Int32) : Ci l yX3_readsSecond cX3_readsSecond 1 (some .boolean) TB rmX3_readsSecond D vwCl [(cI, .int), (cZ, .boolean)] [.int x1] [] [] (fX3_readsSecond x1) := by
  refine Ci_of (cc := cX3_readsSecond) (maxL := 1) (ret := (some .boolean)) (by decide +kernel) TBg (Nat.le_of_ble_eq_true rfl) ?_
  intro p e s m args below meth c A h hr
  refine j_iload_n h 0 dX3_readsSecond_0 rfl rfl ?_
  refine j_if_eq h dX3_readsSecond_1 (tgt := 14) (by decide) (fun c1 => ?_) (fun c1 => ?_)
  ·
    refine j_iconst h (v := 1) dX3_readsSecond_14 (by decide) ?_
    refine j_goto h dX3_readsSecond_15 (tgt := 19) (by decide) ?_
    have E : fX3_readsSecond x1 = 1 := j_ip c1 rfl
    exact j_zreturn h hr (by decide) E.symm rfl dX3_readsSecond_19
  ·
    refine j_iload_n h 0 dX3_readsSecond_4 rfl rfl ?_
    refine j_iconst h (v := 2) dX3_readsSecond_5 (by decide) ?_
    refine j_icmp_eq h dX3_readsSecond_6 (tgt := 14) (by decide) (fun c2 => ?_) (fun c2 => ?_)
    ·
      refine j_iconst h (v := 1) dX3_readsSecond_14 (by decide) ?_
      refine j_goto h dX3_readsSecond_15 (tgt := 19) (by decide) ?_
      have E : fX3_readsSecond x1 = 1 := j_ig c1 (j_ip c2 rfl)
      exact j_zreturn h hr (by decide) E.symm rfl dX3_readsSecond_19
    ·
      refine j_iload_n h 0 dX3_readsSecond_9 rfl rfl ?_
      refine j_iconst h (v := 3) dX3_readsSecond_10 (by decide) ?_
      refine j_icmp_ne h dX3_readsSecond_11 (tgt := 18) (by decide) (fun c3 => ?_) (fun c3 => ?_)
      ·
        refine j_iconst h (v := 0) dX3_readsSecond_18 (by decide) ?_
        have E : fX3_readsSecond x1 = 0 := j_ig c1 (j_ig c2 (j_ig c3 rfl))
        exact j_zreturn h hr (by decide) E.symm rfl dX3_readsSecond_19
      ·
        refine j_iconst h (v := 1) dX3_readsSecond_14 (by decide) ?_
        refine j_goto h dX3_readsSecond_15 (tgt := 19) (by decide) ?_
        have E : fX3_readsSecond x1 = 1 := j_ig c1 (j_ig c2 (j_ip c3 rfl))
        exact j_zreturn h hr (by decide) E.symm rfl dX3_readsSecond_19
def fX3_readsFirst (x1 : Int32) : Int32 := (if x1 = 1 then 1 else (if x1 = 4 then 1 else (let q3 := (fX3_readsSecond x1); (if q3 = 0 then 0 else 1))))
def rmX3_readsFirst : Room := { frames := 1, cells := 0, slots := 0, locals := 20 }
set_option maxRecDepth 100000 in
set_option maxHeartbeats 4000000 in
theorem kX3_readsFirst (l : Launch) (D : va_G) (cI cZ : ClassId) (x1 : Int32) : Ci l yX3_readsFirst cX3_readsFirst 1 (some .boolean) TB rmX3_readsFirst D vwCl [(cI, .int), (cZ, .boolean)] [.int x1] [] [] (fX3_readsFirst x1) := by
  refine Ci_of (cc := cX3_readsFirst) (maxL := 1) (ret := (some .boolean)) (by decide +kernel) TBg (Nat.le_of_ble_eq_true rfl) ?_
  intro p e s m args below meth c A h hr
  refine j_iload_n h 0 dX3_readsFirst_0 rfl rfl ?_
  refine j_iconst h (v := 1) dX3_readsFirst_1 (by decide) ?_
  refine j_icmp_eq h dX3_readsFirst_2 (tgt := 17) (by decide) (fun c1 => ?_) (fun c1 => ?_)
  ·
    refine j_iconst h (v := 1) dX3_readsFirst_17 (by decide) ?_
    refine j_goto h dX3_readsFirst_18 (tgt := 22) (by decide) ?_
    have E : fX3_readsFirst x1 = 1 := j_ip c1 rfl
    exact j_zreturn h hr (by decide) E.symm rfl dX3_readsFirst_22
  ·
    refine j_iload_n h 0 dX3_readsFirst_5 rfl rfl ?_
    refine j_iconst h (v := 4) dX3_readsFirst_6 (by decide) ?_
    refine j_icmp_eq h dX3_readsFirst_7 (tgt := 17) (by decide) (fun c2 => ?_) (fun c2 => ?_)
    ·
      refine j_iconst h (v := 1) dX3_readsFirst_17 (by decide) ?_
      refine j_goto h dX3_readsFirst_18 (tgt := 22) (by decide) ?_
      have E : fX3_readsFirst x1 = 1 := j_ig c1 (j_ip c2 rfl)
      exact j_zreturn h hr (by decide) E.symm rfl dX3_readsFirst_22
    ·
      refine j_iload_n h 0 dX3_readsFirst_10 rfl rfl ?_
      refine j_callSi0 h (kX3_readsSecond l D cI cZ x1) tb2_195 tb2_196 tb1_4 tb2_197 ⟨rfl, rfl⟩ (n := 1) (by decide +kernel) ⟨Nat.le_of_ble_eq_true rfl, Nat.le_of_ble_eq_true rfl⟩ (As := [.int x1]) rfl (st := []) rfl (Nat.le_of_ble_eq_true rfl) dX3_readsFirst_11 ⟨Nat.zero_le _, Nat.zero_le _⟩ ?_
      generalize hq3 : (fX3_readsSecond x1) = q3
      refine j_if_eq h dX3_readsFirst_14 (tgt := 21) (by decide) (fun c4 => ?_) (fun c4 => ?_)
      ·
        refine j_iconst h (v := 0) dX3_readsFirst_21 (by decide) ?_
        subst hq3
        have E : fX3_readsFirst x1 = 0 := j_ig c1 (j_ig c2 (j_ip c4 rfl))
        exact j_zreturn h hr (by decide) E.symm rfl dX3_readsFirst_22
      ·
        refine j_iconst h (v := 1) dX3_readsFirst_17 (by decide) ?_
        refine j_goto h dX3_readsFirst_18 (tgt := 22) (by decide) ?_
        subst hq3
        have E : fX3_readsFirst x1 = 1 := j_ig c1 (j_ig c2 (j_ig c4 rfl))
        exact j_zreturn h hr (by decide) E.symm rfl dX3_readsFirst_22
end
section
def fX4_last (σ : St) : Int32 := ((σ.1 0) - 1)
def rmX4_last : Room := { frames := 0, cells := 0, slots := 0, locals := 0 }
set_option maxRecDepth 100000 in
set_option maxHeartbeats 4000000 in
theorem kX4_last (l : Launch) (D : va_G) (a : Nat → Nat) (cI cZ : ClassId) (σ : St) : Ci l yX4_last cX4_last 1 (some .int) TB rmX4_last D vwCl [(cI, .int), (cZ, .boolean)] [.ref (a 1)] (fx a cI cZ σ) (fx a cI cZ σ) (fX4_last σ) := by
  refine Ci_of (cc := cX4_last) (maxL := 1) (ret := (some .int)) (by decide +kernel) TBg (Nat.le_of_ble_eq_true rfl) ?_
  intro p e s m args below meth c A h hr
  refine j_aload_n h 0 dX4_last_0 rfl rfl ?_
  refine j_get h iX4 1 rfl rfl 0 (by decide) tb1_39 rfl (v := .int (σ.1 0)) rfl dX4_last_1 ?_
  refine j_iconst h (v := 1) dX4_last_4 (by decide) ?_
  refine j_isub h dX4_last_5 ?_
  have E : fX4_last σ = ((σ.1 0) - 1) := rfl
  exact j_ireturn h hr E.symm rfl dX4_last_6
def fX4_behindWhichReady (σ : St) (x1 : Int32) : Int32 := (if x1 = 1 then (σ.1 3) else (σ.1 2))
def rmX4_behindWhichReady : Room := { frames := 0, cells := 0, slots := 0, locals := 0 }
set_option maxRecDepth 100000 in
set_option maxHeartbeats 4000000 in
theorem kX4_behindWhichReady (l : Launch) (D : va_G) (a : Nat → Nat) (cI cZ : ClassId) (σ : St) (x1 : Int32) : Ci l yX4_behindWhichReady cX4_behindWhichReady 2 (some .int) TB rmX4_behindWhichReady D vwCl [(cI, .int), (cZ, .boolean)] [.ref (a 1), .int x1] (fx a cI cZ σ) (fx a cI cZ σ) (fX4_behindWhichReady σ x1) := by
  refine Ci_of (cc := cX4_behindWhichReady) (maxL := 2) (ret := (some .int)) (by decide +kernel) TBg (Nat.le_of_ble_eq_true rfl) ?_
  intro p e s m args below meth c A h hr
  refine j_iload_n h 1 dX4_behindWhichReady_0 rfl rfl ?_
  refine j_iconst h (v := 1) dX4_behindWhichReady_1 (by decide) ?_
  refine j_icmp_ne h dX4_behindWhichReady_2 (tgt := 12) (by decide) (fun c1 => ?_) (fun c1 => ?_)
  ·
    refine j_aload_n h 0 dX4_behindWhichReady_12 rfl rfl ?_
    refine j_get h iX4 1 rfl rfl 2 (by decide) tb1_45 rfl (v := .int (σ.1 2)) rfl dX4_behindWhichReady_13 ?_
    have E : fX4_behindWhichReady σ x1 = (σ.1 2) := j_ig c1 rfl
    exact j_ireturn h hr E.symm rfl dX4_behindWhichReady_16
  ·
    refine j_aload_n h 0 dX4_behindWhichReady_5 rfl rfl ?_
    refine j_get h iX4 1 rfl rfl 3 (by decide) tb1_47 rfl (v := .int (σ.1 3)) rfl dX4_behindWhichReady_6 ?_
    refine j_goto h dX4_behindWhichReady_9 (tgt := 16) (by decide) ?_
    have E : fX4_behindWhichReady σ x1 = (σ.1 3) := j_ip c1 rfl
    exact j_ireturn h hr E.symm rfl dX4_behindWhichReady_16
def fX4_cyclesToWork (σ : St) (x1 : Int32) : Int32 := (if x1 = 3 then (σ.1 5) else 1)
def rmX4_cyclesToWork : Room := { frames := 0, cells := 0, slots := 0, locals := 0 }
set_option maxRecDepth 100000 in
set_option maxHeartbeats 4000000 in
theorem kX4_cyclesToWork (l : Launch) (D : va_G) (a : Nat → Nat) (cI cZ : ClassId) (σ : St) (x1 : Int32) : Ci l yX4_cyclesToWork cX4_cyclesToWork 2 (some .int) TB rmX4_cyclesToWork D vwCl [(cI, .int), (cZ, .boolean)] [.ref (a 1), .int x1] (fx a cI cZ σ) (fx a cI cZ σ) (fX4_cyclesToWork σ x1) := by
  refine Ci_of (cc := cX4_cyclesToWork) (maxL := 2) (ret := (some .int)) (by decide +kernel) TBg (Nat.le_of_ble_eq_true rfl) ?_
  intro p e s m args below meth c A h hr
  refine j_iload_n h 1 dX4_cyclesToWork_0 rfl rfl ?_
  refine j_iconst h (v := 3) dX4_cyclesToWork_1 (by decide) ?_
  refine j_icmp_ne h dX4_cyclesToWork_2 (tgt := 12) (by decide) (fun c1 => ?_) (fun c1 => ?_)
  ·
    refine j_iconst h (v := 1) dX4_cyclesToWork_12 (by decide) ?_
    have E : fX4_cyclesToWork σ x1 = 1 := j_ig c1 rfl
    exact j_ireturn h hr E.symm rfl dX4_cyclesToWork_13
  ·
    refine j_aload_n h 0 dX4_cyclesToWork_5 rfl rfl ?_
    refine j_get h iX4 1 rfl rfl 5 (by decide) tb1_52 rfl (v := .int (σ.1 5)) rfl dX4_cyclesToWork_6 ?_
    refine j_goto h dX4_cyclesToWork_9 (tgt := 13) (by decide) ?_
    have E : fX4_cyclesToWork σ x1 = (σ.1 5) := j_ip c1 rfl
    exact j_ireturn h hr E.symm rfl dX4_cyclesToWork_13
def fX3_append (σ : St) (x1 x2 x3 x4 x5 : Int32) : Int32 × St := (if (σ.1 6) < 0 then ((-1), σ) else (if (σ.1 6) < 64 then (let q3 := (fX3_hasTarget x1); (if q3 = 0 then (let q5 := (fX3_readsFirst x1); (if q5 = 0 then (let q7 := (fX3_readsSecond x1); (if q7 = 0 then ((((σ.1 6) + 1) - 1), (sg (ar (ar (ar (ar (ar σ 0 (upd (σ.2 0) (σ.1 6).toNatClampNeg x1)) 1 (upd (σ.2 1) (σ.1 6).toNatClampNeg (-1))) 2 (upd (σ.2 2) (σ.1 6).toNatClampNeg (-1))) 3 (upd (σ.2 3) (σ.1 6).toNatClampNeg (-1))) 4 (upd (σ.2 4) (σ.1 6).toNatClampNeg x5)) 6 ((σ.1 6) + 1))) else ((((σ.1 6) + 1) - 1), (sg (ar (ar (ar (ar (ar σ 0 (upd (σ.2 0) (σ.1 6).toNatClampNeg x1)) 1 (upd (σ.2 1) (σ.1 6).toNatClampNeg (-1))) 2 (upd (σ.2 2) (σ.1 6).toNatClampNeg (-1))) 3 (upd (σ.2 3) (σ.1 6).toNatClampNeg x4)) 4 (upd (σ.2 4) (σ.1 6).toNatClampNeg x5)) 6 ((σ.1 6) + 1))))) else (let q9 := (fX3_readsSecond x1); (if q9 = 0 then ((((σ.1 6) + 1) - 1), (sg (ar (ar (ar (ar (ar σ 0 (upd (σ.2 0) (σ.1 6).toNatClampNeg x1)) 1 (upd (σ.2 1) (σ.1 6).toNatClampNeg (-1))) 2 (upd (σ.2 2) (σ.1 6).toNatClampNeg x3)) 3 (upd (σ.2 3) (σ.1 6).toNatClampNeg (-1))) 4 (upd (σ.2 4) (σ.1 6).toNatClampNeg x5)) 6 ((σ.1 6) + 1))) else ((((σ.1 6) + 1) - 1), (sg (ar (ar (ar (ar (ar σ 0 (upd (σ.2 0) (σ.1 6).toNatClampNeg x1)) 1 (upd (σ.2 1) (σ.1 6).toNatClampNeg (-1))) 2 (upd (σ.2 2) (σ.1 6).toNatClampNeg x3)) 3 (upd (σ.2 3) (σ.1 6).toNatClampNeg x4)) 4 (upd (σ.2 4) (σ.1 6).toNatClampNeg x5)) 6 ((σ.1 6) + 1))))))) else (let q11 := (fX3_readsFirst x1); (if q11 = 0 then (let q13 := (fX3_readsSecond x1); (if q13 = 0 then ((((σ.1 6) + 1) - 1), (sg (ar (ar (ar (ar (ar σ 0 (upd (σ.2 0) (σ.1 6).toNatClampNeg x1)) 1 (upd (σ.2 1) (σ.1 6).toNatClampNeg x2)) 2 (upd (σ.2 2) (σ.1 6).toNatClampNeg (-1))) 3 (upd (σ.2 3) (σ.1 6).toNatClampNeg (-1))) 4 (upd (σ.2 4) (σ.1 6).toNatClampNeg x5)) 6 ((σ.1 6) + 1))) else ((((σ.1 6) + 1) - 1), (sg (ar (ar (ar (ar (ar σ 0 (upd (σ.2 0) (σ.1 6).toNatClampNeg x1)) 1 (upd (σ.2 1) (σ.1 6).toNatClampNeg x2)) 2 (upd (σ.2 2) (σ.1 6).toNatClampNeg (-1))) 3 (upd (σ.2 3) (σ.1 6).toNatClampNeg x4)) 4 (upd (σ.2 4) (σ.1 6).toNatClampNeg x5)) 6 ((σ.1 6) + 1))))) else (let q15 := (fX3_readsSecond x1); (if q15 = 0 then ((((σ.1 6) + 1) - 1), (sg (ar (ar (ar (ar (ar σ 0 (upd (σ.2 0) (σ.1 6).toNatClampNeg x1)) 1 (upd (σ.2 1) (σ.1 6).toNatClampNeg x2)) 2 (upd (σ.2 2) (σ.1 6).toNatClampNeg x3)) 3 (upd (σ.2 3) (σ.1 6).toNatClampNeg (-1))) 4 (upd (σ.2 4) (σ.1 6).toNatClampNeg x5)) 6 ((σ.1 6) + 1))) else ((((σ.1 6) + 1) - 1), (sg (ar (ar (ar (ar (ar σ 0 (upd (σ.2 0) (σ.1 6).toNatClampNeg x1)) 1 (upd (σ.2 1) (σ.1 6).toNatClampNeg x2)) 2 (upd (σ.2 2) (σ.1 6).toNatClampNeg x3)) 3 (upd (σ.2 3) (σ.1 6).toNatClampNeg x4)) 4 (upd (σ.2 4) (σ.1 6).toNatClampNeg x5)) 6 ((σ.1 6) + 1))))))))) else ((-1), σ)))
def rmX3_append : Room := { frames := 2, cells := 0, slots := 0, locals := 40 }
set_option maxRecDepth 100000 in
set_option maxHeartbeats 4000000 in
theorem kX3_append (l : Launch) (D : va_G) (a : Nat → Nat) (cI cZ : ClassId) (σ : St) (x1 x2 x3 x4 x5 : Int32) : Ci l yX3_append cX3_append 6 (some .int) TB rmX3_append D vwCl [(cI, .int), (cZ, .boolean)] [.ref (a 2), .int x1, .int x2, .int x3, .int x4, .int x5] (fx a cI cZ σ) (fx a cI cZ (fX3_append σ x1 x2 x3 x4 x5).2) (fX3_append σ x1 x2 x3 x4 x5).1 := by
  refine Ci_of (cc := cX3_append) (maxL := 6) (ret := (some .int)) (by decide +kernel) TBg (Nat.le_of_ble_eq_true rfl) ?_
  intro p e s m args below meth c A h hr
  refine j_aload_n h 0 dX3_append_0 rfl rfl ?_
  refine j_get h iX3 2 rfl rfl 5 (by decide) tb1_78 rfl (v := .int (σ.1 6)) rfl dX3_append_1 ?_
  refine j_if_lt h dX3_append_4 (tgt := 16) (by decide) (fun c1 => ?_) (fun c1 => ?_)
  ·
    refine j_iconst h (v := (-1)) dX3_append_16 (by decide) ?_
    have E : fX3_append σ x1 x2 x3 x4 x5 = ((-1), σ) := j_ip c1 rfl
    exact j_ireturn h hr (congrArg Prod.fst E).symm (congrArg (fun z => fx a cI cZ z.2) E).symm dX3_append_17
  ·
    refine j_aload_n h 0 dX3_append_7 rfl rfl ?_
    refine j_get h iX3 2 rfl rfl 5 (by decide) tb1_78 rfl (v := .int (σ.1 6)) rfl dX3_append_8 ?_
    refine j_bipush h (v := 64) dX3_append_11 (by decide) ?_
    refine j_icmp_lt h dX3_append_13 (tgt := 18) (by decide) (fun c2 => ?_) (fun c2 => ?_)
    ·
      refine j_aload_n h 0 dX3_append_18 rfl rfl ?_
      refine j_get h iX3 2 rfl rfl 0 (by decide) tb1_73 rfl (v := .ref (a 3)) rfl dX3_append_19 ?_
      refine j_aload_n h 0 dX3_append_22 rfl rfl ?_
      refine j_get h iX3 2 rfl rfl 5 (by decide) tb1_78 rfl (v := .int (σ.1 6)) rfl dX3_append_23 ?_
      refine j_iload_n h 1 dX3_append_26 rfl rfl ?_
      refine j_iast h 3 0 rfl rfl (j_in64 (j_lo1 c1) c2) (w' := (fx a cI cZ (ar σ 0 (upd (σ.2 0) (σ.1 6).toNatClampNeg x1)))) rfl dX3_append_27 ?_
      refine j_aload_n h 0 dX3_append_28 rfl rfl ?_
      refine j_get h iX3 2 rfl rfl 1 (by decide) tb1_74 rfl (v := .ref (a 4)) rfl dX3_append_29 ?_
      refine j_aload_n h 0 dX3_append_32 rfl rfl ?_
      refine j_get h iX3 2 rfl rfl 5 (by decide) tb1_78 rfl (v := .int (σ.1 6)) rfl dX3_append_33 ?_
      refine j_iload_n h 1 dX3_append_36 rfl rfl ?_
      refine j_callSi0 h (kX3_hasTarget l D cI cZ x1) tb2_189 tb2_190 tb1_4 tb2_191 ⟨rfl, rfl⟩ (n := 1) (by decide +kernel) ⟨Nat.le_of_ble_eq_true rfl, Nat.le_of_ble_eq_true rfl⟩ (As := [.int x1]) rfl (st := [.int (σ.1 6), .ref (a 4)]) rfl (Nat.le_of_ble_eq_true rfl) dX3_append_37 ⟨Nat.zero_le _, Nat.zero_le _⟩ ?_
      generalize hq3 : (fX3_hasTarget x1) = q3
      refine j_if_eq h dX3_append_40 (tgt := 47) (by decide) (fun c4 => ?_) (fun c4 => ?_)
      ·
        refine j_iconst h (v := (-1)) dX3_append_47 (by decide) ?_
        refine j_iast h 4 0 rfl rfl (j_in64 (j_lo1 c1) c2) (w' := (fx a cI cZ (ar (ar σ 0 (upd (σ.2 0) (σ.1 6).toNatClampNeg x1)) 1 (upd (σ.2 1) (σ.1 6).toNatClampNeg (-1))))) rfl dX3_append_48 ?_
        refine j_aload_n h 0 dX3_append_49 rfl rfl ?_
        refine j_get h iX3 2 rfl rfl 2 (by decide) tb1_75 rfl (v := .ref (a 5)) rfl dX3_append_50 ?_
        refine j_aload_n h 0 dX3_append_53 rfl rfl ?_
        refine j_get h iX3 2 rfl rfl 5 (by decide) tb1_78 rfl (v := .int (σ.1 6)) rfl dX3_append_54 ?_
        refine j_iload_n h 1 dX3_append_57 rfl rfl ?_
        refine j_callSi0 h (kX3_readsFirst l D cI cZ x1) tb2_192 tb2_193 tb1_4 tb2_194 ⟨rfl, rfl⟩ (n := 1) (by decide +kernel) ⟨Nat.le_of_ble_eq_true rfl, Nat.le_of_ble_eq_true rfl⟩ (As := [.int x1]) rfl (st := [.int (σ.1 6), .ref (a 5)]) rfl (Nat.le_of_ble_eq_true rfl) dX3_append_58 ⟨Nat.zero_le _, Nat.zero_le _⟩ ?_
        generalize hq5 : (fX3_readsFirst x1) = q5
        refine j_if_eq h dX3_append_61 (tgt := 68) (by decide) (fun c6 => ?_) (fun c6 => ?_)
        ·
          refine j_iconst h (v := (-1)) dX3_append_68 (by decide) ?_
          refine j_iast h 5 0 rfl rfl (j_in64 (j_lo1 c1) c2) (w' := (fx a cI cZ (ar (ar (ar σ 0 (upd (σ.2 0) (σ.1 6).toNatClampNeg x1)) 1 (upd (σ.2 1) (σ.1 6).toNatClampNeg (-1))) 2 (upd (σ.2 2) (σ.1 6).toNatClampNeg (-1))))) rfl dX3_append_69 ?_
          refine j_aload_n h 0 dX3_append_70 rfl rfl ?_
          refine j_get h iX3 2 rfl rfl 3 (by decide) tb1_76 rfl (v := .ref (a 6)) rfl dX3_append_71 ?_
          refine j_aload_n h 0 dX3_append_74 rfl rfl ?_
          refine j_get h iX3 2 rfl rfl 5 (by decide) tb1_78 rfl (v := .int (σ.1 6)) rfl dX3_append_75 ?_
          refine j_iload_n h 1 dX3_append_78 rfl rfl ?_
          refine j_callSi0 h (kX3_readsSecond l D cI cZ x1) tb2_195 tb2_196 tb1_4 tb2_197 ⟨rfl, rfl⟩ (n := 1) (by decide +kernel) ⟨Nat.le_of_ble_eq_true rfl, Nat.le_of_ble_eq_true rfl⟩ (As := [.int x1]) rfl (st := [.int (σ.1 6), .ref (a 6)]) rfl (Nat.le_of_ble_eq_true rfl) dX3_append_79 ⟨Nat.zero_le _, Nat.zero_le _⟩ ?_
          generalize hq7 : (fX3_readsSecond x1) = q7
          refine j_if_eq h dX3_append_82 (tgt := 90) (by decide) (fun c8 => ?_) (fun c8 => ?_)
          ·
            refine j_iconst h (v := (-1)) dX3_append_90 (by decide) ?_
            refine j_iast h 6 0 rfl rfl (j_in64 (j_lo1 c1) c2) (w' := (fx a cI cZ (ar (ar (ar (ar σ 0 (upd (σ.2 0) (σ.1 6).toNatClampNeg x1)) 1 (upd (σ.2 1) (σ.1 6).toNatClampNeg (-1))) 2 (upd (σ.2 2) (σ.1 6).toNatClampNeg (-1))) 3 (upd (σ.2 3) (σ.1 6).toNatClampNeg (-1))))) rfl dX3_append_91 ?_
            refine j_aload_n h 0 dX3_append_92 rfl rfl ?_
            refine j_get h iX3 2 rfl rfl 4 (by decide) tb1_77 rfl (v := .ref (a 7)) rfl dX3_append_93 ?_
            refine j_aload_n h 0 dX3_append_96 rfl rfl ?_
            refine j_get h iX3 2 rfl rfl 5 (by decide) tb1_78 rfl (v := .int (σ.1 6)) rfl dX3_append_97 ?_
            refine j_iload h 5 dX3_append_100 rfl ?_
            refine j_iast h 7 0 rfl rfl (j_in64 (j_lo1 c1) c2) (w' := (fx a cI cZ (ar (ar (ar (ar (ar σ 0 (upd (σ.2 0) (σ.1 6).toNatClampNeg x1)) 1 (upd (σ.2 1) (σ.1 6).toNatClampNeg (-1))) 2 (upd (σ.2 2) (σ.1 6).toNatClampNeg (-1))) 3 (upd (σ.2 3) (σ.1 6).toNatClampNeg (-1))) 4 (upd (σ.2 4) (σ.1 6).toNatClampNeg x5)))) rfl dX3_append_102 ?_
            refine j_aload_n h 0 dX3_append_103 rfl rfl ?_
            refine j_dup h dX3_append_104 rfl ?_
            refine j_get h iX3 2 rfl rfl 5 (by decide) tb1_78 rfl (v := .int (σ.1 6)) rfl dX3_append_105 ?_
            refine j_iconst h (v := 1) dX3_append_108 (by decide) ?_
            refine j_iadd h dX3_append_109 ?_
            refine j_put h iX3 tyX3 tyX3_ok nmX3 2 rfl rfl 5 (by decide) tb1_78 rfl rfl rfl rfl (Nat.le_of_ble_eq_true rfl) (w' := (fx a cI cZ (sg (ar (ar (ar (ar (ar σ 0 (upd (σ.2 0) (σ.1 6).toNatClampNeg x1)) 1 (upd (σ.2 1) (σ.1 6).toNatClampNeg (-1))) 2 (upd (σ.2 2) (σ.1 6).toNatClampNeg (-1))) 3 (upd (σ.2 3) (σ.1 6).toNatClampNeg (-1))) 4 (upd (σ.2 4) (σ.1 6).toNatClampNeg x5)) 6 ((σ.1 6) + 1)))) rfl dX3_append_110 ?_
            refine j_aload_n h 0 dX3_append_113 rfl rfl ?_
            refine j_get h iX3 2 rfl rfl 5 (by decide) tb1_78 rfl (v := .int ((σ.1 6) + 1)) rfl dX3_append_114 ?_
            refine j_iconst h (v := 1) dX3_append_117 (by decide) ?_
            refine j_isub h dX3_append_118 ?_
            subst hq3 hq5 hq7
            have E : fX3_append σ x1 x2 x3 x4 x5 = ((((σ.1 6) + 1) - 1), (sg (ar (ar (ar (ar (ar σ 0 (upd (σ.2 0) (σ.1 6).toNatClampNeg x1)) 1 (upd (σ.2 1) (σ.1 6).toNatClampNeg (-1))) 2 (upd (σ.2 2) (σ.1 6).toNatClampNeg (-1))) 3 (upd (σ.2 3) (σ.1 6).toNatClampNeg (-1))) 4 (upd (σ.2 4) (σ.1 6).toNatClampNeg x5)) 6 ((σ.1 6) + 1))) := j_ig c1 (j_ip c2 (j_ip c4 (j_ip c6 (j_ip c8 rfl))))
            exact j_ireturn h hr (congrArg Prod.fst E).symm (congrArg (fun z => fx a cI cZ z.2) E).symm dX3_append_119
          ·
            refine j_iload h 4 dX3_append_85 rfl ?_
            refine j_goto h dX3_append_87 (tgt := 91) (by decide) ?_
            refine j_iast h 6 0 rfl rfl (j_in64 (j_lo1 c1) c2) (w' := (fx a cI cZ (ar (ar (ar (ar σ 0 (upd (σ.2 0) (σ.1 6).toNatClampNeg x1)) 1 (upd (σ.2 1) (σ.1 6).toNatClampNeg (-1))) 2 (upd (σ.2 2) (σ.1 6).toNatClampNeg (-1))) 3 (upd (σ.2 3) (σ.1 6).toNatClampNeg x4)))) rfl dX3_append_91 ?_
            refine j_aload_n h 0 dX3_append_92 rfl rfl ?_
            refine j_get h iX3 2 rfl rfl 4 (by decide) tb1_77 rfl (v := .ref (a 7)) rfl dX3_append_93 ?_
            refine j_aload_n h 0 dX3_append_96 rfl rfl ?_
            refine j_get h iX3 2 rfl rfl 5 (by decide) tb1_78 rfl (v := .int (σ.1 6)) rfl dX3_append_97 ?_
            refine j_iload h 5 dX3_append_100 rfl ?_
            refine j_iast h 7 0 rfl rfl (j_in64 (j_lo1 c1) c2) (w' := (fx a cI cZ (ar (ar (ar (ar (ar σ 0 (upd (σ.2 0) (σ.1 6).toNatClampNeg x1)) 1 (upd (σ.2 1) (σ.1 6).toNatClampNeg (-1))) 2 (upd (σ.2 2) (σ.1 6).toNatClampNeg (-1))) 3 (upd (σ.2 3) (σ.1 6).toNatClampNeg x4)) 4 (upd (σ.2 4) (σ.1 6).toNatClampNeg x5)))) rfl dX3_append_102 ?_
            refine j_aload_n h 0 dX3_append_103 rfl rfl ?_
            refine j_dup h dX3_append_104 rfl ?_
            refine j_get h iX3 2 rfl rfl 5 (by decide) tb1_78 rfl (v := .int (σ.1 6)) rfl dX3_append_105 ?_
            refine j_iconst h (v := 1) dX3_append_108 (by decide) ?_
            refine j_iadd h dX3_append_109 ?_
            refine j_put h iX3 tyX3 tyX3_ok nmX3 2 rfl rfl 5 (by decide) tb1_78 rfl rfl rfl rfl (Nat.le_of_ble_eq_true rfl) (w' := (fx a cI cZ (sg (ar (ar (ar (ar (ar σ 0 (upd (σ.2 0) (σ.1 6).toNatClampNeg x1)) 1 (upd (σ.2 1) (σ.1 6).toNatClampNeg (-1))) 2 (upd (σ.2 2) (σ.1 6).toNatClampNeg (-1))) 3 (upd (σ.2 3) (σ.1 6).toNatClampNeg x4)) 4 (upd (σ.2 4) (σ.1 6).toNatClampNeg x5)) 6 ((σ.1 6) + 1)))) rfl dX3_append_110 ?_
            refine j_aload_n h 0 dX3_append_113 rfl rfl ?_
            refine j_get h iX3 2 rfl rfl 5 (by decide) tb1_78 rfl (v := .int ((σ.1 6) + 1)) rfl dX3_append_114 ?_
            refine j_iconst h (v := 1) dX3_append_117 (by decide) ?_
            refine j_isub h dX3_append_118 ?_
            subst hq3 hq5 hq7
            have E : fX3_append σ x1 x2 x3 x4 x5 = ((((σ.1 6) + 1) - 1), (sg (ar (ar (ar (ar (ar σ 0 (upd (σ.2 0) (σ.1 6).toNatClampNeg x1)) 1 (upd (σ.2 1) (σ.1 6).toNatClampNeg (-1))) 2 (upd (σ.2 2) (σ.1 6).toNatClampNeg (-1))) 3 (upd (σ.2 3) (σ.1 6).toNatClampNeg x4)) 4 (upd (σ.2 4) (σ.1 6).toNatClampNeg x5)) 6 ((σ.1 6) + 1))) := j_ig c1 (j_ip c2 (j_ip c4 (j_ip c6 (j_ig c8 rfl))))
            exact j_ireturn h hr (congrArg Prod.fst E).symm (congrArg (fun z => fx a cI cZ z.2) E).symm dX3_append_119
        ·
          refine j_iload_n h 3 dX3_append_64 rfl rfl ?_
          refine j_goto h dX3_append_65 (tgt := 69) (by decide) ?_
          refine j_iast h 5 0 rfl rfl (j_in64 (j_lo1 c1) c2) (w' := (fx a cI cZ (ar (ar (ar σ 0 (upd (σ.2 0) (σ.1 6).toNatClampNeg x1)) 1 (upd (σ.2 1) (σ.1 6).toNatClampNeg (-1))) 2 (upd (σ.2 2) (σ.1 6).toNatClampNeg x3)))) rfl dX3_append_69 ?_
          refine j_aload_n h 0 dX3_append_70 rfl rfl ?_
          refine j_get h iX3 2 rfl rfl 3 (by decide) tb1_76 rfl (v := .ref (a 6)) rfl dX3_append_71 ?_
          refine j_aload_n h 0 dX3_append_74 rfl rfl ?_
          refine j_get h iX3 2 rfl rfl 5 (by decide) tb1_78 rfl (v := .int (σ.1 6)) rfl dX3_append_75 ?_
          refine j_iload_n h 1 dX3_append_78 rfl rfl ?_
          refine j_callSi0 h (kX3_readsSecond l D cI cZ x1) tb2_195 tb2_196 tb1_4 tb2_197 ⟨rfl, rfl⟩ (n := 1) (by decide +kernel) ⟨Nat.le_of_ble_eq_true rfl, Nat.le_of_ble_eq_true rfl⟩ (As := [.int x1]) rfl (st := [.int (σ.1 6), .ref (a 6)]) rfl (Nat.le_of_ble_eq_true rfl) dX3_append_79 ⟨Nat.zero_le _, Nat.zero_le _⟩ ?_
          generalize hq9 : (fX3_readsSecond x1) = q9
          refine j_if_eq h dX3_append_82 (tgt := 90) (by decide) (fun c10 => ?_) (fun c10 => ?_)
          ·
            refine j_iconst h (v := (-1)) dX3_append_90 (by decide) ?_
            refine j_iast h 6 0 rfl rfl (j_in64 (j_lo1 c1) c2) (w' := (fx a cI cZ (ar (ar (ar (ar σ 0 (upd (σ.2 0) (σ.1 6).toNatClampNeg x1)) 1 (upd (σ.2 1) (σ.1 6).toNatClampNeg (-1))) 2 (upd (σ.2 2) (σ.1 6).toNatClampNeg x3)) 3 (upd (σ.2 3) (σ.1 6).toNatClampNeg (-1))))) rfl dX3_append_91 ?_
            refine j_aload_n h 0 dX3_append_92 rfl rfl ?_
            refine j_get h iX3 2 rfl rfl 4 (by decide) tb1_77 rfl (v := .ref (a 7)) rfl dX3_append_93 ?_
            refine j_aload_n h 0 dX3_append_96 rfl rfl ?_
            refine j_get h iX3 2 rfl rfl 5 (by decide) tb1_78 rfl (v := .int (σ.1 6)) rfl dX3_append_97 ?_
            refine j_iload h 5 dX3_append_100 rfl ?_
            refine j_iast h 7 0 rfl rfl (j_in64 (j_lo1 c1) c2) (w' := (fx a cI cZ (ar (ar (ar (ar (ar σ 0 (upd (σ.2 0) (σ.1 6).toNatClampNeg x1)) 1 (upd (σ.2 1) (σ.1 6).toNatClampNeg (-1))) 2 (upd (σ.2 2) (σ.1 6).toNatClampNeg x3)) 3 (upd (σ.2 3) (σ.1 6).toNatClampNeg (-1))) 4 (upd (σ.2 4) (σ.1 6).toNatClampNeg x5)))) rfl dX3_append_102 ?_
            refine j_aload_n h 0 dX3_append_103 rfl rfl ?_
            refine j_dup h dX3_append_104 rfl ?_
            refine j_get h iX3 2 rfl rfl 5 (by decide) tb1_78 rfl (v := .int (σ.1 6)) rfl dX3_append_105 ?_
            refine j_iconst h (v := 1) dX3_append_108 (by decide) ?_
            refine j_iadd h dX3_append_109 ?_
            refine j_put h iX3 tyX3 tyX3_ok nmX3 2 rfl rfl 5 (by decide) tb1_78 rfl rfl rfl rfl (Nat.le_of_ble_eq_true rfl) (w' := (fx a cI cZ (sg (ar (ar (ar (ar (ar σ 0 (upd (σ.2 0) (σ.1 6).toNatClampNeg x1)) 1 (upd (σ.2 1) (σ.1 6).toNatClampNeg (-1))) 2 (upd (σ.2 2) (σ.1 6).toNatClampNeg x3)) 3 (upd (σ.2 3) (σ.1 6).toNatClampNeg (-1))) 4 (upd (σ.2 4) (σ.1 6).toNatClampNeg x5)) 6 ((σ.1 6) + 1)))) rfl dX3_append_110 ?_
            refine j_aload_n h 0 dX3_append_113 rfl rfl ?_
            refine j_get h iX3 2 rfl rfl 5 (by decide) tb1_78 rfl (v := .int ((σ.1 6) + 1)) rfl dX3_append_114 ?_
            refine j_iconst h (v := 1) dX3_append_117 (by decide) ?_
            refine j_isub h dX3_append_118 ?_
            subst hq3 hq5 hq9
            have E : fX3_append σ x1 x2 x3 x4 x5 = ((((σ.1 6) + 1) - 1), (sg (ar (ar (ar (ar (ar σ 0 (upd (σ.2 0) (σ.1 6).toNatClampNeg x1)) 1 (upd (σ.2 1) (σ.1 6).toNatClampNeg (-1))) 2 (upd (σ.2 2) (σ.1 6).toNatClampNeg x3)) 3 (upd (σ.2 3) (σ.1 6).toNatClampNeg (-1))) 4 (upd (σ.2 4) (σ.1 6).toNatClampNeg x5)) 6 ((σ.1 6) + 1))) := j_ig c1 (j_ip c2 (j_ip c4 (j_ig c6 (j_ip c10 rfl))))
            exact j_ireturn h hr (congrArg Prod.fst E).symm (congrArg (fun z => fx a cI cZ z.2) E).symm dX3_append_119
          ·
            refine j_iload h 4 dX3_append_85 rfl ?_
            refine j_goto h dX3_append_87 (tgt := 91) (by decide) ?_
            refine j_iast h 6 0 rfl rfl (j_in64 (j_lo1 c1) c2) (w' := (fx a cI cZ (ar (ar (ar (ar σ 0 (upd (σ.2 0) (σ.1 6).toNatClampNeg x1)) 1 (upd (σ.2 1) (σ.1 6).toNatClampNeg (-1))) 2 (upd (σ.2 2) (σ.1 6).toNatClampNeg x3)) 3 (upd (σ.2 3) (σ.1 6).toNatClampNeg x4)))) rfl dX3_append_91 ?_
            refine j_aload_n h 0 dX3_append_92 rfl rfl ?_
            refine j_get h iX3 2 rfl rfl 4 (by decide) tb1_77 rfl (v := .ref (a 7)) rfl dX3_append_93 ?_
            refine j_aload_n h 0 dX3_append_96 rfl rfl ?_
            refine j_get h iX3 2 rfl rfl 5 (by decide) tb1_78 rfl (v := .int (σ.1 6)) rfl dX3_append_97 ?_
            refine j_iload h 5 dX3_append_100 rfl ?_
            refine j_iast h 7 0 rfl rfl (j_in64 (j_lo1 c1) c2) (w' := (fx a cI cZ (ar (ar (ar (ar (ar σ 0 (upd (σ.2 0) (σ.1 6).toNatClampNeg x1)) 1 (upd (σ.2 1) (σ.1 6).toNatClampNeg (-1))) 2 (upd (σ.2 2) (σ.1 6).toNatClampNeg x3)) 3 (upd (σ.2 3) (σ.1 6).toNatClampNeg x4)) 4 (upd (σ.2 4) (σ.1 6).toNatClampNeg x5)))) rfl dX3_append_102 ?_
            refine j_aload_n h 0 dX3_append_103 rfl rfl ?_
            refine j_dup h dX3_append_104 rfl ?_
            refine j_get h iX3 2 rfl rfl 5 (by decide) tb1_78 rfl (v := .int (σ.1 6)) rfl dX3_append_105 ?_
            refine j_iconst h (v := 1) dX3_append_108 (by decide) ?_
            refine j_iadd h dX3_append_109 ?_
            refine j_put h iX3 tyX3 tyX3_ok nmX3 2 rfl rfl 5 (by decide) tb1_78 rfl rfl rfl rfl (Nat.le_of_ble_eq_true rfl) (w' := (fx a cI cZ (sg (ar (ar (ar (ar (ar σ 0 (upd (σ.2 0) (σ.1 6).toNatClampNeg x1)) 1 (upd (σ.2 1) (σ.1 6).toNatClampNeg (-1))) 2 (upd (σ.2 2) (σ.1 6).toNatClampNeg x3)) 3 (upd (σ.2 3) (σ.1 6).toNatClampNeg x4)) 4 (upd (σ.2 4) (σ.1 6).toNatClampNeg x5)) 6 ((σ.1 6) + 1)))) rfl dX3_append_110 ?_
            refine j_aload_n h 0 dX3_append_113 rfl rfl ?_
            refine j_get h iX3 2 rfl rfl 5 (by decide) tb1_78 rfl (v := .int ((σ.1 6) + 1)) rfl dX3_append_114 ?_
            refine j_iconst h (v := 1) dX3_append_117 (by decide) ?_
            refine j_isub h dX3_append_118 ?_
            subst hq3 hq5 hq9
            have E : fX3_append σ x1 x2 x3 x4 x5 = ((((σ.1 6) + 1) - 1), (sg (ar (ar (ar (ar (ar σ 0 (upd (σ.2 0) (σ.1 6).toNatClampNeg x1)) 1 (upd (σ.2 1) (σ.1 6).toNatClampNeg (-1))) 2 (upd (σ.2 2) (σ.1 6).toNatClampNeg x3)) 3 (upd (σ.2 3) (σ.1 6).toNatClampNeg x4)) 4 (upd (σ.2 4) (σ.1 6).toNatClampNeg x5)) 6 ((σ.1 6) + 1))) := j_ig c1 (j_ip c2 (j_ip c4 (j_ig c6 (j_ig c10 rfl))))
            exact j_ireturn h hr (congrArg Prod.fst E).symm (congrArg (fun z => fx a cI cZ z.2) E).symm dX3_append_119
      ·
        refine j_iload_n h 2 dX3_append_43 rfl rfl ?_
        refine j_goto h dX3_append_44 (tgt := 48) (by decide) ?_
        refine j_iast h 4 0 rfl rfl (j_in64 (j_lo1 c1) c2) (w' := (fx a cI cZ (ar (ar σ 0 (upd (σ.2 0) (σ.1 6).toNatClampNeg x1)) 1 (upd (σ.2 1) (σ.1 6).toNatClampNeg x2)))) rfl dX3_append_48 ?_
        refine j_aload_n h 0 dX3_append_49 rfl rfl ?_
        refine j_get h iX3 2 rfl rfl 2 (by decide) tb1_75 rfl (v := .ref (a 5)) rfl dX3_append_50 ?_
        refine j_aload_n h 0 dX3_append_53 rfl rfl ?_
        refine j_get h iX3 2 rfl rfl 5 (by decide) tb1_78 rfl (v := .int (σ.1 6)) rfl dX3_append_54 ?_
        refine j_iload_n h 1 dX3_append_57 rfl rfl ?_
        refine j_callSi0 h (kX3_readsFirst l D cI cZ x1) tb2_192 tb2_193 tb1_4 tb2_194 ⟨rfl, rfl⟩ (n := 1) (by decide +kernel) ⟨Nat.le_of_ble_eq_true rfl, Nat.le_of_ble_eq_true rfl⟩ (As := [.int x1]) rfl (st := [.int (σ.1 6), .ref (a 5)]) rfl (Nat.le_of_ble_eq_true rfl) dX3_append_58 ⟨Nat.zero_le _, Nat.zero_le _⟩ ?_
        generalize hq11 : (fX3_readsFirst x1) = q11
        refine j_if_eq h dX3_append_61 (tgt := 68) (by decide) (fun c12 => ?_) (fun c12 => ?_)
        ·
          refine j_iconst h (v := (-1)) dX3_append_68 (by decide) ?_
          refine j_iast h 5 0 rfl rfl (j_in64 (j_lo1 c1) c2) (w' := (fx a cI cZ (ar (ar (ar σ 0 (upd (σ.2 0) (σ.1 6).toNatClampNeg x1)) 1 (upd (σ.2 1) (σ.1 6).toNatClampNeg x2)) 2 (upd (σ.2 2) (σ.1 6).toNatClampNeg (-1))))) rfl dX3_append_69 ?_
          refine j_aload_n h 0 dX3_append_70 rfl rfl ?_
          refine j_get h iX3 2 rfl rfl 3 (by decide) tb1_76 rfl (v := .ref (a 6)) rfl dX3_append_71 ?_
          refine j_aload_n h 0 dX3_append_74 rfl rfl ?_
          refine j_get h iX3 2 rfl rfl 5 (by decide) tb1_78 rfl (v := .int (σ.1 6)) rfl dX3_append_75 ?_
          refine j_iload_n h 1 dX3_append_78 rfl rfl ?_
          refine j_callSi0 h (kX3_readsSecond l D cI cZ x1) tb2_195 tb2_196 tb1_4 tb2_197 ⟨rfl, rfl⟩ (n := 1) (by decide +kernel) ⟨Nat.le_of_ble_eq_true rfl, Nat.le_of_ble_eq_true rfl⟩ (As := [.int x1]) rfl (st := [.int (σ.1 6), .ref (a 6)]) rfl (Nat.le_of_ble_eq_true rfl) dX3_append_79 ⟨Nat.zero_le _, Nat.zero_le _⟩ ?_
          generalize hq13 : (fX3_readsSecond x1) = q13
          refine j_if_eq h dX3_append_82 (tgt := 90) (by decide) (fun c14 => ?_) (fun c14 => ?_)
          ·
            refine j_iconst h (v := (-1)) dX3_append_90 (by decide) ?_
            refine j_iast h 6 0 rfl rfl (j_in64 (j_lo1 c1) c2) (w' := (fx a cI cZ (ar (ar (ar (ar σ 0 (upd (σ.2 0) (σ.1 6).toNatClampNeg x1)) 1 (upd (σ.2 1) (σ.1 6).toNatClampNeg x2)) 2 (upd (σ.2 2) (σ.1 6).toNatClampNeg (-1))) 3 (upd (σ.2 3) (σ.1 6).toNatClampNeg (-1))))) rfl dX3_append_91 ?_
            refine j_aload_n h 0 dX3_append_92 rfl rfl ?_
            refine j_get h iX3 2 rfl rfl 4 (by decide) tb1_77 rfl (v := .ref (a 7)) rfl dX3_append_93 ?_
            refine j_aload_n h 0 dX3_append_96 rfl rfl ?_
            refine j_get h iX3 2 rfl rfl 5 (by decide) tb1_78 rfl (v := .int (σ.1 6)) rfl dX3_append_97 ?_
            refine j_iload h 5 dX3_append_100 rfl ?_
            refine j_iast h 7 0 rfl rfl (j_in64 (j_lo1 c1) c2) (w' := (fx a cI cZ (ar (ar (ar (ar (ar σ 0 (upd (σ.2 0) (σ.1 6).toNatClampNeg x1)) 1 (upd (σ.2 1) (σ.1 6).toNatClampNeg x2)) 2 (upd (σ.2 2) (σ.1 6).toNatClampNeg (-1))) 3 (upd (σ.2 3) (σ.1 6).toNatClampNeg (-1))) 4 (upd (σ.2 4) (σ.1 6).toNatClampNeg x5)))) rfl dX3_append_102 ?_
            refine j_aload_n h 0 dX3_append_103 rfl rfl ?_
            refine j_dup h dX3_append_104 rfl ?_
            refine j_get h iX3 2 rfl rfl 5 (by decide) tb1_78 rfl (v := .int (σ.1 6)) rfl dX3_append_105 ?_
            refine j_iconst h (v := 1) dX3_append_108 (by decide) ?_
            refine j_iadd h dX3_append_109 ?_
            refine j_put h iX3 tyX3 tyX3_ok nmX3 2 rfl rfl 5 (by decide) tb1_78 rfl rfl rfl rfl (Nat.le_of_ble_eq_true rfl) (w' := (fx a cI cZ (sg (ar (ar (ar (ar (ar σ 0 (upd (σ.2 0) (σ.1 6).toNatClampNeg x1)) 1 (upd (σ.2 1) (σ.1 6).toNatClampNeg x2)) 2 (upd (σ.2 2) (σ.1 6).toNatClampNeg (-1))) 3 (upd (σ.2 3) (σ.1 6).toNatClampNeg (-1))) 4 (upd (σ.2 4) (σ.1 6).toNatClampNeg x5)) 6 ((σ.1 6) + 1)))) rfl dX3_append_110 ?_
            refine j_aload_n h 0 dX3_append_113 rfl rfl ?_
            refine j_get h iX3 2 rfl rfl 5 (by decide) tb1_78 rfl (v := .int ((σ.1 6) + 1)) rfl dX3_append_114 ?_
            refine j_iconst h (v := 1) dX3_append_117 (by decide) ?_
            refine j_isub h dX3_append_118 ?_
            subst hq3 hq11 hq13
            have E : fX3_append σ x1 x2 x3 x4 x5 = ((((σ.1 6) + 1) - 1), (sg (ar (ar (ar (ar (ar σ 0 (upd (σ.2 0) (σ.1 6).toNatClampNeg x1)) 1 (upd (σ.2 1) (σ.1 6).toNatClampNeg x2)) 2 (upd (σ.2 2) (σ.1 6).toNatClampNeg (-1))) 3 (upd (σ.2 3) (σ.1 6).toNatClampNeg (-1))) 4 (upd (σ.2 4) (σ.1 6).toNatClampNeg x5)) 6 ((σ.1 6) + 1))) := j_ig c1 (j_ip c2 (j_ig c4 (j_ip c12 (j_ip c14 rfl))))
            exact j_ireturn h hr (congrArg Prod.fst E).symm (congrArg (fun z => fx a cI cZ z.2) E).symm dX3_append_119
          ·
            refine j_iload h 4 dX3_append_85 rfl ?_
            refine j_goto h dX3_append_87 (tgt := 91) (by decide) ?_
            refine j_iast h 6 0 rfl rfl (j_in64 (j_lo1 c1) c2) (w' := (fx a cI cZ (ar (ar (ar (ar σ 0 (upd (σ.2 0) (σ.1 6).toNatClampNeg x1)) 1 (upd (σ.2 1) (σ.1 6).toNatClampNeg x2)) 2 (upd (σ.2 2) (σ.1 6).toNatClampNeg (-1))) 3 (upd (σ.2 3) (σ.1 6).toNatClampNeg x4)))) rfl dX3_append_91 ?_
            refine j_aload_n h 0 dX3_append_92 rfl rfl ?_
            refine j_get h iX3 2 rfl rfl 4 (by decide) tb1_77 rfl (v := .ref (a 7)) rfl dX3_append_93 ?_
            refine j_aload_n h 0 dX3_append_96 rfl rfl ?_
            refine j_get h iX3 2 rfl rfl 5 (by decide) tb1_78 rfl (v := .int (σ.1 6)) rfl dX3_append_97 ?_
            refine j_iload h 5 dX3_append_100 rfl ?_
            refine j_iast h 7 0 rfl rfl (j_in64 (j_lo1 c1) c2) (w' := (fx a cI cZ (ar (ar (ar (ar (ar σ 0 (upd (σ.2 0) (σ.1 6).toNatClampNeg x1)) 1 (upd (σ.2 1) (σ.1 6).toNatClampNeg x2)) 2 (upd (σ.2 2) (σ.1 6).toNatClampNeg (-1))) 3 (upd (σ.2 3) (σ.1 6).toNatClampNeg x4)) 4 (upd (σ.2 4) (σ.1 6).toNatClampNeg x5)))) rfl dX3_append_102 ?_
            refine j_aload_n h 0 dX3_append_103 rfl rfl ?_
            refine j_dup h dX3_append_104 rfl ?_
            refine j_get h iX3 2 rfl rfl 5 (by decide) tb1_78 rfl (v := .int (σ.1 6)) rfl dX3_append_105 ?_
            refine j_iconst h (v := 1) dX3_append_108 (by decide) ?_
            refine j_iadd h dX3_append_109 ?_
            refine j_put h iX3 tyX3 tyX3_ok nmX3 2 rfl rfl 5 (by decide) tb1_78 rfl rfl rfl rfl (Nat.le_of_ble_eq_true rfl) (w' := (fx a cI cZ (sg (ar (ar (ar (ar (ar σ 0 (upd (σ.2 0) (σ.1 6).toNatClampNeg x1)) 1 (upd (σ.2 1) (σ.1 6).toNatClampNeg x2)) 2 (upd (σ.2 2) (σ.1 6).toNatClampNeg (-1))) 3 (upd (σ.2 3) (σ.1 6).toNatClampNeg x4)) 4 (upd (σ.2 4) (σ.1 6).toNatClampNeg x5)) 6 ((σ.1 6) + 1)))) rfl dX3_append_110 ?_
            refine j_aload_n h 0 dX3_append_113 rfl rfl ?_
            refine j_get h iX3 2 rfl rfl 5 (by decide) tb1_78 rfl (v := .int ((σ.1 6) + 1)) rfl dX3_append_114 ?_
            refine j_iconst h (v := 1) dX3_append_117 (by decide) ?_
            refine j_isub h dX3_append_118 ?_
            subst hq3 hq11 hq13
            have E : fX3_append σ x1 x2 x3 x4 x5 = ((((σ.1 6) + 1) - 1), (sg (ar (ar (ar (ar (ar σ 0 (upd (σ.2 0) (σ.1 6).toNatClampNeg x1)) 1 (upd (σ.2 1) (σ.1 6).toNatClampNeg x2)) 2 (upd (σ.2 2) (σ.1 6).toNatClampNeg (-1))) 3 (upd (σ.2 3) (σ.1 6).toNatClampNeg x4)) 4 (upd (σ.2 4) (σ.1 6).toNatClampNeg x5)) 6 ((σ.1 6) + 1))) := j_ig c1 (j_ip c2 (j_ig c4 (j_ip c12 (j_ig c14 rfl))))
            exact j_ireturn h hr (congrArg Prod.fst E).symm (congrArg (fun z => fx a cI cZ z.2) E).symm dX3_append_119
        ·
          refine j_iload_n h 3 dX3_append_64 rfl rfl ?_
          refine j_goto h dX3_append_65 (tgt := 69) (by decide) ?_
          refine j_iast h 5 0 rfl rfl (j_in64 (j_lo1 c1) c2) (w' := (fx a cI cZ (ar (ar (ar σ 0 (upd (σ.2 0) (σ.1 6).toNatClampNeg x1)) 1 (upd (σ.2 1) (σ.1 6).toNatClampNeg x2)) 2 (upd (σ.2 2) (σ.1 6).toNatClampNeg x3)))) rfl dX3_append_69 ?_
          refine j_aload_n h 0 dX3_append_70 rfl rfl ?_
          refine j_get h iX3 2 rfl rfl 3 (by decide) tb1_76 rfl (v := .ref (a 6)) rfl dX3_append_71 ?_
          refine j_aload_n h 0 dX3_append_74 rfl rfl ?_
          refine j_get h iX3 2 rfl rfl 5 (by decide) tb1_78 rfl (v := .int (σ.1 6)) rfl dX3_append_75 ?_
          refine j_iload_n h 1 dX3_append_78 rfl rfl ?_
          refine j_callSi0 h (kX3_readsSecond l D cI cZ x1) tb2_195 tb2_196 tb1_4 tb2_197 ⟨rfl, rfl⟩ (n := 1) (by decide +kernel) ⟨Nat.le_of_ble_eq_true rfl, Nat.le_of_ble_eq_true rfl⟩ (As := [.int x1]) rfl (st := [.int (σ.1 6), .ref (a 6)]) rfl (Nat.le_of_ble_eq_true rfl) dX3_append_79 ⟨Nat.zero_le _, Nat.zero_le _⟩ ?_
          generalize hq15 : (fX3_readsSecond x1) = q15
          refine j_if_eq h dX3_append_82 (tgt := 90) (by decide) (fun c16 => ?_) (fun c16 => ?_)
          ·
            refine j_iconst h (v := (-1)) dX3_append_90 (by decide) ?_
            refine j_iast h 6 0 rfl rfl (j_in64 (j_lo1 c1) c2) (w' := (fx a cI cZ (ar (ar (ar (ar σ 0 (upd (σ.2 0) (σ.1 6).toNatClampNeg x1)) 1 (upd (σ.2 1) (σ.1 6).toNatClampNeg x2)) 2 (upd (σ.2 2) (σ.1 6).toNatClampNeg x3)) 3 (upd (σ.2 3) (σ.1 6).toNatClampNeg (-1))))) rfl dX3_append_91 ?_
            refine j_aload_n h 0 dX3_append_92 rfl rfl ?_
            refine j_get h iX3 2 rfl rfl 4 (by decide) tb1_77 rfl (v := .ref (a 7)) rfl dX3_append_93 ?_
            refine j_aload_n h 0 dX3_append_96 rfl rfl ?_
            refine j_get h iX3 2 rfl rfl 5 (by decide) tb1_78 rfl (v := .int (σ.1 6)) rfl dX3_append_97 ?_
            refine j_iload h 5 dX3_append_100 rfl ?_
            refine j_iast h 7 0 rfl rfl (j_in64 (j_lo1 c1) c2) (w' := (fx a cI cZ (ar (ar (ar (ar (ar σ 0 (upd (σ.2 0) (σ.1 6).toNatClampNeg x1)) 1 (upd (σ.2 1) (σ.1 6).toNatClampNeg x2)) 2 (upd (σ.2 2) (σ.1 6).toNatClampNeg x3)) 3 (upd (σ.2 3) (σ.1 6).toNatClampNeg (-1))) 4 (upd (σ.2 4) (σ.1 6).toNatClampNeg x5)))) rfl dX3_append_102 ?_
            refine j_aload_n h 0 dX3_append_103 rfl rfl ?_
            refine j_dup h dX3_append_104 rfl ?_
            refine j_get h iX3 2 rfl rfl 5 (by decide) tb1_78 rfl (v := .int (σ.1 6)) rfl dX3_append_105 ?_
            refine j_iconst h (v := 1) dX3_append_108 (by decide) ?_
            refine j_iadd h dX3_append_109 ?_
            refine j_put h iX3 tyX3 tyX3_ok nmX3 2 rfl rfl 5 (by decide) tb1_78 rfl rfl rfl rfl (Nat.le_of_ble_eq_true rfl) (w' := (fx a cI cZ (sg (ar (ar (ar (ar (ar σ 0 (upd (σ.2 0) (σ.1 6).toNatClampNeg x1)) 1 (upd (σ.2 1) (σ.1 6).toNatClampNeg x2)) 2 (upd (σ.2 2) (σ.1 6).toNatClampNeg x3)) 3 (upd (σ.2 3) (σ.1 6).toNatClampNeg (-1))) 4 (upd (σ.2 4) (σ.1 6).toNatClampNeg x5)) 6 ((σ.1 6) + 1)))) rfl dX3_append_110 ?_
            refine j_aload_n h 0 dX3_append_113 rfl rfl ?_
            refine j_get h iX3 2 rfl rfl 5 (by decide) tb1_78 rfl (v := .int ((σ.1 6) + 1)) rfl dX3_append_114 ?_
            refine j_iconst h (v := 1) dX3_append_117 (by decide) ?_
            refine j_isub h dX3_append_118 ?_
            subst hq3 hq11 hq15
            have E : fX3_append σ x1 x2 x3 x4 x5 = ((((σ.1 6) + 1) - 1), (sg (ar (ar (ar (ar (ar σ 0 (upd (σ.2 0) (σ.1 6).toNatClampNeg x1)) 1 (upd (σ.2 1) (σ.1 6).toNatClampNeg x2)) 2 (upd (σ.2 2) (σ.1 6).toNatClampNeg x3)) 3 (upd (σ.2 3) (σ.1 6).toNatClampNeg (-1))) 4 (upd (σ.2 4) (σ.1 6).toNatClampNeg x5)) 6 ((σ.1 6) + 1))) := j_ig c1 (j_ip c2 (j_ig c4 (j_ig c12 (j_ip c16 rfl))))
            exact j_ireturn h hr (congrArg Prod.fst E).symm (congrArg (fun z => fx a cI cZ z.2) E).symm dX3_append_119
          ·
            refine j_iload h 4 dX3_append_85 rfl ?_
            refine j_goto h dX3_append_87 (tgt := 91) (by decide) ?_
            refine j_iast h 6 0 rfl rfl (j_in64 (j_lo1 c1) c2) (w' := (fx a cI cZ (ar (ar (ar (ar σ 0 (upd (σ.2 0) (σ.1 6).toNatClampNeg x1)) 1 (upd (σ.2 1) (σ.1 6).toNatClampNeg x2)) 2 (upd (σ.2 2) (σ.1 6).toNatClampNeg x3)) 3 (upd (σ.2 3) (σ.1 6).toNatClampNeg x4)))) rfl dX3_append_91 ?_
            refine j_aload_n h 0 dX3_append_92 rfl rfl ?_
            refine j_get h iX3 2 rfl rfl 4 (by decide) tb1_77 rfl (v := .ref (a 7)) rfl dX3_append_93 ?_
            refine j_aload_n h 0 dX3_append_96 rfl rfl ?_
            refine j_get h iX3 2 rfl rfl 5 (by decide) tb1_78 rfl (v := .int (σ.1 6)) rfl dX3_append_97 ?_
            refine j_iload h 5 dX3_append_100 rfl ?_
            refine j_iast h 7 0 rfl rfl (j_in64 (j_lo1 c1) c2) (w' := (fx a cI cZ (ar (ar (ar (ar (ar σ 0 (upd (σ.2 0) (σ.1 6).toNatClampNeg x1)) 1 (upd (σ.2 1) (σ.1 6).toNatClampNeg x2)) 2 (upd (σ.2 2) (σ.1 6).toNatClampNeg x3)) 3 (upd (σ.2 3) (σ.1 6).toNatClampNeg x4)) 4 (upd (σ.2 4) (σ.1 6).toNatClampNeg x5)))) rfl dX3_append_102 ?_
            refine j_aload_n h 0 dX3_append_103 rfl rfl ?_
            refine j_dup h dX3_append_104 rfl ?_
            refine j_get h iX3 2 rfl rfl 5 (by decide) tb1_78 rfl (v := .int (σ.1 6)) rfl dX3_append_105 ?_
            refine j_iconst h (v := 1) dX3_append_108 (by decide) ?_
            refine j_iadd h dX3_append_109 ?_
            refine j_put h iX3 tyX3 tyX3_ok nmX3 2 rfl rfl 5 (by decide) tb1_78 rfl rfl rfl rfl (Nat.le_of_ble_eq_true rfl) (w' := (fx a cI cZ (sg (ar (ar (ar (ar (ar σ 0 (upd (σ.2 0) (σ.1 6).toNatClampNeg x1)) 1 (upd (σ.2 1) (σ.1 6).toNatClampNeg x2)) 2 (upd (σ.2 2) (σ.1 6).toNatClampNeg x3)) 3 (upd (σ.2 3) (σ.1 6).toNatClampNeg x4)) 4 (upd (σ.2 4) (σ.1 6).toNatClampNeg x5)) 6 ((σ.1 6) + 1)))) rfl dX3_append_110 ?_
            refine j_aload_n h 0 dX3_append_113 rfl rfl ?_
            refine j_get h iX3 2 rfl rfl 5 (by decide) tb1_78 rfl (v := .int ((σ.1 6) + 1)) rfl dX3_append_114 ?_
            refine j_iconst h (v := 1) dX3_append_117 (by decide) ?_
            refine j_isub h dX3_append_118 ?_
            subst hq3 hq11 hq15
            have E : fX3_append σ x1 x2 x3 x4 x5 = ((((σ.1 6) + 1) - 1), (sg (ar (ar (ar (ar (ar σ 0 (upd (σ.2 0) (σ.1 6).toNatClampNeg x1)) 1 (upd (σ.2 1) (σ.1 6).toNatClampNeg x2)) 2 (upd (σ.2 2) (σ.1 6).toNatClampNeg x3)) 3 (upd (σ.2 3) (σ.1 6).toNatClampNeg x4)) 4 (upd (σ.2 4) (σ.1 6).toNatClampNeg x5)) 6 ((σ.1 6) + 1))) := j_ig c1 (j_ip c2 (j_ig c4 (j_ig c12 (j_ig c16 rfl))))
            exact j_ireturn h hr (congrArg Prod.fst E).symm (congrArg (fun z => fx a cI cZ z.2) E).symm dX3_append_119
    ·
      refine j_iconst h (v := (-1)) dX3_append_16 (by decide) ?_
      have E : fX3_append σ x1 x2 x3 x4 x5 = ((-1), σ) := j_ig c1 (j_ig c2 rfl)
      exact j_ireturn h hr (congrArg Prod.fst E).symm (congrArg (fun z => fx a cI cZ z.2) E).symm dX3_append_17
theorem fr_fX3_append (σ : St) (x1 x2 x3 x4 x5 : Int32) : Fr (fX3_append σ x1 x2 x3 x4 x5).2 σ := by
  by_cases c0 : (σ.1 6) < 0
  ·
    have E : fX3_append σ x1 x2 x3 x4 x5 = ((-1), σ) := j_ip c0 rfl
    rw [E]
    exact (Fr.rf _)
  ·
    by_cases c1 : (σ.1 6) < 64
    ·
      by_cases c2 : (fX3_hasTarget x1) = 0
      ·
        by_cases c3 : (fX3_readsFirst x1) = 0
        ·
          by_cases c4 : (fX3_readsSecond x1) = 0
          ·
            have E : fX3_append σ x1 x2 x3 x4 x5 = ((((σ.1 6) + 1) - 1), (sg (ar (ar (ar (ar (ar σ 0 (upd (σ.2 0) (σ.1 6).toNatClampNeg x1)) 1 (upd (σ.2 1) (σ.1 6).toNatClampNeg (-1))) 2 (upd (σ.2 2) (σ.1 6).toNatClampNeg (-1))) 3 (upd (σ.2 3) (σ.1 6).toNatClampNeg (-1))) 4 (upd (σ.2 4) (σ.1 6).toNatClampNeg x5)) 6 ((σ.1 6) + 1))) := j_ig c0 (j_ip c1 (j_ip c2 (j_ip c3 (j_ip c4 rfl))))
            rw [E]
            exact (Fr.tr (Fr.sg (by decide)) (Fr.tr Fr.ar (Fr.tr Fr.ar (Fr.tr Fr.ar (Fr.tr Fr.ar (Fr.tr Fr.ar (Fr.rf _)))))))
          ·
            have E : fX3_append σ x1 x2 x3 x4 x5 = ((((σ.1 6) + 1) - 1), (sg (ar (ar (ar (ar (ar σ 0 (upd (σ.2 0) (σ.1 6).toNatClampNeg x1)) 1 (upd (σ.2 1) (σ.1 6).toNatClampNeg (-1))) 2 (upd (σ.2 2) (σ.1 6).toNatClampNeg (-1))) 3 (upd (σ.2 3) (σ.1 6).toNatClampNeg x4)) 4 (upd (σ.2 4) (σ.1 6).toNatClampNeg x5)) 6 ((σ.1 6) + 1))) := j_ig c0 (j_ip c1 (j_ip c2 (j_ip c3 (j_ig c4 rfl))))
            rw [E]
            exact (Fr.tr (Fr.sg (by decide)) (Fr.tr Fr.ar (Fr.tr Fr.ar (Fr.tr Fr.ar (Fr.tr Fr.ar (Fr.tr Fr.ar (Fr.rf _)))))))
        ·
          by_cases c4 : (fX3_readsSecond x1) = 0
          ·
            have E : fX3_append σ x1 x2 x3 x4 x5 = ((((σ.1 6) + 1) - 1), (sg (ar (ar (ar (ar (ar σ 0 (upd (σ.2 0) (σ.1 6).toNatClampNeg x1)) 1 (upd (σ.2 1) (σ.1 6).toNatClampNeg (-1))) 2 (upd (σ.2 2) (σ.1 6).toNatClampNeg x3)) 3 (upd (σ.2 3) (σ.1 6).toNatClampNeg (-1))) 4 (upd (σ.2 4) (σ.1 6).toNatClampNeg x5)) 6 ((σ.1 6) + 1))) := j_ig c0 (j_ip c1 (j_ip c2 (j_ig c3 (j_ip c4 rfl))))
            rw [E]
            exact (Fr.tr (Fr.sg (by decide)) (Fr.tr Fr.ar (Fr.tr Fr.ar (Fr.tr Fr.ar (Fr.tr Fr.ar (Fr.tr Fr.ar (Fr.rf _)))))))
          ·
            have E : fX3_append σ x1 x2 x3 x4 x5 = ((((σ.1 6) + 1) - 1), (sg (ar (ar (ar (ar (ar σ 0 (upd (σ.2 0) (σ.1 6).toNatClampNeg x1)) 1 (upd (σ.2 1) (σ.1 6).toNatClampNeg (-1))) 2 (upd (σ.2 2) (σ.1 6).toNatClampNeg x3)) 3 (upd (σ.2 3) (σ.1 6).toNatClampNeg x4)) 4 (upd (σ.2 4) (σ.1 6).toNatClampNeg x5)) 6 ((σ.1 6) + 1))) := j_ig c0 (j_ip c1 (j_ip c2 (j_ig c3 (j_ig c4 rfl))))
            rw [E]
            exact (Fr.tr (Fr.sg (by decide)) (Fr.tr Fr.ar (Fr.tr Fr.ar (Fr.tr Fr.ar (Fr.tr Fr.ar (Fr.tr Fr.ar (Fr.rf _)))))))
      ·
        by_cases c3 : (fX3_readsFirst x1) = 0
        ·
          by_cases c4 : (fX3_readsSecond x1) = 0
          ·
            have E : fX3_append σ x1 x2 x3 x4 x5 = ((((σ.1 6) + 1) - 1), (sg (ar (ar (ar (ar (ar σ 0 (upd (σ.2 0) (σ.1 6).toNatClampNeg x1)) 1 (upd (σ.2 1) (σ.1 6).toNatClampNeg x2)) 2 (upd (σ.2 2) (σ.1 6).toNatClampNeg (-1))) 3 (upd (σ.2 3) (σ.1 6).toNatClampNeg (-1))) 4 (upd (σ.2 4) (σ.1 6).toNatClampNeg x5)) 6 ((σ.1 6) + 1))) := j_ig c0 (j_ip c1 (j_ig c2 (j_ip c3 (j_ip c4 rfl))))
            rw [E]
            exact (Fr.tr (Fr.sg (by decide)) (Fr.tr Fr.ar (Fr.tr Fr.ar (Fr.tr Fr.ar (Fr.tr Fr.ar (Fr.tr Fr.ar (Fr.rf _)))))))
          ·
            have E : fX3_append σ x1 x2 x3 x4 x5 = ((((σ.1 6) + 1) - 1), (sg (ar (ar (ar (ar (ar σ 0 (upd (σ.2 0) (σ.1 6).toNatClampNeg x1)) 1 (upd (σ.2 1) (σ.1 6).toNatClampNeg x2)) 2 (upd (σ.2 2) (σ.1 6).toNatClampNeg (-1))) 3 (upd (σ.2 3) (σ.1 6).toNatClampNeg x4)) 4 (upd (σ.2 4) (σ.1 6).toNatClampNeg x5)) 6 ((σ.1 6) + 1))) := j_ig c0 (j_ip c1 (j_ig c2 (j_ip c3 (j_ig c4 rfl))))
            rw [E]
            exact (Fr.tr (Fr.sg (by decide)) (Fr.tr Fr.ar (Fr.tr Fr.ar (Fr.tr Fr.ar (Fr.tr Fr.ar (Fr.tr Fr.ar (Fr.rf _)))))))
        ·
          by_cases c4 : (fX3_readsSecond x1) = 0
          ·
            have E : fX3_append σ x1 x2 x3 x4 x5 = ((((σ.1 6) + 1) - 1), (sg (ar (ar (ar (ar (ar σ 0 (upd (σ.2 0) (σ.1 6).toNatClampNeg x1)) 1 (upd (σ.2 1) (σ.1 6).toNatClampNeg x2)) 2 (upd (σ.2 2) (σ.1 6).toNatClampNeg x3)) 3 (upd (σ.2 3) (σ.1 6).toNatClampNeg (-1))) 4 (upd (σ.2 4) (σ.1 6).toNatClampNeg x5)) 6 ((σ.1 6) + 1))) := j_ig c0 (j_ip c1 (j_ig c2 (j_ig c3 (j_ip c4 rfl))))
            rw [E]
            exact (Fr.tr (Fr.sg (by decide)) (Fr.tr Fr.ar (Fr.tr Fr.ar (Fr.tr Fr.ar (Fr.tr Fr.ar (Fr.tr Fr.ar (Fr.rf _)))))))
          ·
            have E : fX3_append σ x1 x2 x3 x4 x5 = ((((σ.1 6) + 1) - 1), (sg (ar (ar (ar (ar (ar σ 0 (upd (σ.2 0) (σ.1 6).toNatClampNeg x1)) 1 (upd (σ.2 1) (σ.1 6).toNatClampNeg x2)) 2 (upd (σ.2 2) (σ.1 6).toNatClampNeg x3)) 3 (upd (σ.2 3) (σ.1 6).toNatClampNeg x4)) 4 (upd (σ.2 4) (σ.1 6).toNatClampNeg x5)) 6 ((σ.1 6) + 1))) := j_ig c0 (j_ip c1 (j_ig c2 (j_ig c3 (j_ig c4 rfl))))
            rw [E]
            exact (Fr.tr (Fr.sg (by decide)) (Fr.tr Fr.ar (Fr.tr Fr.ar (Fr.tr Fr.ar (Fr.tr Fr.ar (Fr.tr Fr.ar (Fr.rf _)))))))
    ·
      have E : fX3_append σ x1 x2 x3 x4 x5 = ((-1), σ) := j_ig c0 (j_ig c1 rfl)
      rw [E]
      exact (Fr.rf _)
def fX3_forget (σ : St) : St := (sg σ 6 0)
def rmX3_forget : Room := { frames := 0, cells := 0, slots := 0, locals := 0 }
set_option maxRecDepth 100000 in
set_option maxHeartbeats 4000000 in
theorem kX3_forget (l : Launch) (D : va_G) (a : Nat → Nat) (cI cZ : ClassId) (σ : St) : Cv l yX3_forget cX3_forget 1 none TB rmX3_forget D vwCl [(cI, .int), (cZ, .boolean)] [.ref (a 2)] (fx a cI cZ σ) (fun _ => (fx a cI cZ (fX3_forget σ))) 0 0 := by
  refine Cv_of (cc := cX3_forget) (maxL := 1) (ret := none) (by decide +kernel) TBg (Nat.le_of_ble_eq_true rfl) ?_
  intro p e s m args below meth c A h hr hname
  refine j_aload_n h 0 dX3_forget_0 rfl rfl ?_
  refine j_iconst h (v := 0) dX3_forget_1 (by decide) ?_
  refine j_put h iX3 tyX3 tyX3_ok nmX3 2 rfl rfl 5 (by decide) tb1_78 rfl rfl rfl rfl (Nat.le_of_ble_eq_true rfl) (w' := (fx a cI cZ (sg σ 6 0))) rfl dX3_forget_2 ?_
  have E : fX3_forget σ = (sg σ 6 0) := rfl
  exact j_vreturn h hr (fun _ => 0) (congrArg (fx a cI cZ) E).symm dX3_forget_5
theorem fr_fX3_forget (σ : St) : Fr (fX3_forget σ) σ := by
  have E : fX3_forget σ = (sg σ 6 0) := rfl
  rw [E]
  exact (Fr.tr (Fr.sg (by decide)) (Fr.rf _))
def fX3_size (σ : St) : Int32 := (σ.1 6)
def rmX3_size : Room := { frames := 0, cells := 0, slots := 0, locals := 0 }
set_option maxRecDepth 100000 in
set_option maxHeartbeats 4000000 in
theorem kX3_size (l : Launch) (D : va_G) (a : Nat → Nat) (cI cZ : ClassId) (σ : St) : Ci l yX3_size cX3_size 1 (some .int) TB rmX3_size D vwCl [(cI, .int), (cZ, .boolean)] [.ref (a 2)] (fx a cI cZ σ) (fx a cI cZ σ) (fX3_size σ) := by
  refine Ci_of (cc := cX3_size) (maxL := 1) (ret := (some .int)) (by decide +kernel) TBg (Nat.le_of_ble_eq_true rfl) ?_
  intro p e s m args below meth c A h hr
  refine j_aload_n h 0 dX3_size_0 rfl rfl ?_
  refine j_get h iX3 2 rfl rfl 5 (by decide) tb1_78 rfl (v := .int (σ.1 6)) rfl dX3_size_1 ?_
  have E : fX3_size σ = (σ.1 6) := rfl
  exact j_ireturn h hr E.symm rfl dX3_size_4
def fX3_kindOf (σ : St) (x1 : Int32) : Int32 := (if x1 < 0 then (-1) else (if 64 ≤ x1 then (-1) else ((σ.2 0) x1.toNatClampNeg)))
def rmX3_kindOf : Room := { frames := 0, cells := 0, slots := 0, locals := 0 }
set_option maxRecDepth 100000 in
set_option maxHeartbeats 4000000 in
theorem kX3_kindOf (l : Launch) (D : va_G) (a : Nat → Nat) (cI cZ : ClassId) (σ : St) (x1 : Int32) : Ci l yX3_kindOf cX3_kindOf 2 (some .int) TB rmX3_kindOf D vwCl [(cI, .int), (cZ, .boolean)] [.ref (a 2), .int x1] (fx a cI cZ σ) (fx a cI cZ σ) (fX3_kindOf σ x1) := by
  refine Ci_of (cc := cX3_kindOf) (maxL := 2) (ret := (some .int)) (by decide +kernel) TBg (Nat.le_of_ble_eq_true rfl) ?_
  intro p e s m args below meth c A h hr
  refine j_iload_n h 1 dX3_kindOf_0 rfl rfl ?_
  refine j_if_lt h dX3_kindOf_1 (tgt := 19) (by decide) (fun c1 => ?_) (fun c1 => ?_)
  ·
    refine j_iconst h (v := (-1)) dX3_kindOf_19 (by decide) ?_
    have E : fX3_kindOf σ x1 = (-1) := j_ip c1 rfl
    exact j_ireturn h hr E.symm rfl dX3_kindOf_20
  ·
    refine j_iload_n h 1 dX3_kindOf_4 rfl rfl ?_
    refine j_bipush h (v := 64) dX3_kindOf_5 (by decide) ?_
    refine j_icmp_ge h dX3_kindOf_7 (tgt := 19) (by decide) (fun c2 => ?_) (fun c2 => ?_)
    ·
      refine j_iconst h (v := (-1)) dX3_kindOf_19 (by decide) ?_
      have E : fX3_kindOf σ x1 = (-1) := j_ig c1 (j_ip c2 rfl)
      exact j_ireturn h hr E.symm rfl dX3_kindOf_20
    ·
      refine j_aload_n h 0 dX3_kindOf_10 rfl rfl ?_
      refine j_get h iX3 2 rfl rfl 0 (by decide) tb1_73 rfl (v := .ref (a 3)) rfl dX3_kindOf_11 ?_
      refine j_iload_n h 1 dX3_kindOf_14 rfl rfl ?_
      refine j_iald h 3 0 rfl rfl (j_in64 (j_lo1 c1) (j_hi1 c2)) dX3_kindOf_15 ?_
      refine j_goto h dX3_kindOf_16 (tgt := 20) (by decide) ?_
      have E : fX3_kindOf σ x1 = ((σ.2 0) x1.toNatClampNeg) := j_ig c1 (j_ig c2 rfl)
      exact j_ireturn h hr E.symm rfl dX3_kindOf_20
def fX3_written (σ : St) (x1 : Int32) : Int32 := (if x1 < 0 then (-1) else (if 64 ≤ x1 then (-1) else ((σ.2 1) x1.toNatClampNeg)))
def rmX3_written : Room := { frames := 0, cells := 0, slots := 0, locals := 0 }
set_option maxRecDepth 100000 in
set_option maxHeartbeats 4000000 in
theorem kX3_written (l : Launch) (D : va_G) (a : Nat → Nat) (cI cZ : ClassId) (σ : St) (x1 : Int32) : Ci l yX3_written cX3_written 2 (some .int) TB rmX3_written D vwCl [(cI, .int), (cZ, .boolean)] [.ref (a 2), .int x1] (fx a cI cZ σ) (fx a cI cZ σ) (fX3_written σ x1) := by
  refine Ci_of (cc := cX3_written) (maxL := 2) (ret := (some .int)) (by decide +kernel) TBg (Nat.le_of_ble_eq_true rfl) ?_
  intro p e s m args below meth c A h hr
  refine j_iload_n h 1 dX3_written_0 rfl rfl ?_
  refine j_if_lt h dX3_written_1 (tgt := 19) (by decide) (fun c1 => ?_) (fun c1 => ?_)
  ·
    refine j_iconst h (v := (-1)) dX3_written_19 (by decide) ?_
    have E : fX3_written σ x1 = (-1) := j_ip c1 rfl
    exact j_ireturn h hr E.symm rfl dX3_written_20
  ·
    refine j_iload_n h 1 dX3_written_4 rfl rfl ?_
    refine j_bipush h (v := 64) dX3_written_5 (by decide) ?_
    refine j_icmp_ge h dX3_written_7 (tgt := 19) (by decide) (fun c2 => ?_) (fun c2 => ?_)
    ·
      refine j_iconst h (v := (-1)) dX3_written_19 (by decide) ?_
      have E : fX3_written σ x1 = (-1) := j_ig c1 (j_ip c2 rfl)
      exact j_ireturn h hr E.symm rfl dX3_written_20
    ·
      refine j_aload_n h 0 dX3_written_10 rfl rfl ?_
      refine j_get h iX3 2 rfl rfl 1 (by decide) tb1_74 rfl (v := .ref (a 4)) rfl dX3_written_11 ?_
      refine j_iload_n h 1 dX3_written_14 rfl rfl ?_
      refine j_iald h 4 0 rfl rfl (j_in64 (j_lo1 c1) (j_hi1 c2)) dX3_written_15 ?_
      refine j_goto h dX3_written_16 (tgt := 20) (by decide) ?_
      have E : fX3_written σ x1 = ((σ.2 1) x1.toNatClampNeg) := j_ig c1 (j_ig c2 rfl)
      exact j_ireturn h hr E.symm rfl dX3_written_20
def fX3_firstRead (σ : St) (x1 : Int32) : Int32 := (if x1 < 0 then (-1) else (if 64 ≤ x1 then (-1) else ((σ.2 2) x1.toNatClampNeg)))
def rmX3_firstRead : Room := { frames := 0, cells := 0, slots := 0, locals := 0 }
set_option maxRecDepth 100000 in
set_option maxHeartbeats 4000000 in
theorem kX3_firstRead (l : Launch) (D : va_G) (a : Nat → Nat) (cI cZ : ClassId) (σ : St) (x1 : Int32) : Ci l yX3_firstRead cX3_firstRead 2 (some .int) TB rmX3_firstRead D vwCl [(cI, .int), (cZ, .boolean)] [.ref (a 2), .int x1] (fx a cI cZ σ) (fx a cI cZ σ) (fX3_firstRead σ x1) := by
  refine Ci_of (cc := cX3_firstRead) (maxL := 2) (ret := (some .int)) (by decide +kernel) TBg (Nat.le_of_ble_eq_true rfl) ?_
  intro p e s m args below meth c A h hr
  refine j_iload_n h 1 dX3_firstRead_0 rfl rfl ?_
  refine j_if_lt h dX3_firstRead_1 (tgt := 19) (by decide) (fun c1 => ?_) (fun c1 => ?_)
  ·
    refine j_iconst h (v := (-1)) dX3_firstRead_19 (by decide) ?_
    have E : fX3_firstRead σ x1 = (-1) := j_ip c1 rfl
    exact j_ireturn h hr E.symm rfl dX3_firstRead_20
  ·
    refine j_iload_n h 1 dX3_firstRead_4 rfl rfl ?_
    refine j_bipush h (v := 64) dX3_firstRead_5 (by decide) ?_
    refine j_icmp_ge h dX3_firstRead_7 (tgt := 19) (by decide) (fun c2 => ?_) (fun c2 => ?_)
    ·
      refine j_iconst h (v := (-1)) dX3_firstRead_19 (by decide) ?_
      have E : fX3_firstRead σ x1 = (-1) := j_ig c1 (j_ip c2 rfl)
      exact j_ireturn h hr E.symm rfl dX3_firstRead_20
    ·
      refine j_aload_n h 0 dX3_firstRead_10 rfl rfl ?_
      refine j_get h iX3 2 rfl rfl 2 (by decide) tb1_75 rfl (v := .ref (a 5)) rfl dX3_firstRead_11 ?_
      refine j_iload_n h 1 dX3_firstRead_14 rfl rfl ?_
      refine j_iald h 5 0 rfl rfl (j_in64 (j_lo1 c1) (j_hi1 c2)) dX3_firstRead_15 ?_
      refine j_goto h dX3_firstRead_16 (tgt := 20) (by decide) ?_
      have E : fX3_firstRead σ x1 = ((σ.2 2) x1.toNatClampNeg) := j_ig c1 (j_ig c2 rfl)
      exact j_ireturn h hr E.symm rfl dX3_firstRead_20
def fX3_secondRead (σ : St) (x1 : Int32) : Int32 := (if x1 < 0 then (-1) else (if 64 ≤ x1 then (-1) else ((σ.2 3) x1.toNatClampNeg)))
def rmX3_secondRead : Room := { frames := 0, cells := 0, slots := 0, locals := 0 }
set_option maxRecDepth 100000 in
set_option maxHeartbeats 4000000 in
theorem kX3_secondRead (l : Launch) (D : va_G) (a : Nat → Nat) (cI cZ : ClassId) (σ : St) (x1 : Int32) : Ci l yX3_secondRead cX3_secondRead 2 (some .int) TB rmX3_secondRead D vwCl [(cI, .int), (cZ, .boolean)] [.ref (a 2), .int x1] (fx a cI cZ σ) (fx a cI cZ σ) (fX3_secondRead σ x1) := by
  refine Ci_of (cc := cX3_secondRead) (maxL := 2) (ret := (some .int)) (by decide +kernel) TBg (Nat.le_of_ble_eq_true rfl) ?_
  intro p e s m args below meth c A h hr
  refine j_iload_n h 1 dX3_secondRead_0 rfl rfl ?_
  refine j_if_lt h dX3_secondRead_1 (tgt := 19) (by decide) (fun c1 => ?_) (fun c1 => ?_)
  ·
    refine j_iconst h (v := (-1)) dX3_secondRead_19 (by decide) ?_
    have E : fX3_secondRead σ x1 = (-1) := j_ip c1 rfl
    exact j_ireturn h hr E.symm rfl dX3_secondRead_20
  ·
    refine j_iload_n h 1 dX3_secondRead_4 rfl rfl ?_
    refine j_bipush h (v := 64) dX3_secondRead_5 (by decide) ?_
    refine j_icmp_ge h dX3_secondRead_7 (tgt := 19) (by decide) (fun c2 => ?_) (fun c2 => ?_)
    ·
      refine j_iconst h (v := (-1)) dX3_secondRead_19 (by decide) ?_
      have E : fX3_secondRead σ x1 = (-1) := j_ig c1 (j_ip c2 rfl)
      exact j_ireturn h hr E.symm rfl dX3_secondRead_20
    ·
      refine j_aload_n h 0 dX3_secondRead_10 rfl rfl ?_
      refine j_get h iX3 2 rfl rfl 3 (by decide) tb1_76 rfl (v := .ref (a 6)) rfl dX3_secondRead_11 ?_
      refine j_iload_n h 1 dX3_secondRead_14 rfl rfl ?_
      refine j_iald h 6 0 rfl rfl (j_in64 (j_lo1 c1) (j_hi1 c2)) dX3_secondRead_15 ?_
      refine j_goto h dX3_secondRead_16 (tgt := 20) (by decide) ?_
      have E : fX3_secondRead σ x1 = ((σ.2 3) x1.toNatClampNeg) := j_ig c1 (j_ig c2 rfl)
      exact j_ireturn h hr E.symm rfl dX3_secondRead_20
def fX3_number (σ : St) (x1 : Int32) : Int32 := (if x1 < 0 then 0 else (if 64 ≤ x1 then 0 else ((σ.2 4) x1.toNatClampNeg)))
def rmX3_number : Room := { frames := 0, cells := 0, slots := 0, locals := 0 }
set_option maxRecDepth 100000 in
set_option maxHeartbeats 4000000 in
theorem kX3_number (l : Launch) (D : va_G) (a : Nat → Nat) (cI cZ : ClassId) (σ : St) (x1 : Int32) : Ci l yX3_number cX3_number 2 (some .int) TB rmX3_number D vwCl [(cI, .int), (cZ, .boolean)] [.ref (a 2), .int x1] (fx a cI cZ σ) (fx a cI cZ σ) (fX3_number σ x1) := by
  refine Ci_of (cc := cX3_number) (maxL := 2) (ret := (some .int)) (by decide +kernel) TBg (Nat.le_of_ble_eq_true rfl) ?_
  intro p e s m args below meth c A h hr
  refine j_iload_n h 1 dX3_number_0 rfl rfl ?_
  refine j_if_lt h dX3_number_1 (tgt := 19) (by decide) (fun c1 => ?_) (fun c1 => ?_)
  ·
    refine j_iconst h (v := 0) dX3_number_19 (by decide) ?_
    have E : fX3_number σ x1 = 0 := j_ip c1 rfl
    exact j_ireturn h hr E.symm rfl dX3_number_20
  ·
    refine j_iload_n h 1 dX3_number_4 rfl rfl ?_
    refine j_bipush h (v := 64) dX3_number_5 (by decide) ?_
    refine j_icmp_ge h dX3_number_7 (tgt := 19) (by decide) (fun c2 => ?_) (fun c2 => ?_)
    ·
      refine j_iconst h (v := 0) dX3_number_19 (by decide) ?_
      have E : fX3_number σ x1 = 0 := j_ig c1 (j_ip c2 rfl)
      exact j_ireturn h hr E.symm rfl dX3_number_20
    ·
      refine j_aload_n h 0 dX3_number_10 rfl rfl ?_
      refine j_get h iX3 2 rfl rfl 4 (by decide) tb1_77 rfl (v := .ref (a 7)) rfl dX3_number_11 ?_
      refine j_iload_n h 1 dX3_number_14 rfl rfl ?_
      refine j_iald h 7 0 rfl rfl (j_in64 (j_lo1 c1) (j_hi1 c2)) dX3_number_15 ?_
      refine j_goto h dX3_number_16 (tgt := 20) (by decide) ?_
      have E : fX3_number σ x1 = ((σ.2 4) x1.toNatClampNeg) := j_ig c1 (j_ig c2 rfl)
      exact j_ireturn h hr E.symm rfl dX3_number_20
def fX3_behind (σ : St) (x1 : Int32) : Int32 := (if (σ.1 6) ≤ (x1 + 1) then 0 else (x1 + 1))
def rmX3_behind : Room := { frames := 0, cells := 0, slots := 0, locals := 0 }
set_option maxRecDepth 100000 in
set_option maxHeartbeats 4000000 in
theorem kX3_behind (l : Launch) (D : va_G) (a : Nat → Nat) (cI cZ : ClassId) (σ : St) (x1 : Int32) : Ci l yX3_behind cX3_behind 2 (some .int) TB rmX3_behind D vwCl [(cI, .int), (cZ, .boolean)] [.ref (a 2), .int x1] (fx a cI cZ σ) (fx a cI cZ σ) (fX3_behind σ x1) := by
  refine Ci_of (cc := cX3_behind) (maxL := 2) (ret := (some .int)) (by decide +kernel) TBg (Nat.le_of_ble_eq_true rfl) ?_
  intro p e s m args below meth c A h hr
  refine j_iload_n h 1 dX3_behind_0 rfl rfl ?_
  refine j_iconst h (v := 1) dX3_behind_1 (by decide) ?_
  refine j_iadd h dX3_behind_2 ?_
  refine j_aload_n h 0 dX3_behind_3 rfl rfl ?_
  refine j_get h iX3 2 rfl rfl 5 (by decide) tb1_78 rfl (v := .int (σ.1 6)) rfl dX3_behind_4 ?_
  refine j_icmp_ge h dX3_behind_7 (tgt := 16) (by decide) (fun c1 => ?_) (fun c1 => ?_)
  ·
    refine j_iconst h (v := 0) dX3_behind_16 (by decide) ?_
    have E : fX3_behind σ x1 = 0 := j_ip c1 rfl
    exact j_ireturn h hr E.symm rfl dX3_behind_17
  ·
    refine j_iload_n h 1 dX3_behind_10 rfl rfl ?_
    refine j_iconst h (v := 1) dX3_behind_11 (by decide) ?_
    refine j_iadd h dX3_behind_12 ?_
    refine j_goto h dX3_behind_13 (tgt := 17) (by decide) ?_
    have E : fX3_behind σ x1 = (x1 + 1) := j_ig c1 rfl
    exact j_ireturn h hr E.symm rfl dX3_behind_17
def fX3_wordAt (σ : St) (x1 : Int32) : Int32 := (if (σ.1 6) ≤ 0 then 0 else (fm x1 (σ.1 6)))
def rmX3_wordAt : Room := { frames := 1, cells := 0, slots := 0, locals := 22 }
set_option maxRecDepth 100000 in
set_option maxHeartbeats 4000000 in
theorem kX3_wordAt (l : Launch) (D : va_G) (a : Nat → Nat) (cI cZ : ClassId) (σ : St) (x1 : Int32) : Ci l yX3_wordAt cX3_wordAt 2 (some .int) TB rmX3_wordAt D vwCl [(cI, .int), (cZ, .boolean)] [.ref (a 2), .int x1] (fx a cI cZ σ) (fx a cI cZ σ) (fX3_wordAt σ x1) := by
  refine Ci_of (cc := cX3_wordAt) (maxL := 2) (ret := (some .int)) (by decide +kernel) TBg (Nat.le_of_ble_eq_true rfl) ?_
  intro p e s m args below meth c A h hr
  refine j_aload_n h 0 dX3_wordAt_0 rfl rfl ?_
  refine j_get h iX3 2 rfl rfl 5 (by decide) tb1_78 rfl (v := .int (σ.1 6)) rfl dX3_wordAt_1 ?_
  refine j_if_le h dX3_wordAt_4 (tgt := 18) (by decide) (fun c1 => ?_) (fun c1 => ?_)
  ·
    refine j_iconst h (v := 0) dX3_wordAt_18 (by decide) ?_
    have E : fX3_wordAt σ x1 = 0 := j_ip c1 rfl
    exact j_ireturn h hr E.symm rfl dX3_wordAt_19
  ·
    refine j_iload_n h 1 dX3_wordAt_7 rfl rfl ?_
    refine j_aload_n h 0 dX3_wordAt_8 rfl rfl ?_
    refine j_get h iX3 2 rfl rfl 5 (by decide) tb1_78 rfl (v := .int (σ.1 6)) rfl dX3_wordAt_9 ?_
    refine j_callSi0 h (kJ9_floorMod l D cI cZ x1 (σ.1 6) (j_ne0 c1)) tb3_12 tb1_37 tb1_3 tb1_38 ⟨rfl, rfl⟩ (n := 2) (by decide +kernel) ⟨Nat.le_of_ble_eq_true rfl, Nat.le_of_ble_eq_true rfl⟩ (As := [.int x1, .int (σ.1 6)]) rfl (st := []) rfl (Nat.le_of_ble_eq_true rfl) dX3_wordAt_12 ⟨Nat.zero_le _, Nat.zero_le _⟩ ?_
    refine j_goto h dX3_wordAt_15 (tgt := 19) (by decide) ?_
    have E : fX3_wordAt σ x1 = (fm x1 (σ.1 6)) := j_ig c1 rfl
    exact j_ireturn h hr E.symm rfl dX3_wordAt_19
end
section
def fX2_beginAnewA (σ : St) : St := (ar (ar σ 12 (fillF 8 0 (σ.2 12))) 13 (fillF 64 0 (σ.2 13)))
def rmX2_beginAnewA : Room := { frames := 1, cells := 0, slots := 0, locals := 23 }
set_option maxRecDepth 100000 in
set_option maxHeartbeats 4000000 in
theorem kX2_beginAnewA (l : Launch) (D : va_G) (a : Nat → Nat) (cI cZ : ClassId) (σ : St) : Cv l yX2_beginAnew cX2_beginAnew 1 none TB rmX2_beginAnewA D vwCl [(cI, .int), (cZ, .boolean)] [.ref (a 19)] (fx a cI cZ σ) (fun _ => (fx a cI cZ (fX2_beginAnewA σ))) 0 0 := by
  refine Cv_of (cc := cX2_beginAnew) (maxL := 1) (ret := none) (by decide +kernel) TBg (Nat.le_of_ble_eq_true rfl) ?_
  intro p e s m args below meth c A h hr hname
  refine j_aload_n h 0 dX2_beginAnew_0 rfl rfl ?_
  refine j_get h iX2 19 rfl rfl 1 (by decide) tb1_193 rfl (v := .ref (a 20)) rfl dX2_beginAnew_1 ?_
  refine j_iconst h (v := 0) dX2_beginAnew_4 (by decide) ?_
  refine j_callSvG h (kJ7_fill l D cI cZ (a 20) 8 (σ.2 12) 0 (by decide)) tb2_58 tb1_106 tb1_7 tb1_107 ⟨rfl, rfl⟩ (n := 2) (by decide +kernel) ⟨Nat.le_of_ble_eq_true rfl, Nat.le_of_ble_eq_true rfl⟩ (As := [.ref (a 20), .int 0]) rfl (st := []) rfl (Nat.le_of_ble_eq_true rfl) dX2_beginAnew_5 ⟨Nat.zero_le _, Nat.zero_le _⟩ [20] [0, 1, 2, 3, 4, 5, 6, 7, 8, 9, 10, 11, 12, 13, 14, 15, 16, 17, 18, 19, 21, 22, 23, 24] [0, 1, 2, 3, 4, 5, 6, 7, 8, 9, 10, 11, 12, 13, 14, 15, 16, 17, 18, 19, 24, 20, 21, 22, 23] rfl rfl (wr := ((fx a cI cZ σ).eraseIdx 20)) rfl rfl (by decide) (w2 := (fx a cI cZ (ar σ 12 (fillF 8 0 (σ.2 12))))) rfl rfl ?_
  refine j_aload_n h 0 dX2_beginAnew_8 rfl rfl ?_
  refine j_get h iX2 19 rfl rfl 2 (by decide) tb1_194 rfl (v := .ref (a 21)) rfl dX2_beginAnew_9 ?_
  refine j_iconst h (v := 0) dX2_beginAnew_12 (by decide) ?_
  refine j_callSvG h (kJ7_fill l D cI cZ (a 21) 64 (σ.2 13) 0 (by decide)) tb2_58 tb1_106 tb1_7 tb1_107 ⟨rfl, rfl⟩ (n := 2) (by decide +kernel) ⟨Nat.le_of_ble_eq_true rfl, Nat.le_of_ble_eq_true rfl⟩ (As := [.ref (a 21), .int 0]) rfl (st := []) rfl (Nat.le_of_ble_eq_true rfl) dX2_beginAnew_13 ⟨Nat.zero_le _, Nat.zero_le _⟩ [21] [0, 1, 2, 3, 4, 5, 6, 7, 8, 9, 10, 11, 12, 13, 14, 15, 16, 17, 18, 19, 20, 22, 23, 24] [0, 1, 2, 3, 4, 5, 6, 7, 8, 9, 10, 11, 12, 13, 14, 15, 16, 17, 18, 19, 20, 24, 21, 22, 23] rfl rfl (wr := ((fx a cI cZ (ar σ 12 (fillF 8 0 (σ.2 12)))).eraseIdx 21)) rfl rfl (by decide) (w2 := (fx a cI cZ (ar (ar σ 12 (fillF 8 0 (σ.2 12))) 13 (fillF 64 0 (σ.2 13))))) rfl rfl ?_
  have E : fX2_beginAnewA σ = (ar (ar σ 12 (fillF 8 0 (σ.2 12))) 13 (fillF 64 0 (σ.2 13))) := rfl
  exact j_vreturn h hr (fun _ => 0) (congrArg (fx a cI cZ) E).symm dX2_beginAnew_16
theorem fr_fX2_beginAnewA (σ : St) : Fr (fX2_beginAnewA σ) σ := by
  have E : fX2_beginAnewA σ = (ar (ar σ 12 (fillF 8 0 (σ.2 12))) 13 (fillF 64 0 (σ.2 13))) := rfl
  rw [E]
  exact (Fr.tr Fr.ar (Fr.tr Fr.ar (Fr.rf _)))
def fX2_valueOfA (σ : St) (x1 : Int32) : Int32 := (if x1 < 0 then 0 else (if 8 ≤ x1 then 0 else ((σ.2 12) x1.toNatClampNeg)))
def rmX2_valueOfA : Room := { frames := 0, cells := 0, slots := 0, locals := 0 }
set_option maxRecDepth 100000 in
set_option maxHeartbeats 4000000 in
theorem kX2_valueOfA (l : Launch) (D : va_G) (a : Nat → Nat) (cI cZ : ClassId) (σ : St) (x1 : Int32) : Ci l yX2_valueOf cX2_valueOf 2 (some .int) TB rmX2_valueOfA D vwCl [(cI, .int), (cZ, .boolean)] [.ref (a 19), .int x1] (fx a cI cZ σ) (fx a cI cZ σ) (fX2_valueOfA σ x1) := by
  refine Ci_of (cc := cX2_valueOf) (maxL := 2) (ret := (some .int)) (by decide +kernel) TBg (Nat.le_of_ble_eq_true rfl) ?_
  intro p e s m args below meth c A h hr
  refine j_iload_n h 1 dX2_valueOf_0 rfl rfl ?_
  refine j_if_lt h dX2_valueOf_1 (tgt := 19) (by decide) (fun c1 => ?_) (fun c1 => ?_)
  ·
    refine j_iconst h (v := 0) dX2_valueOf_19 (by decide) ?_
    have E : fX2_valueOfA σ x1 = 0 := j_ip c1 rfl
    exact j_ireturn h hr E.symm rfl dX2_valueOf_20
  ·
    refine j_iload_n h 1 dX2_valueOf_4 rfl rfl ?_
    refine j_bipush h (v := 8) dX2_valueOf_5 (by decide) ?_
    refine j_icmp_ge h dX2_valueOf_7 (tgt := 19) (by decide) (fun c2 => ?_) (fun c2 => ?_)
    ·
      refine j_iconst h (v := 0) dX2_valueOf_19 (by decide) ?_
      have E : fX2_valueOfA σ x1 = 0 := j_ig c1 (j_ip c2 rfl)
      exact j_ireturn h hr E.symm rfl dX2_valueOf_20
    ·
      refine j_aload_n h 0 dX2_valueOf_10 rfl rfl ?_
      refine j_get h iX2 19 rfl rfl 1 (by decide) tb1_193 rfl (v := .ref (a 20)) rfl dX2_valueOf_11 ?_
      refine j_iload_n h 1 dX2_valueOf_14 rfl rfl ?_
      refine j_iald h 20 0 rfl rfl (j_in8 (j_lo1 c1) (j_hi1 c2)) dX2_valueOf_15 ?_
      refine j_goto h dX2_valueOf_16 (tgt := 20) (by decide) ?_
      have E : fX2_valueOfA σ x1 = ((σ.2 12) x1.toNatClampNeg) := j_ig c1 (j_ig c2 rfl)
      exact j_ireturn h hr E.symm rfl dX2_valueOf_20
def fX2_valueAtA (σ : St) (x1 : Int32) : Int32 := ((σ.2 13) (fm x1 64).toNatClampNeg)
def rmX2_valueAtA : Room := { frames := 1, cells := 0, slots := 0, locals := 22 }
set_option maxRecDepth 100000 in
set_option maxHeartbeats 4000000 in
theorem kX2_valueAtA (l : Launch) (D : va_G) (a : Nat → Nat) (cI cZ : ClassId) (σ : St) (x1 : Int32) : Ci l yX2_valueAt cX2_valueAt 2 (some .int) TB rmX2_valueAtA D vwCl [(cI, .int), (cZ, .boolean)] [.ref (a 19), .int x1] (fx a cI cZ σ) (fx a cI cZ σ) (fX2_valueAtA σ x1) := by
  refine Ci_of (cc := cX2_valueAt) (maxL := 2) (ret := (some .int)) (by decide +kernel) TBg (Nat.le_of_ble_eq_true rfl) ?_
  intro p e s m args below meth c A h hr
  refine j_aload_n h 0 dX2_valueAt_0 rfl rfl ?_
  refine j_get h iX2 19 rfl rfl 2 (by decide) tb1_194 rfl (v := .ref (a 21)) rfl dX2_valueAt_1 ?_
  refine j_iload_n h 1 dX2_valueAt_4 rfl rfl ?_
  refine j_bipush h (v := 64) dX2_valueAt_5 (by decide) ?_
  refine j_callSi0 h (kJ9_floorMod l D cI cZ x1 64 (by decide)) tb3_50 tb1_37 tb1_3 tb1_38 ⟨rfl, rfl⟩ (n := 2) (by decide +kernel) ⟨Nat.le_of_ble_eq_true rfl, Nat.le_of_ble_eq_true rfl⟩ (As := [.int x1, .int 64]) rfl (st := [.ref (a 21)]) rfl (Nat.le_of_ble_eq_true rfl) dX2_valueAt_7 ⟨Nat.zero_le _, Nat.zero_le _⟩ ?_
  refine j_iald h 21 0 rfl rfl (fm_in64 _) dX2_valueAt_10 ?_
  have E : fX2_valueAtA σ x1 = ((σ.2 13) (fm x1 64).toNatClampNeg) := rfl
  exact j_ireturn h hr E.symm rfl dX2_valueAt_11
def fX2_goesA (σ : St) (x1 : Int32) : Int32 := (let q1 := (fX3_kindOf σ x1); (if q1 = 4 then (let q3 := (fX3_firstRead σ x1); (let q4 := (fX2_valueOfA σ q3); (if q4 = 0 then 0 else 1))) else 0))
def rmX2_goesA : Room := { frames := 1, cells := 0, slots := 0, locals := 21 }
set_option maxRecDepth 100000 in
set_option maxHeartbeats 4000000 in
theorem kX2_goesA (l : Launch) (D : va_G) (a : Nat → Nat) (cI cZ : ClassId) (σ : St) (x1 : Int32) : Ci l yX2_goes cX2_goes 2 (some .boolean) TB rmX2_goesA D vwCl [(cI, .int), (cZ, .boolean)] [.ref (a 19), .int x1] (fx a cI cZ σ) (fx a cI cZ σ) (fX2_goesA σ x1) := by
  refine Ci_of (cc := cX2_goes) (maxL := 2) (ret := (some .boolean)) (by decide +kernel) TBg (Nat.le_of_ble_eq_true rfl) ?_
  intro p e s m args below meth c A h hr
  refine j_aload_n h 0 dX2_goes_0 rfl rfl ?_
  refine j_get h iX2 19 rfl rfl 0 (by decide) tb1_192 rfl (v := .ref (a 2)) rfl dX2_goes_1 ?_
  refine j_iload_n h 1 dX2_goes_4 rfl rfl ?_
  refine j_callVi h (kX3_kindOf l D a cI cZ σ x1) tb3_41 tb3_0 tb3_1 tb1_4 tb3_2 ⟨rfl, rfl⟩ (n := 1) (by decide +kernel) ⟨Nat.le_of_ble_eq_true rfl, Nat.le_of_ble_eq_true rfl⟩ (As := [.int x1]) rfl (ci := 3) (q0 := 2) rfl rfl (st := []) rfl (Nat.le_of_ble_eq_true rfl) dX2_goes_5 ⟨Nat.zero_le _, Nat.zero_le _⟩ ?_
  generalize hq1 : (fX3_kindOf σ x1) = q1
  refine j_iconst h (v := 4) dX2_goes_8 (by decide) ?_
  refine j_icmp_ne h dX2_goes_9 (tgt := 31) (by decide) (fun c2 => ?_) (fun c2 => ?_)
  ·
    refine j_iconst h (v := 0) dX2_goes_31 (by decide) ?_
    subst hq1
    have E : fX2_goesA σ x1 = 0 := j_ig c2 rfl
    exact j_zreturn h hr (by decide) E.symm rfl dX2_goes_32
  ·
    refine j_aload_n h 0 dX2_goes_12 rfl rfl ?_
    refine j_aload_n h 0 dX2_goes_13 rfl rfl ?_
    refine j_get h iX2 19 rfl rfl 0 (by decide) tb1_192 rfl (v := .ref (a 2)) rfl dX2_goes_14 ?_
    refine j_iload_n h 1 dX2_goes_17 rfl rfl ?_
    refine j_callVi h (kX3_firstRead l D a cI cZ σ x1) tb3_21 tb3_22 tb3_23 tb1_4 tb3_24 ⟨rfl, rfl⟩ (n := 1) (by decide +kernel) ⟨Nat.le_of_ble_eq_true rfl, Nat.le_of_ble_eq_true rfl⟩ (As := [.int x1]) rfl (ci := 3) (q0 := 2) rfl rfl (st := [.ref (a 19)]) rfl (Nat.le_of_ble_eq_true rfl) dX2_goes_18 ⟨Nat.zero_le _, Nat.zero_le _⟩ ?_
    generalize hq3 : (fX3_firstRead σ x1) = q3
    refine j_callVi h (kX2_valueOfA l D a cI cZ σ q3) tb3_25 tb3_26 tb3_27 tb1_10 tb3_28 ⟨rfl, rfl⟩ (n := 1) (by decide +kernel) ⟨Nat.le_of_ble_eq_true rfl, Nat.le_of_ble_eq_true rfl⟩ (As := [.int q3]) rfl (ci := 2) (q0 := 19) rfl rfl (st := []) rfl (Nat.le_of_ble_eq_true rfl) dX2_goes_21 ⟨Nat.zero_le _, Nat.zero_le _⟩ ?_
    generalize hq4 : (fX2_valueOfA σ q3) = q4
    refine j_if_eq h dX2_goes_24 (tgt := 31) (by decide) (fun c5 => ?_) (fun c5 => ?_)
    ·
      refine j_iconst h (v := 0) dX2_goes_31 (by decide) ?_
      subst hq1 hq3 hq4
      have E : fX2_goesA σ x1 = 0 := j_ip c2 (j_ip c5 rfl)
      exact j_zreturn h hr (by decide) E.symm rfl dX2_goes_32
    ·
      refine j_iconst h (v := 1) dX2_goes_27 (by decide) ?_
      refine j_goto h dX2_goes_28 (tgt := 32) (by decide) ?_
      subst hq1 hq3 hq4
      have E : fX2_goesA σ x1 = 1 := j_ip c2 (j_ig c5 rfl)
      exact j_zreturn h hr (by decide) E.symm rfl dX2_goes_32
def fX2_writeA (σ : St) (x1 x2 : Int32) : Int32 × St := (if x1 < 0 then (x2, σ) else (if 8 ≤ x1 then (x2, σ) else (x2, (ar σ 12 (upd (σ.2 12) x1.toNatClampNeg x2)))))
def rmX2_writeA : Room := { frames := 0, cells := 0, slots := 0, locals := 0 }
set_option maxRecDepth 100000 in
set_option maxHeartbeats 4000000 in
theorem kX2_writeA (l : Launch) (D : va_G) (a : Nat → Nat) (cI cZ : ClassId) (σ : St) (x1 x2 : Int32) : Ci l yX2_write cX2_write 3 (some .int) TB rmX2_writeA D vwCl [(cI, .int), (cZ, .boolean)] [.ref (a 19), .int x1, .int x2] (fx a cI cZ σ) (fx a cI cZ (fX2_writeA σ x1 x2).2) (fX2_writeA σ x1 x2).1 := by
  refine Ci_of (cc := cX2_write) (maxL := 3) (ret := (some .int)) (by decide +kernel) TBg (Nat.le_of_ble_eq_true rfl) ?_
  intro p e s m args below meth c A h hr
  refine j_iload_n h 1 dX2_write_0 rfl rfl ?_
  refine j_if_lt h dX2_write_1 (tgt := 17) (by decide) (fun c1 => ?_) (fun c1 => ?_)
  ·
    refine j_iload_n h 2 dX2_write_17 rfl rfl ?_
    have E : fX2_writeA σ x1 x2 = (x2, σ) := j_ip c1 rfl
    exact j_ireturn h hr (congrArg Prod.fst E).symm (congrArg (fun z => fx a cI cZ z.2) E).symm dX2_write_18
  ·
    refine j_iload_n h 1 dX2_write_4 rfl rfl ?_
    refine j_bipush h (v := 8) dX2_write_5 (by decide) ?_
    refine j_icmp_ge h dX2_write_7 (tgt := 17) (by decide) (fun c2 => ?_) (fun c2 => ?_)
    ·
      refine j_iload_n h 2 dX2_write_17 rfl rfl ?_
      have E : fX2_writeA σ x1 x2 = (x2, σ) := j_ig c1 (j_ip c2 rfl)
      exact j_ireturn h hr (congrArg Prod.fst E).symm (congrArg (fun z => fx a cI cZ z.2) E).symm dX2_write_18
    ·
      refine j_aload_n h 0 dX2_write_10 rfl rfl ?_
      refine j_get h iX2 19 rfl rfl 1 (by decide) tb1_193 rfl (v := .ref (a 20)) rfl dX2_write_11 ?_
      refine j_iload_n h 1 dX2_write_14 rfl rfl ?_
      refine j_iload_n h 2 dX2_write_15 rfl rfl ?_
      refine j_iast h 20 0 rfl rfl (j_in8 (j_lo1 c1) (j_hi1 c2)) (w' := (fx a cI cZ (ar σ 12 (upd (σ.2 12) x1.toNatClampNeg x2)))) rfl dX2_write_16 ?_
      refine j_iload_n h 2 dX2_write_17 rfl rfl ?_
      have E : fX2_writeA σ x1 x2 = (x2, (ar σ 12 (upd (σ.2 12) x1.toNatClampNeg x2))) := j_ig c1 (j_ig c2 rfl)
      exact j_ireturn h hr (congrArg Prod.fst E).symm (congrArg (fun z => fx a cI cZ z.2) E).symm dX2_write_18
theorem fr_fX2_writeA (σ : St) (x1 x2 : Int32) : Fr (fX2_writeA σ x1 x2).2 σ := by
  by_cases c0 : x1 < 0
  ·
    have E : fX2_writeA σ x1 x2 = (x2, σ) := j_ip c0 rfl
    rw [E]
    exact (Fr.rf _)
  ·
    by_cases c1 : 8 ≤ x1
    ·
      have E : fX2_writeA σ x1 x2 = (x2, σ) := j_ig c0 (j_ip c1 rfl)
      rw [E]
      exact (Fr.rf _)
    ·
      have E : fX2_writeA σ x1 x2 = (x2, (ar σ 12 (upd (σ.2 12) x1.toNatClampNeg x2))) := j_ig c0 (j_ig c1 rfl)
      rw [E]
      exact (Fr.tr Fr.ar (Fr.rf _))
def fX2_storeA (σ : St) (x1 x2 : Int32) : Int32 × St := (x2, (ar σ 13 (upd (σ.2 13) (fm x1 64).toNatClampNeg x2)))
def rmX2_storeA : Room := { frames := 1, cells := 0, slots := 0, locals := 22 }
set_option maxRecDepth 100000 in
set_option maxHeartbeats 4000000 in
theorem kX2_storeA (l : Launch) (D : va_G) (a : Nat → Nat) (cI cZ : ClassId) (σ : St) (x1 x2 : Int32) : Ci l yX2_store cX2_store 3 (some .int) TB rmX2_storeA D vwCl [(cI, .int), (cZ, .boolean)] [.ref (a 19), .int x1, .int x2] (fx a cI cZ σ) (fx a cI cZ (fX2_storeA σ x1 x2).2) (fX2_storeA σ x1 x2).1 := by
  refine Ci_of (cc := cX2_store) (maxL := 3) (ret := (some .int)) (by decide +kernel) TBg (Nat.le_of_ble_eq_true rfl) ?_
  intro p e s m args below meth c A h hr
  refine j_aload_n h 0 dX2_store_0 rfl rfl ?_
  refine j_get h iX2 19 rfl rfl 2 (by decide) tb1_194 rfl (v := .ref (a 21)) rfl dX2_store_1 ?_
  refine j_iload_n h 1 dX2_store_4 rfl rfl ?_
  refine j_bipush h (v := 64) dX2_store_5 (by decide) ?_
  refine j_callSi0 h (kJ9_floorMod l D cI cZ x1 64 (by decide)) tb3_50 tb1_37 tb1_3 tb1_38 ⟨rfl, rfl⟩ (n := 2) (by decide +kernel) ⟨Nat.le_of_ble_eq_true rfl, Nat.le_of_ble_eq_true rfl⟩ (As := [.int x1, .int 64]) rfl (st := [.ref (a 21)]) rfl (Nat.le_of_ble_eq_true rfl) dX2_store_7 ⟨Nat.zero_le _, Nat.zero_le _⟩ ?_
  refine j_iload_n h 2 dX2_store_10 rfl rfl ?_
  refine j_iast h 21 0 rfl rfl (fm_in64 _) (w' := (fx a cI cZ (ar σ 13 (upd (σ.2 13) (fm x1 64).toNatClampNeg x2)))) rfl dX2_store_11 ?_
  refine j_iload_n h 2 dX2_store_12 rfl rfl ?_
  have E : fX2_storeA σ x1 x2 = (x2, (ar σ 13 (upd (σ.2 13) (fm x1 64).toNatClampNeg x2))) := rfl
  exact j_ireturn h hr (congrArg Prod.fst E).symm (congrArg (fun z => fx a cI cZ z.2) E).symm dX2_store_13
theorem fr_fX2_storeA (σ : St) (x1 x2 : Int32) : Fr (fX2_storeA σ x1 x2).2 σ := by
  have E : fX2_storeA σ x1 x2 = (x2, (ar σ 13 (upd (σ.2 13) (fm x1 64).toNatClampNeg x2))) := rfl
  rw [E]
  exact (Fr.tr Fr.ar (Fr.rf _))
def fX2_performA (σ : St) (x1 : Int32) : Int32 × St := (let q1 := (fX3_firstRead σ x1); (let q2 := (fX2_valueOfA σ q1); (let q3 := (fX3_secondRead σ x1); (let q4 := (fX2_valueOfA σ q3); (let q5 := (fX3_number σ x1); (let q6 := (fX3_written σ x1); (let q7 := (fX3_kindOf σ x1); (if q7 = 0 then (let q9 := (fX2_writeA σ q6 ((q2 + q4) + q5)); (q9.1, q9.2)) else (if q7 = 1 then (let q11 := (fX2_valueAtA σ q2); (let q12 := (fX2_writeA σ q6 q11); (q12.1, q12.2))) else (if q7 = 2 then (let q14 := (fX2_storeA σ q2 q4); (q14.1, q14.2)) else (if q7 = 3 then (let q16 := (fX2_writeA σ q6 (q2 * q4)); (q16.1, q16.2)) else (if q7 = 4 then (0, σ) else (if q7 = 5 then (0, σ) else (if q7 = 6 then (0, σ) else (if q7 = 7 then (let q21 := (fX2_writeA σ q6 q5); (q21.1, q21.2)) else (0, σ))))))))))))))))
def rmX2_performA : Room := { frames := 2, cells := 0, slots := 0, locals := 44 }
set_option maxRecDepth 100000 in
set_option maxHeartbeats 4000000 in
theorem kX2_performA (l : Launch) (D : va_G) (a : Nat → Nat) (cI cZ : ClassId) (σ : St) (x1 : Int32) : Ci l yX2_perform cX2_perform 6 (some .int) TB rmX2_performA D vwCl [(cI, .int), (cZ, .boolean)] [.ref (a 19), .int x1] (fx a cI cZ σ) (fx a cI cZ (fX2_performA σ x1).2) (fX2_performA σ x1).1 := by
  refine Ci_of (cc := cX2_perform) (maxL := 6) (ret := (some .int)) (by decide +kernel) TBg (Nat.le_of_ble_eq_true rfl) ?_
  intro p e s m args below meth c A h hr
  refine j_aload_n h 0 dX2_perform_0 rfl rfl ?_
  refine j_aload_n h 0 dX2_perform_1 rfl rfl ?_
  refine j_get h iX2 19 rfl rfl 0 (by decide) tb1_192 rfl (v := .ref (a 2)) rfl dX2_perform_2 ?_
  refine j_iload_n h 1 dX2_perform_5 rfl rfl ?_
  refine j_callVi h (kX3_firstRead l D a cI cZ σ x1) tb3_21 tb3_22 tb3_23 tb1_4 tb3_24 ⟨rfl, rfl⟩ (n := 1) (by decide +kernel) ⟨Nat.le_of_ble_eq_true rfl, Nat.le_of_ble_eq_true rfl⟩ (As := [.int x1]) rfl (ci := 3) (q0 := 2) rfl rfl (st := [.ref (a 19)]) rfl (Nat.le_of_ble_eq_true rfl) dX2_perform_6 ⟨Nat.zero_le _, Nat.zero_le _⟩ ?_
  generalize hq1 : (fX3_firstRead σ x1) = q1
  refine j_callVi h (kX2_valueOfA l D a cI cZ σ q1) tb3_25 tb3_26 tb3_27 tb1_10 tb3_28 ⟨rfl, rfl⟩ (n := 1) (by decide +kernel) ⟨Nat.le_of_ble_eq_true rfl, Nat.le_of_ble_eq_true rfl⟩ (As := [.int q1]) rfl (ci := 2) (q0 := 19) rfl rfl (st := []) rfl (Nat.le_of_ble_eq_true rfl) dX2_perform_9 ⟨Nat.zero_le _, Nat.zero_le _⟩ ?_
  generalize hq2 : (fX2_valueOfA σ q1) = q2
  refine j_istore_n h (lv' := [(2, .int q2), (0, .ref (a 19)), (1, .int x1)]) dX2_perform_12 rfl (by decide) rfl ?_
  refine j_aload_n h 1 dX2_perform_13 rfl rfl ?_
  refine j_aload_n h 1 dX2_perform_14 rfl rfl ?_
  refine j_get h iX2 19 rfl rfl 0 (by decide) tb1_192 rfl (v := .ref (a 2)) rfl dX2_perform_15 ?_
  refine j_iload_n h 2 dX2_perform_18 rfl rfl ?_
  refine j_callVi h (kX3_secondRead l D a cI cZ σ x1) tb3_29 tb3_30 tb3_31 tb1_4 tb3_32 ⟨rfl, rfl⟩ (n := 1) (by decide +kernel) ⟨Nat.le_of_ble_eq_true rfl, Nat.le_of_ble_eq_true rfl⟩ (As := [.int x1]) rfl (ci := 3) (q0 := 2) rfl rfl (st := [.ref (a 19)]) rfl (Nat.le_of_ble_eq_true rfl) dX2_perform_19 ⟨Nat.zero_le _, Nat.zero_le _⟩ ?_
  generalize hq3 : (fX3_secondRead σ x1) = q3
  refine j_callVi h (kX2_valueOfA l D a cI cZ σ q3) tb3_25 tb3_26 tb3_27 tb1_10 tb3_28 ⟨rfl, rfl⟩ (n := 1) (by decide +kernel) ⟨Nat.le_of_ble_eq_true rfl, Nat.le_of_ble_eq_true rfl⟩ (As := [.int q3]) rfl (ci := 2) (q0 := 19) rfl rfl (st := []) rfl (Nat.le_of_ble_eq_true rfl) dX2_perform_22 ⟨Nat.zero_le _, Nat.zero_le _⟩ ?_
  generalize hq4 : (fX2_valueOfA σ q3) = q4
  refine j_istore_n h (lv' := [(3, .int q4), (2, .int q2), (0, .ref (a 19)), (1, .int x1)]) dX2_perform_25 rfl (by decide) rfl ?_
  refine j_aload_n h 2 dX2_perform_26 rfl rfl ?_
  refine j_get h iX2 19 rfl rfl 0 (by decide) tb1_192 rfl (v := .ref (a 2)) rfl dX2_perform_27 ?_
  refine j_iload_n h 3 dX2_perform_30 rfl rfl ?_
  refine j_callVi h (kX3_number l D a cI cZ σ x1) tb3_33 tb3_34 tb3_35 tb1_4 tb3_36 ⟨rfl, rfl⟩ (n := 1) (by decide +kernel) ⟨Nat.le_of_ble_eq_true rfl, Nat.le_of_ble_eq_true rfl⟩ (As := [.int x1]) rfl (ci := 3) (q0 := 2) rfl rfl (st := []) rfl (Nat.le_of_ble_eq_true rfl) dX2_perform_31 ⟨Nat.zero_le _, Nat.zero_le _⟩ ?_
  generalize hq5 : (fX3_number σ x1) = q5
  refine j_istore h (lv' := [(4, .int q5), (3, .int q4), (2, .int q2), (0, .ref (a 19)), (1, .int x1)]) dX2_perform_34 (by decide) rfl ?_
  refine j_aload_n h 3 dX2_perform_36 rfl rfl ?_
  refine j_get h iX2 19 rfl rfl 0 (by decide) tb1_192 rfl (v := .ref (a 2)) rfl dX2_perform_37 ?_
  refine j_iload_n h 4 dX2_perform_40 rfl rfl ?_
  refine j_callVi h (kX3_written l D a cI cZ σ x1) tb3_37 tb3_38 tb3_39 tb1_4 tb3_40 ⟨rfl, rfl⟩ (n := 1) (by decide +kernel) ⟨Nat.le_of_ble_eq_true rfl, Nat.le_of_ble_eq_true rfl⟩ (As := [.int x1]) rfl (ci := 3) (q0 := 2) rfl rfl (st := []) rfl (Nat.le_of_ble_eq_true rfl) dX2_perform_41 ⟨Nat.zero_le _, Nat.zero_le _⟩ ?_
  generalize hq6 : (fX3_written σ x1) = q6
  refine j_istore h (lv' := [(5, .int q6), (4, .int q5), (3, .int q4), (2, .int q2), (0, .ref (a 19)), (1, .int x1)]) dX2_perform_44 (by decide) rfl ?_
  refine j_aload_n h 4 dX2_perform_46 rfl rfl ?_
  refine j_get h iX2 19 rfl rfl 0 (by decide) tb1_192 rfl (v := .ref (a 2)) rfl dX2_perform_47 ?_
  refine j_iload_n h 5 dX2_perform_50 rfl rfl ?_
  refine j_callVi h (kX3_kindOf l D a cI cZ σ x1) tb3_41 tb3_0 tb3_1 tb1_4 tb3_2 ⟨rfl, rfl⟩ (n := 1) (by decide +kernel) ⟨Nat.le_of_ble_eq_true rfl, Nat.le_of_ble_eq_true rfl⟩ (As := [.int x1]) rfl (ci := 3) (q0 := 2) rfl rfl (st := []) rfl (Nat.le_of_ble_eq_true rfl) dX2_perform_51 ⟨Nat.zero_le _, Nat.zero_le _⟩ ?_
  generalize hq7 : (fX3_kindOf σ x1) = q7
  by_cases c8 : q7 = 0
  ·
    refine j_tableIn h dX2_perform_54 (off := 46) (tgt := 100) (by rw [c8]; decide) (by rw [c8]; decide) (by rw [c8]; decide) (by decide) ?_
    refine j_aload_n h 4 dX2_perform_100 rfl rfl ?_
    refine j_iload h 0 dX2_perform_101 rfl ?_
    refine j_iload_n h 3 dX2_perform_103 rfl rfl ?_
    refine j_iload_n h 2 dX2_perform_104 rfl rfl ?_
    refine j_iadd h dX2_perform_105 ?_
    refine j_iload h 1 dX2_perform_106 rfl ?_
    refine j_iadd h dX2_perform_108 ?_
    refine j_callVi h (kX2_writeA l D a cI cZ σ q6 ((q2 + q4) + q5)) tb3_42 tb3_44 tp_4 tb1_10 tb3_45 ⟨rfl, rfl⟩ (n := 2) (by decide +kernel) ⟨Nat.le_of_ble_eq_true rfl, Nat.le_of_ble_eq_true rfl⟩ (As := [.int q6, .int ((q2 + q4) + q5)]) rfl (ci := 2) (q0 := 19) rfl rfl (st := []) rfl (Nat.le_of_ble_eq_true rfl) dX2_perform_109 ⟨Nat.zero_le _, Nat.zero_le _⟩ ?_
    generalize hq9 : (fX2_writeA σ q6 ((q2 + q4) + q5)) = q9
    subst hq1 hq2 hq3 hq4 hq5 hq6 hq7 hq9
    have E : fX2_performA σ x1 = ((fX2_writeA σ (fX3_written σ x1) (((fX2_valueOfA σ (fX3_firstRead σ x1)) + (fX2_valueOfA σ (fX3_secondRead σ x1))) + (fX3_number σ x1))).1, (fX2_writeA σ (fX3_written σ x1) (((fX2_valueOfA σ (fX3_firstRead σ x1)) + (fX2_valueOfA σ (fX3_secondRead σ x1))) + (fX3_number σ x1))).2) := j_ip c8 rfl
    exact j_ireturn h hr (congrArg Prod.fst E).symm (congrArg (fun z => fx a cI cZ z.2) E).symm dX2_perform_112
  ·
    by_cases c10 : q7 = 1
    ·
      refine j_tableIn h dX2_perform_54 (off := 59) (tgt := 113) (by rw [c10]; decide) (by rw [c10]; decide) (by rw [c10]; decide) (by decide) ?_
      refine j_aload_n h 4 dX2_perform_113 rfl rfl ?_
      refine j_iload h 0 dX2_perform_114 rfl ?_
      refine j_aload_n h 4 dX2_perform_116 rfl rfl ?_
      refine j_iload_n h 3 dX2_perform_117 rfl rfl ?_
      refine j_callVi h (kX2_valueAtA l D a cI cZ σ q2) tb3_46 tb3_47 tb3_48 tb1_10 tb3_49 ⟨rfl, rfl⟩ (n := 1) (by decide +kernel) ⟨Nat.le_of_ble_eq_true rfl, Nat.le_of_ble_eq_true rfl⟩ (As := [.int q2]) rfl (ci := 2) (q0 := 19) rfl rfl (st := [.int q6, .ref (a 19)]) rfl (Nat.le_of_ble_eq_true rfl) dX2_perform_118 ⟨Nat.zero_le _, Nat.zero_le _⟩ ?_
      generalize hq11 : (fX2_valueAtA σ q2) = q11
      refine j_callVi h (kX2_writeA l D a cI cZ σ q6 q11) tb3_42 tb3_44 tp_4 tb1_10 tb3_45 ⟨rfl, rfl⟩ (n := 2) (by decide +kernel) ⟨Nat.le_of_ble_eq_true rfl, Nat.le_of_ble_eq_true rfl⟩ (As := [.int q6, .int q11]) rfl (ci := 2) (q0 := 19) rfl rfl (st := []) rfl (Nat.le_of_ble_eq_true rfl) dX2_perform_121 ⟨Nat.zero_le _, Nat.zero_le _⟩ ?_
      generalize hq12 : (fX2_writeA σ q6 q11) = q12
      subst hq1 hq2 hq3 hq4 hq5 hq6 hq7 hq11 hq12
      have E : fX2_performA σ x1 = ((fX2_writeA σ (fX3_written σ x1) (fX2_valueAtA σ (fX2_valueOfA σ (fX3_firstRead σ x1)))).1, (fX2_writeA σ (fX3_written σ x1) (fX2_valueAtA σ (fX2_valueOfA σ (fX3_firstRead σ x1)))).2) := j_ig c8 (j_ip c10 rfl)
      exact j_ireturn h hr (congrArg Prod.fst E).symm (congrArg (fun z => fx a cI cZ z.2) E).symm dX2_perform_124
    ·
      by_cases c13 : q7 = 2
      ·
        refine j_tableIn h dX2_perform_54 (off := 71) (tgt := 125) (by rw [c13]; decide) (by rw [c13]; decide) (by rw [c13]; decide) (by decide) ?_
        refine j_aload_n h 4 dX2_perform_125 rfl rfl ?_
        refine j_iload_n h 3 dX2_perform_126 rfl rfl ?_
        refine j_iload_n h 2 dX2_perform_127 rfl rfl ?_
        refine j_callVi h (kX2_storeA l D a cI cZ σ q2 q4) tb3_51 tb3_53 tp_5 tb1_10 tb3_54 ⟨rfl, rfl⟩ (n := 2) (by decide +kernel) ⟨Nat.le_of_ble_eq_true rfl, Nat.le_of_ble_eq_true rfl⟩ (As := [.int q2, .int q4]) rfl (ci := 2) (q0 := 19) rfl rfl (st := []) rfl (Nat.le_of_ble_eq_true rfl) dX2_perform_128 ⟨Nat.zero_le _, Nat.zero_le _⟩ ?_
        generalize hq14 : (fX2_storeA σ q2 q4) = q14
        subst hq1 hq2 hq3 hq4 hq5 hq6 hq7 hq14
        have E : fX2_performA σ x1 = ((fX2_storeA σ (fX2_valueOfA σ (fX3_firstRead σ x1)) (fX2_valueOfA σ (fX3_secondRead σ x1))).1, (fX2_storeA σ (fX2_valueOfA σ (fX3_firstRead σ x1)) (fX2_valueOfA σ (fX3_secondRead σ x1))).2) := j_ig c8 (j_ig c10 (j_ip c13 rfl))
        exact j_ireturn h hr (congrArg Prod.fst E).symm (congrArg (fun z => fx a cI cZ z.2) E).symm dX2_perform_131
      ·
        by_cases c15 : q7 = 3
        ·
          refine j_tableIn h dX2_perform_54 (off := 78) (tgt := 132) (by rw [c15]; decide) (by rw [c15]; decide) (by rw [c15]; decide) (by decide) ?_
          refine j_aload_n h 4 dX2_perform_132 rfl rfl ?_
          refine j_iload h 0 dX2_perform_133 rfl ?_
          refine j_iload_n h 3 dX2_perform_135 rfl rfl ?_
          refine j_iload_n h 2 dX2_perform_136 rfl rfl ?_
          refine j_imul h dX2_perform_137 ?_
          refine j_callVi h (kX2_writeA l D a cI cZ σ q6 (q2 * q4)) tb3_42 tb3_44 tp_4 tb1_10 tb3_45 ⟨rfl, rfl⟩ (n := 2) (by decide +kernel) ⟨Nat.le_of_ble_eq_true rfl, Nat.le_of_ble_eq_true rfl⟩ (As := [.int q6, .int (q2 * q4)]) rfl (ci := 2) (q0 := 19) rfl rfl (st := []) rfl (Nat.le_of_ble_eq_true rfl) dX2_perform_138 ⟨Nat.zero_le _, Nat.zero_le _⟩ ?_
          generalize hq16 : (fX2_writeA σ q6 (q2 * q4)) = q16
          subst hq1 hq2 hq3 hq4 hq5 hq6 hq7 hq16
          have E : fX2_performA σ x1 = ((fX2_writeA σ (fX3_written σ x1) ((fX2_valueOfA σ (fX3_firstRead σ x1)) * (fX2_valueOfA σ (fX3_secondRead σ x1)))).1, (fX2_writeA σ (fX3_written σ x1) ((fX2_valueOfA σ (fX3_firstRead σ x1)) * (fX2_valueOfA σ (fX3_secondRead σ x1)))).2) := j_ig c8 (j_ig c10 (j_ig c13 (j_ip c15 rfl)))
          exact j_ireturn h hr (congrArg Prod.fst E).symm (congrArg (fun z => fx a cI cZ z.2) E).symm dX2_perform_141
        ·
          by_cases c17 : q7 = 4
          ·
            refine j_tableIn h dX2_perform_54 (off := 97) (tgt := 151) (by rw [c17]; decide) (by rw [c17]; decide) (by rw [c17]; decide) (by decide) ?_
            refine j_iconst h (v := 0) dX2_perform_151 (by decide) ?_
            subst hq1 hq2 hq3 hq4 hq5 hq6 hq7
            have E : fX2_performA σ x1 = (0, σ) := j_ig c8 (j_ig c10 (j_ig c13 (j_ig c15 (j_ip c17 rfl))))
            exact j_ireturn h hr (congrArg Prod.fst E).symm (congrArg (fun z => fx a cI cZ z.2) E).symm dX2_perform_152
          ·
            by_cases c18 : q7 = 5
            ·
              refine j_tableIn h dX2_perform_54 (off := 97) (tgt := 151) (by rw [c18]; decide) (by rw [c18]; decide) (by rw [c18]; decide) (by decide) ?_
              refine j_iconst h (v := 0) dX2_perform_151 (by decide) ?_
              subst hq1 hq2 hq3 hq4 hq5 hq6 hq7
              have E : fX2_performA σ x1 = (0, σ) := j_ig c8 (j_ig c10 (j_ig c13 (j_ig c15 (j_ig c17 (j_ip c18 rfl)))))
              exact j_ireturn h hr (congrArg Prod.fst E).symm (congrArg (fun z => fx a cI cZ z.2) E).symm dX2_perform_152
            ·
              by_cases c19 : q7 = 6
              ·
                refine j_tableIn h dX2_perform_54 (off := 97) (tgt := 151) (by rw [c19]; decide) (by rw [c19]; decide) (by rw [c19]; decide) (by decide) ?_
                refine j_iconst h (v := 0) dX2_perform_151 (by decide) ?_
                subst hq1 hq2 hq3 hq4 hq5 hq6 hq7
                have E : fX2_performA σ x1 = (0, σ) := j_ig c8 (j_ig c10 (j_ig c13 (j_ig c15 (j_ig c17 (j_ig c18 (j_ip c19 rfl))))))
                exact j_ireturn h hr (congrArg Prod.fst E).symm (congrArg (fun z => fx a cI cZ z.2) E).symm dX2_perform_152
              ·
                by_cases c20 : q7 = 7
                ·
                  refine j_tableIn h dX2_perform_54 (off := 88) (tgt := 142) (by rw [c20]; decide) (by rw [c20]; decide) (by rw [c20]; decide) (by decide) ?_
                  refine j_aload_n h 4 dX2_perform_142 rfl rfl ?_
                  refine j_iload h 0 dX2_perform_143 rfl ?_
                  refine j_iload h 1 dX2_perform_145 rfl ?_
                  refine j_callVi h (kX2_writeA l D a cI cZ σ q6 q5) tb3_42 tb3_44 tp_4 tb1_10 tb3_45 ⟨rfl, rfl⟩ (n := 2) (by decide +kernel) ⟨Nat.le_of_ble_eq_true rfl, Nat.le_of_ble_eq_true rfl⟩ (As := [.int q6, .int q5]) rfl (ci := 2) (q0 := 19) rfl rfl (st := []) rfl (Nat.le_of_ble_eq_true rfl) dX2_perform_147 ⟨Nat.zero_le _, Nat.zero_le _⟩ ?_
                  generalize hq21 : (fX2_writeA σ q6 q5) = q21
                  subst hq1 hq2 hq3 hq4 hq5 hq6 hq7 hq21
                  have E : fX2_performA σ x1 = ((fX2_writeA σ (fX3_written σ x1) (fX3_number σ x1)).1, (fX2_writeA σ (fX3_written σ x1) (fX3_number σ x1)).2) := j_ig c8 (j_ig c10 (j_ig c13 (j_ig c15 (j_ig c17 (j_ig c18 (j_ig c19 (j_ip c20 rfl)))))))
                  exact j_ireturn h hr (congrArg Prod.fst E).symm (congrArg (fun z => fx a cI cZ z.2) E).symm dX2_perform_150
                ·
                  refine j_tableOut h dX2_perform_54 (tgt := 151) (by have n0 := lv_neT (a := 0) c8 (by decide); have n1 := lv_neT (a := 1) c10 (by decide); have n2 := lv_neT (a := 2) c13 (by decide); have n3 := lv_neT (a := 3) c15 (by decide); have n4 := lv_neT (a := 4) c17 (by decide); have n5 := lv_neT (a := 5) c18 (by decide); have n6 := lv_neT (a := 6) c19 (by decide); have n7 := lv_neT (a := 7) c20 (by decide); omega) (by decide) ?_
                  refine j_iconst h (v := 0) dX2_perform_151 (by decide) ?_
                  subst hq1 hq2 hq3 hq4 hq5 hq6 hq7
                  have E : fX2_performA σ x1 = (0, σ) := j_ig c8 (j_ig c10 (j_ig c13 (j_ig c15 (j_ig c17 (j_ig c18 (j_ig c19 (j_ig c20 rfl)))))))
                  exact j_ireturn h hr (congrArg Prod.fst E).symm (congrArg (fun z => fx a cI cZ z.2) E).symm dX2_perform_152
theorem fr_fX2_performA (σ : St) (x1 : Int32) : Fr (fX2_performA σ x1).2 σ := by
  by_cases c0 : (fX3_kindOf σ x1) = 0
  ·
    have E : fX2_performA σ x1 = ((fX2_writeA σ (fX3_written σ x1) (((fX2_valueOfA σ (fX3_firstRead σ x1)) + (fX2_valueOfA σ (fX3_secondRead σ x1))) + (fX3_number σ x1))).1, (fX2_writeA σ (fX3_written σ x1) (((fX2_valueOfA σ (fX3_firstRead σ x1)) + (fX2_valueOfA σ (fX3_secondRead σ x1))) + (fX3_number σ x1))).2) := j_ip c0 rfl
    rw [E]
    exact (Fr.tr (fr_fX2_writeA _ _ _) (Fr.rf _))
  ·
    by_cases c1 : (fX3_kindOf σ x1) = 1
    ·
      have E : fX2_performA σ x1 = ((fX2_writeA σ (fX3_written σ x1) (fX2_valueAtA σ (fX2_valueOfA σ (fX3_firstRead σ x1)))).1, (fX2_writeA σ (fX3_written σ x1) (fX2_valueAtA σ (fX2_valueOfA σ (fX3_firstRead σ x1)))).2) := j_ig c0 (j_ip c1 rfl)
      rw [E]
      exact (Fr.tr (fr_fX2_writeA _ _ _) (Fr.rf _))
    ·
      by_cases c2 : (fX3_kindOf σ x1) = 2
      ·
        have E : fX2_performA σ x1 = ((fX2_storeA σ (fX2_valueOfA σ (fX3_firstRead σ x1)) (fX2_valueOfA σ (fX3_secondRead σ x1))).1, (fX2_storeA σ (fX2_valueOfA σ (fX3_firstRead σ x1)) (fX2_valueOfA σ (fX3_secondRead σ x1))).2) := j_ig c0 (j_ig c1 (j_ip c2 rfl))
        rw [E]
        exact (Fr.tr (fr_fX2_storeA _ _ _) (Fr.rf _))
      ·
        by_cases c3 : (fX3_kindOf σ x1) = 3
        ·
          have E : fX2_performA σ x1 = ((fX2_writeA σ (fX3_written σ x1) ((fX2_valueOfA σ (fX3_firstRead σ x1)) * (fX2_valueOfA σ (fX3_secondRead σ x1)))).1, (fX2_writeA σ (fX3_written σ x1) ((fX2_valueOfA σ (fX3_firstRead σ x1)) * (fX2_valueOfA σ (fX3_secondRead σ x1)))).2) := j_ig c0 (j_ig c1 (j_ig c2 (j_ip c3 rfl)))
          rw [E]
          exact (Fr.tr (fr_fX2_writeA _ _ _) (Fr.rf _))
        ·
          by_cases c4 : (fX3_kindOf σ x1) = 4
          ·
            have E : fX2_performA σ x1 = (0, σ) := j_ig c0 (j_ig c1 (j_ig c2 (j_ig c3 (j_ip c4 rfl))))
            rw [E]
            exact (Fr.rf _)
          ·
            by_cases c5 : (fX3_kindOf σ x1) = 5
            ·
              have E : fX2_performA σ x1 = (0, σ) := j_ig c0 (j_ig c1 (j_ig c2 (j_ig c3 (j_ig c4 (j_ip c5 rfl)))))
              rw [E]
              exact (Fr.rf _)
            ·
              by_cases c6 : (fX3_kindOf σ x1) = 6
              ·
                have E : fX2_performA σ x1 = (0, σ) := j_ig c0 (j_ig c1 (j_ig c2 (j_ig c3 (j_ig c4 (j_ig c5 (j_ip c6 rfl))))))
                rw [E]
                exact (Fr.rf _)
              ·
                by_cases c7 : (fX3_kindOf σ x1) = 7
                ·
                  have E : fX2_performA σ x1 = ((fX2_writeA σ (fX3_written σ x1) (fX3_number σ x1)).1, (fX2_writeA σ (fX3_written σ x1) (fX3_number σ x1)).2) := j_ig c0 (j_ig c1 (j_ig c2 (j_ig c3 (j_ig c4 (j_ig c5 (j_ig c6 (j_ip c7 rfl)))))))
                  rw [E]
                  exact (Fr.tr (fr_fX2_writeA _ _ _) (Fr.rf _))
                ·
                  have E : fX2_performA σ x1 = (0, σ) := j_ig c0 (j_ig c1 (j_ig c2 (j_ig c3 (j_ig c4 (j_ig c5 (j_ig c6 (j_ig c7 rfl)))))))
                  rw [E]
                  exact (Fr.rf _)
end
section
def fX2_beginAnewL (σ : St) : St := (ar (ar σ 14 (fillF 8 0 (σ.2 14))) 15 (fillF 64 0 (σ.2 15)))
def rmX2_beginAnewL : Room := { frames := 1, cells := 0, slots := 0, locals := 23 }
set_option maxRecDepth 100000 in
set_option maxHeartbeats 4000000 in
theorem kX2_beginAnewL (l : Launch) (D : va_G) (a : Nat → Nat) (cI cZ : ClassId) (σ : St) : Cv l yX2_beginAnew cX2_beginAnew 1 none TB rmX2_beginAnewL D vwCl [(cI, .int), (cZ, .boolean)] [.ref (a 22)] (fx a cI cZ σ) (fun _ => (fx a cI cZ (fX2_beginAnewL σ))) 0 0 := by
  refine Cv_of (cc := cX2_beginAnew) (maxL := 1) (ret := none) (by decide +kernel) TBg (Nat.le_of_ble_eq_true rfl) ?_
  intro p e s m args below meth c A h hr hname
  refine j_aload_n h 0 dX2_beginAnew_0 rfl rfl ?_
  refine j_get h iX2 22 rfl rfl 1 (by decide) tb1_193 rfl (v := .ref (a 23)) rfl dX2_beginAnew_1 ?_
  refine j_iconst h (v := 0) dX2_beginAnew_4 (by decide) ?_
  refine j_callSvG h (kJ7_fill l D cI cZ (a 23) 8 (σ.2 14) 0 (by decide)) tb2_58 tb1_106 tb1_7 tb1_107 ⟨rfl, rfl⟩ (n := 2) (by decide +kernel) ⟨Nat.le_of_ble_eq_true rfl, Nat.le_of_ble_eq_true rfl⟩ (As := [.ref (a 23), .int 0]) rfl (st := []) rfl (Nat.le_of_ble_eq_true rfl) dX2_beginAnew_5 ⟨Nat.zero_le _, Nat.zero_le _⟩ [23] [0, 1, 2, 3, 4, 5, 6, 7, 8, 9, 10, 11, 12, 13, 14, 15, 16, 17, 18, 19, 20, 21, 22, 24] [0, 1, 2, 3, 4, 5, 6, 7, 8, 9, 10, 11, 12, 13, 14, 15, 16, 17, 18, 19, 20, 21, 22, 24, 23] rfl rfl (wr := ((fx a cI cZ σ).eraseIdx 23)) rfl rfl (by decide) (w2 := (fx a cI cZ (ar σ 14 (fillF 8 0 (σ.2 14))))) rfl rfl ?_
  refine j_aload_n h 0 dX2_beginAnew_8 rfl rfl ?_
  refine j_get h iX2 22 rfl rfl 2 (by decide) tb1_194 rfl (v := .ref (a 24)) rfl dX2_beginAnew_9 ?_
  refine j_iconst h (v := 0) dX2_beginAnew_12 (by decide) ?_
  refine j_callSvG h (kJ7_fill l D cI cZ (a 24) 64 (σ.2 15) 0 (by decide)) tb2_58 tb1_106 tb1_7 tb1_107 ⟨rfl, rfl⟩ (n := 2) (by decide +kernel) ⟨Nat.le_of_ble_eq_true rfl, Nat.le_of_ble_eq_true rfl⟩ (As := [.ref (a 24), .int 0]) rfl (st := []) rfl (Nat.le_of_ble_eq_true rfl) dX2_beginAnew_13 ⟨Nat.zero_le _, Nat.zero_le _⟩ [24] [0, 1, 2, 3, 4, 5, 6, 7, 8, 9, 10, 11, 12, 13, 14, 15, 16, 17, 18, 19, 20, 21, 22, 23] [0, 1, 2, 3, 4, 5, 6, 7, 8, 9, 10, 11, 12, 13, 14, 15, 16, 17, 18, 19, 20, 21, 22, 23, 24] rfl rfl (wr := ((fx a cI cZ (ar σ 14 (fillF 8 0 (σ.2 14)))).eraseIdx 24)) rfl rfl (by decide) (w2 := (fx a cI cZ (ar (ar σ 14 (fillF 8 0 (σ.2 14))) 15 (fillF 64 0 (σ.2 15))))) rfl rfl ?_
  have E : fX2_beginAnewL σ = (ar (ar σ 14 (fillF 8 0 (σ.2 14))) 15 (fillF 64 0 (σ.2 15))) := rfl
  exact j_vreturn h hr (fun _ => 0) (congrArg (fx a cI cZ) E).symm dX2_beginAnew_16
theorem fr_fX2_beginAnewL (σ : St) : Fr (fX2_beginAnewL σ) σ := by
  have E : fX2_beginAnewL σ = (ar (ar σ 14 (fillF 8 0 (σ.2 14))) 15 (fillF 64 0 (σ.2 15))) := rfl
  rw [E]
  exact (Fr.tr Fr.ar (Fr.tr Fr.ar (Fr.rf _)))
def fX2_valueOfL (σ : St) (x1 : Int32) : Int32 := (if x1 < 0 then 0 else (if 8 ≤ x1 then 0 else ((σ.2 14) x1.toNatClampNeg)))
def rmX2_valueOfL : Room := { frames := 0, cells := 0, slots := 0, locals := 0 }
set_option maxRecDepth 100000 in
set_option maxHeartbeats 4000000 in
theorem kX2_valueOfL (l : Launch) (D : va_G) (a : Nat → Nat) (cI cZ : ClassId) (σ : St) (x1 : Int32) : Ci l yX2_valueOf cX2_valueOf 2 (some .int) TB rmX2_valueOfL D vwCl [(cI, .int), (cZ, .boolean)] [.ref (a 22), .int x1] (fx a cI cZ σ) (fx a cI cZ σ) (fX2_valueOfL σ x1) := by
  refine Ci_of (cc := cX2_valueOf) (maxL := 2) (ret := (some .int)) (by decide +kernel) TBg (Nat.le_of_ble_eq_true rfl) ?_
  intro p e s m args below meth c A h hr
  refine j_iload_n h 1 dX2_valueOf_0 rfl rfl ?_
  refine j_if_lt h dX2_valueOf_1 (tgt := 19) (by decide) (fun c1 => ?_) (fun c1 => ?_)
  ·
    refine j_iconst h (v := 0) dX2_valueOf_19 (by decide) ?_
    have E : fX2_valueOfL σ x1 = 0 := j_ip c1 rfl
    exact j_ireturn h hr E.symm rfl dX2_valueOf_20
  ·
    refine j_iload_n h 1 dX2_valueOf_4 rfl rfl ?_
    refine j_bipush h (v := 8) dX2_valueOf_5 (by decide) ?_
    refine j_icmp_ge h dX2_valueOf_7 (tgt := 19) (by decide) (fun c2 => ?_) (fun c2 => ?_)
    ·
      refine j_iconst h (v := 0) dX2_valueOf_19 (by decide) ?_
      have E : fX2_valueOfL σ x1 = 0 := j_ig c1 (j_ip c2 rfl)
      exact j_ireturn h hr E.symm rfl dX2_valueOf_20
    ·
      refine j_aload_n h 0 dX2_valueOf_10 rfl rfl ?_
      refine j_get h iX2 22 rfl rfl 1 (by decide) tb1_193 rfl (v := .ref (a 23)) rfl dX2_valueOf_11 ?_
      refine j_iload_n h 1 dX2_valueOf_14 rfl rfl ?_
      refine j_iald h 23 0 rfl rfl (j_in8 (j_lo1 c1) (j_hi1 c2)) dX2_valueOf_15 ?_
      refine j_goto h dX2_valueOf_16 (tgt := 20) (by decide) ?_
      have E : fX2_valueOfL σ x1 = ((σ.2 14) x1.toNatClampNeg) := j_ig c1 (j_ig c2 rfl)
      exact j_ireturn h hr E.symm rfl dX2_valueOf_20
def fX2_valueAtL (σ : St) (x1 : Int32) : Int32 := ((σ.2 15) (fm x1 64).toNatClampNeg)
def rmX2_valueAtL : Room := { frames := 1, cells := 0, slots := 0, locals := 22 }
set_option maxRecDepth 100000 in
set_option maxHeartbeats 4000000 in
theorem kX2_valueAtL (l : Launch) (D : va_G) (a : Nat → Nat) (cI cZ : ClassId) (σ : St) (x1 : Int32) : Ci l yX2_valueAt cX2_valueAt 2 (some .int) TB rmX2_valueAtL D vwCl [(cI, .int), (cZ, .boolean)] [.ref (a 22), .int x1] (fx a cI cZ σ) (fx a cI cZ σ) (fX2_valueAtL σ x1) := by
  refine Ci_of (cc := cX2_valueAt) (maxL := 2) (ret := (some .int)) (by decide +kernel) TBg (Nat.le_of_ble_eq_true rfl) ?_
  intro p e s m args below meth c A h hr
  refine j_aload_n h 0 dX2_valueAt_0 rfl rfl ?_
  refine j_get h iX2 22 rfl rfl 2 (by decide) tb1_194 rfl (v := .ref (a 24)) rfl dX2_valueAt_1 ?_
  refine j_iload_n h 1 dX2_valueAt_4 rfl rfl ?_
  refine j_bipush h (v := 64) dX2_valueAt_5 (by decide) ?_
  refine j_callSi0 h (kJ9_floorMod l D cI cZ x1 64 (by decide)) tb3_50 tb1_37 tb1_3 tb1_38 ⟨rfl, rfl⟩ (n := 2) (by decide +kernel) ⟨Nat.le_of_ble_eq_true rfl, Nat.le_of_ble_eq_true rfl⟩ (As := [.int x1, .int 64]) rfl (st := [.ref (a 24)]) rfl (Nat.le_of_ble_eq_true rfl) dX2_valueAt_7 ⟨Nat.zero_le _, Nat.zero_le _⟩ ?_
  refine j_iald h 24 0 rfl rfl (fm_in64 _) dX2_valueAt_10 ?_
  have E : fX2_valueAtL σ x1 = ((σ.2 15) (fm x1 64).toNatClampNeg) := rfl
  exact j_ireturn h hr E.symm rfl dX2_valueAt_11
def fX2_goesL (σ : St) (x1 : Int32) : Int32 := (let q1 := (fX3_kindOf σ x1); (if q1 = 4 then (let q3 := (fX3_firstRead σ x1); (let q4 := (fX2_valueOfL σ q3); (if q4 = 0 then 0 else 1))) else 0))
def rmX2_goesL : Room := { frames := 1, cells := 0, slots := 0, locals := 21 }
set_option maxRecDepth 100000 in
set_option maxHeartbeats 4000000 in
theorem kX2_goesL (l : Launch) (D : va_G) (a : Nat → Nat) (cI cZ : ClassId) (σ : St) (x1 : Int32) : Ci l yX2_goes cX2_goes 2 (some .boolean) TB rmX2_goesL D vwCl [(cI, .int), (cZ, .boolean)] [.ref (a 22), .int x1] (fx a cI cZ σ) (fx a cI cZ σ) (fX2_goesL σ x1) := by
  refine Ci_of (cc := cX2_goes) (maxL := 2) (ret := (some .boolean)) (by decide +kernel) TBg (Nat.le_of_ble_eq_true rfl) ?_
  intro p e s m args below meth c A h hr
  refine j_aload_n h 0 dX2_goes_0 rfl rfl ?_
  refine j_get h iX2 22 rfl rfl 0 (by decide) tb1_192 rfl (v := .ref (a 2)) rfl dX2_goes_1 ?_
  refine j_iload_n h 1 dX2_goes_4 rfl rfl ?_
  refine j_callVi h (kX3_kindOf l D a cI cZ σ x1) tb3_41 tb3_0 tb3_1 tb1_4 tb3_2 ⟨rfl, rfl⟩ (n := 1) (by decide +kernel) ⟨Nat.le_of_ble_eq_true rfl, Nat.le_of_ble_eq_true rfl⟩ (As := [.int x1]) rfl (ci := 3) (q0 := 2) rfl rfl (st := []) rfl (Nat.le_of_ble_eq_true rfl) dX2_goes_5 ⟨Nat.zero_le _, Nat.zero_le _⟩ ?_
  generalize hq1 : (fX3_kindOf σ x1) = q1
  refine j_iconst h (v := 4) dX2_goes_8 (by decide) ?_
  refine j_icmp_ne h dX2_goes_9 (tgt := 31) (by decide) (fun c2 => ?_) (fun c2 => ?_)
  ·
    refine j_iconst h (v := 0) dX2_goes_31 (by decide) ?_
    subst hq1
    have E : fX2_goesL σ x1 = 0 := j_ig c2 rfl
    exact j_zreturn h hr (by decide) E.symm rfl dX2_goes_32
  ·
    refine j_aload_n h 0 dX2_goes_12 rfl rfl ?_
    refine j_aload_n h 0 dX2_goes_13 rfl rfl ?_
    refine j_get h iX2 22 rfl rfl 0 (by decide) tb1_192 rfl (v := .ref (a 2)) rfl dX2_goes_14 ?_
    refine j_iload_n h 1 dX2_goes_17 rfl rfl ?_
    refine j_callVi h (kX3_firstRead l D a cI cZ σ x1) tb3_21 tb3_22 tb3_23 tb1_4 tb3_24 ⟨rfl, rfl⟩ (n := 1) (by decide +kernel) ⟨Nat.le_of_ble_eq_true rfl, Nat.le_of_ble_eq_true rfl⟩ (As := [.int x1]) rfl (ci := 3) (q0 := 2) rfl rfl (st := [.ref (a 22)]) rfl (Nat.le_of_ble_eq_true rfl) dX2_goes_18 ⟨Nat.zero_le _, Nat.zero_le _⟩ ?_
    generalize hq3 : (fX3_firstRead σ x1) = q3
    refine j_callVi h (kX2_valueOfL l D a cI cZ σ q3) tb3_25 tb3_26 tb3_27 tb1_10 tb3_28 ⟨rfl, rfl⟩ (n := 1) (by decide +kernel) ⟨Nat.le_of_ble_eq_true rfl, Nat.le_of_ble_eq_true rfl⟩ (As := [.int q3]) rfl (ci := 2) (q0 := 22) rfl rfl (st := []) rfl (Nat.le_of_ble_eq_true rfl) dX2_goes_21 ⟨Nat.zero_le _, Nat.zero_le _⟩ ?_
    generalize hq4 : (fX2_valueOfL σ q3) = q4
    refine j_if_eq h dX2_goes_24 (tgt := 31) (by decide) (fun c5 => ?_) (fun c5 => ?_)
    ·
      refine j_iconst h (v := 0) dX2_goes_31 (by decide) ?_
      subst hq1 hq3 hq4
      have E : fX2_goesL σ x1 = 0 := j_ip c2 (j_ip c5 rfl)
      exact j_zreturn h hr (by decide) E.symm rfl dX2_goes_32
    ·
      refine j_iconst h (v := 1) dX2_goes_27 (by decide) ?_
      refine j_goto h dX2_goes_28 (tgt := 32) (by decide) ?_
      subst hq1 hq3 hq4
      have E : fX2_goesL σ x1 = 1 := j_ip c2 (j_ig c5 rfl)
      exact j_zreturn h hr (by decide) E.symm rfl dX2_goes_32
def fX2_writeL (σ : St) (x1 x2 : Int32) : Int32 × St := (if x1 < 0 then (x2, σ) else (if 8 ≤ x1 then (x2, σ) else (x2, (ar σ 14 (upd (σ.2 14) x1.toNatClampNeg x2)))))
def rmX2_writeL : Room := { frames := 0, cells := 0, slots := 0, locals := 0 }
set_option maxRecDepth 100000 in
set_option maxHeartbeats 4000000 in
theorem kX2_writeL (l : Launch) (D : va_G) (a : Nat → Nat) (cI cZ : ClassId) (σ : St) (x1 x2 : Int32) : Ci l yX2_write cX2_write 3 (some .int) TB rmX2_writeL D vwCl [(cI, .int), (cZ, .boolean)] [.ref (a 22), .int x1, .int x2] (fx a cI cZ σ) (fx a cI cZ (fX2_writeL σ x1 x2).2) (fX2_writeL σ x1 x2).1 := by
  refine Ci_of (cc := cX2_write) (maxL := 3) (ret := (some .int)) (by decide +kernel) TBg (Nat.le_of_ble_eq_true rfl) ?_
  intro p e s m args below meth c A h hr
  refine j_iload_n h 1 dX2_write_0 rfl rfl ?_
  refine j_if_lt h dX2_write_1 (tgt := 17) (by decide) (fun c1 => ?_) (fun c1 => ?_)
  ·
    refine j_iload_n h 2 dX2_write_17 rfl rfl ?_
    have E : fX2_writeL σ x1 x2 = (x2, σ) := j_ip c1 rfl
    exact j_ireturn h hr (congrArg Prod.fst E).symm (congrArg (fun z => fx a cI cZ z.2) E).symm dX2_write_18
  ·
    refine j_iload_n h 1 dX2_write_4 rfl rfl ?_
    refine j_bipush h (v := 8) dX2_write_5 (by decide) ?_
    refine j_icmp_ge h dX2_write_7 (tgt := 17) (by decide) (fun c2 => ?_) (fun c2 => ?_)
    ·
      refine j_iload_n h 2 dX2_write_17 rfl rfl ?_
      have E : fX2_writeL σ x1 x2 = (x2, σ) := j_ig c1 (j_ip c2 rfl)
      exact j_ireturn h hr (congrArg Prod.fst E).symm (congrArg (fun z => fx a cI cZ z.2) E).symm dX2_write_18
    ·
      refine j_aload_n h 0 dX2_write_10 rfl rfl ?_
      refine j_get h iX2 22 rfl rfl 1 (by decide) tb1_193 rfl (v := .ref (a 23)) rfl dX2_write_11 ?_
      refine j_iload_n h 1 dX2_write_14 rfl rfl ?_
      refine j_iload_n h 2 dX2_write_15 rfl rfl ?_
      refine j_iast h 23 0 rfl rfl (j_in8 (j_lo1 c1) (j_hi1 c2)) (w' := (fx a cI cZ (ar σ 14 (upd (σ.2 14) x1.toNatClampNeg x2)))) rfl dX2_write_16 ?_
      refine j_iload_n h 2 dX2_write_17 rfl rfl ?_
      have E : fX2_writeL σ x1 x2 = (x2, (ar σ 14 (upd (σ.2 14) x1.toNatClampNeg x2))) := j_ig c1 (j_ig c2 rfl)
      exact j_ireturn h hr (congrArg Prod.fst E).symm (congrArg (fun z => fx a cI cZ z.2) E).symm dX2_write_18
theorem fr_fX2_writeL (σ : St) (x1 x2 : Int32) : Fr (fX2_writeL σ x1 x2).2 σ := by
  by_cases c0 : x1 < 0
  ·
    have E : fX2_writeL σ x1 x2 = (x2, σ) := j_ip c0 rfl
    rw [E]
    exact (Fr.rf _)
  ·
    by_cases c1 : 8 ≤ x1
    ·
      have E : fX2_writeL σ x1 x2 = (x2, σ) := j_ig c0 (j_ip c1 rfl)
      rw [E]
      exact (Fr.rf _)
    ·
      have E : fX2_writeL σ x1 x2 = (x2, (ar σ 14 (upd (σ.2 14) x1.toNatClampNeg x2))) := j_ig c0 (j_ig c1 rfl)
      rw [E]
      exact (Fr.tr Fr.ar (Fr.rf _))
def fX2_storeL (σ : St) (x1 x2 : Int32) : Int32 × St := (x2, (ar σ 15 (upd (σ.2 15) (fm x1 64).toNatClampNeg x2)))
def rmX2_storeL : Room := { frames := 1, cells := 0, slots := 0, locals := 22 }
set_option maxRecDepth 100000 in
set_option maxHeartbeats 4000000 in
theorem kX2_storeL (l : Launch) (D : va_G) (a : Nat → Nat) (cI cZ : ClassId) (σ : St) (x1 x2 : Int32) : Ci l yX2_store cX2_store 3 (some .int) TB rmX2_storeL D vwCl [(cI, .int), (cZ, .boolean)] [.ref (a 22), .int x1, .int x2] (fx a cI cZ σ) (fx a cI cZ (fX2_storeL σ x1 x2).2) (fX2_storeL σ x1 x2).1 := by
  refine Ci_of (cc := cX2_store) (maxL := 3) (ret := (some .int)) (by decide +kernel) TBg (Nat.le_of_ble_eq_true rfl) ?_
  intro p e s m args below meth c A h hr
  refine j_aload_n h 0 dX2_store_0 rfl rfl ?_
  refine j_get h iX2 22 rfl rfl 2 (by decide) tb1_194 rfl (v := .ref (a 24)) rfl dX2_store_1 ?_
  refine j_iload_n h 1 dX2_store_4 rfl rfl ?_
  refine j_bipush h (v := 64) dX2_store_5 (by decide) ?_
  refine j_callSi0 h (kJ9_floorMod l D cI cZ x1 64 (by decide)) tb3_50 tb1_37 tb1_3 tb1_38 ⟨rfl, rfl⟩ (n := 2) (by decide +kernel) ⟨Nat.le_of_ble_eq_true rfl, Nat.le_of_ble_eq_true rfl⟩ (As := [.int x1, .int 64]) rfl (st := [.ref (a 24)]) rfl (Nat.le_of_ble_eq_true rfl) dX2_store_7 ⟨Nat.zero_le _, Nat.zero_le _⟩ ?_
  refine j_iload_n h 2 dX2_store_10 rfl rfl ?_
  refine j_iast h 24 0 rfl rfl (fm_in64 _) (w' := (fx a cI cZ (ar σ 15 (upd (σ.2 15) (fm x1 64).toNatClampNeg x2)))) rfl dX2_store_11 ?_
  refine j_iload_n h 2 dX2_store_12 rfl rfl ?_
  have E : fX2_storeL σ x1 x2 = (x2, (ar σ 15 (upd (σ.2 15) (fm x1 64).toNatClampNeg x2))) := rfl
  exact j_ireturn h hr (congrArg Prod.fst E).symm (congrArg (fun z => fx a cI cZ z.2) E).symm dX2_store_13
theorem fr_fX2_storeL (σ : St) (x1 x2 : Int32) : Fr (fX2_storeL σ x1 x2).2 σ := by
  have E : fX2_storeL σ x1 x2 = (x2, (ar σ 15 (upd (σ.2 15) (fm x1 64).toNatClampNeg x2))) := rfl
  rw [E]
  exact (Fr.tr Fr.ar (Fr.rf _))
def fX2_performL (σ : St) (x1 : Int32) : Int32 × St := (let q1 := (fX3_firstRead σ x1); (let q2 := (fX2_valueOfL σ q1); (let q3 := (fX3_secondRead σ x1); (let q4 := (fX2_valueOfL σ q3); (let q5 := (fX3_number σ x1); (let q6 := (fX3_written σ x1); (let q7 := (fX3_kindOf σ x1); (if q7 = 0 then (let q9 := (fX2_writeL σ q6 ((q2 + q4) + q5)); (q9.1, q9.2)) else (if q7 = 1 then (let q11 := (fX2_valueAtL σ q2); (let q12 := (fX2_writeL σ q6 q11); (q12.1, q12.2))) else (if q7 = 2 then (let q14 := (fX2_storeL σ q2 q4); (q14.1, q14.2)) else (if q7 = 3 then (let q16 := (fX2_writeL σ q6 (q2 * q4)); (q16.1, q16.2)) else (if q7 = 4 then (0, σ) else (if q7 = 5 then (0, σ) else (if q7 = 6 then (0, σ) else (if q7 = 7 then (let q21 := (fX2_writeL σ q6 q5); (q21.1, q21.2)) else (0, σ))))))))))))))))
def rmX2_performL : Room := { frames := 2, cells := 0, slots := 0, locals := 44 }
set_option maxRecDepth 100000 in
set_option maxHeartbeats 4000000 in
theorem kX2_performL (l : Launch) (D : va_G) (a : Nat → Nat) (cI cZ : ClassId) (σ : St) (x1 : Int32) : Ci l yX2_perform cX2_perform 6 (some .int) TB rmX2_performL D vwCl [(cI, .int), (cZ, .boolean)] [.ref (a 22), .int x1] (fx a cI cZ σ) (fx a cI cZ (fX2_performL σ x1).2) (fX2_performL σ x1).1 := by
  refine Ci_of (cc := cX2_perform) (maxL := 6) (ret := (some .int)) (by decide +kernel) TBg (Nat.le_of_ble_eq_true rfl) ?_
  intro p e s m args below meth c A h hr
  refine j_aload_n h 0 dX2_perform_0 rfl rfl ?_
  refine j_aload_n h 0 dX2_perform_1 rfl rfl ?_
  refine j_get h iX2 22 rfl rfl 0 (by decide) tb1_192 rfl (v := .ref (a 2)) rfl dX2_perform_2 ?_
  refine j_iload_n h 1 dX2_perform_5 rfl rfl ?_
  refine j_callVi h (kX3_firstRead l D a cI cZ σ x1) tb3_21 tb3_22 tb3_23 tb1_4 tb3_24 ⟨rfl, rfl⟩ (n := 1) (by decide +kernel) ⟨Nat.le_of_ble_eq_true rfl, Nat.le_of_ble_eq_true rfl⟩ (As := [.int x1]) rfl (ci := 3) (q0 := 2) rfl rfl (st := [.ref (a 22)]) rfl (Nat.le_of_ble_eq_true rfl) dX2_perform_6 ⟨Nat.zero_le _, Nat.zero_le _⟩ ?_
  generalize hq1 : (fX3_firstRead σ x1) = q1
  refine j_callVi h (kX2_valueOfL l D a cI cZ σ q1) tb3_25 tb3_26 tb3_27 tb1_10 tb3_28 ⟨rfl, rfl⟩ (n := 1) (by decide +kernel) ⟨Nat.le_of_ble_eq_true rfl, Nat.le_of_ble_eq_true rfl⟩ (As := [.int q1]) rfl (ci := 2) (q0 := 22) rfl rfl (st := []) rfl (Nat.le_of_ble_eq_true rfl) dX2_perform_9 ⟨Nat.zero_le _, Nat.zero_le _⟩ ?_
  generalize hq2 : (fX2_valueOfL σ q1) = q2
  refine j_istore_n h (lv' := [(2, .int q2), (0, .ref (a 22)), (1, .int x1)]) dX2_perform_12 rfl (by decide) rfl ?_
  refine j_aload_n h 1 dX2_perform_13 rfl rfl ?_
  refine j_aload_n h 1 dX2_perform_14 rfl rfl ?_
  refine j_get h iX2 22 rfl rfl 0 (by decide) tb1_192 rfl (v := .ref (a 2)) rfl dX2_perform_15 ?_
  refine j_iload_n h 2 dX2_perform_18 rfl rfl ?_
  refine j_callVi h (kX3_secondRead l D a cI cZ σ x1) tb3_29 tb3_30 tb3_31 tb1_4 tb3_32 ⟨rfl, rfl⟩ (n := 1) (by decide +kernel) ⟨Nat.le_of_ble_eq_true rfl, Nat.le_of_ble_eq_true rfl⟩ (As := [.int x1]) rfl (ci := 3) (q0 := 2) rfl rfl (st := [.ref (a 22)]) rfl (Nat.le_of_ble_eq_true rfl) dX2_perform_19 ⟨Nat.zero_le _, Nat.zero_le _⟩ ?_
  generalize hq3 : (fX3_secondRead σ x1) = q3
  refine j_callVi h (kX2_valueOfL l D a cI cZ σ q3) tb3_25 tb3_26 tb3_27 tb1_10 tb3_28 ⟨rfl, rfl⟩ (n := 1) (by decide +kernel) ⟨Nat.le_of_ble_eq_true rfl, Nat.le_of_ble_eq_true rfl⟩ (As := [.int q3]) rfl (ci := 2) (q0 := 22) rfl rfl (st := []) rfl (Nat.le_of_ble_eq_true rfl) dX2_perform_22 ⟨Nat.zero_le _, Nat.zero_le _⟩ ?_
  generalize hq4 : (fX2_valueOfL σ q3) = q4
  refine j_istore_n h (lv' := [(3, .int q4), (2, .int q2), (0, .ref (a 22)), (1, .int x1)]) dX2_perform_25 rfl (by decide) rfl ?_
  refine j_aload_n h 2 dX2_perform_26 rfl rfl ?_
  refine j_get h iX2 22 rfl rfl 0 (by decide) tb1_192 rfl (v := .ref (a 2)) rfl dX2_perform_27 ?_
  refine j_iload_n h 3 dX2_perform_30 rfl rfl ?_
  refine j_callVi h (kX3_number l D a cI cZ σ x1) tb3_33 tb3_34 tb3_35 tb1_4 tb3_36 ⟨rfl, rfl⟩ (n := 1) (by decide +kernel) ⟨Nat.le_of_ble_eq_true rfl, Nat.le_of_ble_eq_true rfl⟩ (As := [.int x1]) rfl (ci := 3) (q0 := 2) rfl rfl (st := []) rfl (Nat.le_of_ble_eq_true rfl) dX2_perform_31 ⟨Nat.zero_le _, Nat.zero_le _⟩ ?_
  generalize hq5 : (fX3_number σ x1) = q5
  refine j_istore h (lv' := [(4, .int q5), (3, .int q4), (2, .int q2), (0, .ref (a 22)), (1, .int x1)]) dX2_perform_34 (by decide) rfl ?_
  refine j_aload_n h 3 dX2_perform_36 rfl rfl ?_
  refine j_get h iX2 22 rfl rfl 0 (by decide) tb1_192 rfl (v := .ref (a 2)) rfl dX2_perform_37 ?_
  refine j_iload_n h 4 dX2_perform_40 rfl rfl ?_
  refine j_callVi h (kX3_written l D a cI cZ σ x1) tb3_37 tb3_38 tb3_39 tb1_4 tb3_40 ⟨rfl, rfl⟩ (n := 1) (by decide +kernel) ⟨Nat.le_of_ble_eq_true rfl, Nat.le_of_ble_eq_true rfl⟩ (As := [.int x1]) rfl (ci := 3) (q0 := 2) rfl rfl (st := []) rfl (Nat.le_of_ble_eq_true rfl) dX2_perform_41 ⟨Nat.zero_le _, Nat.zero_le _⟩ ?_
  generalize hq6 : (fX3_written σ x1) = q6
  refine j_istore h (lv' := [(5, .int q6), (4, .int q5), (3, .int q4), (2, .int q2), (0, .ref (a 22)), (1, .int x1)]) dX2_perform_44 (by decide) rfl ?_
  refine j_aload_n h 4 dX2_perform_46 rfl rfl ?_
  refine j_get h iX2 22 rfl rfl 0 (by decide) tb1_192 rfl (v := .ref (a 2)) rfl dX2_perform_47 ?_
  refine j_iload_n h 5 dX2_perform_50 rfl rfl ?_
  refine j_callVi h (kX3_kindOf l D a cI cZ σ x1) tb3_41 tb3_0 tb3_1 tb1_4 tb3_2 ⟨rfl, rfl⟩ (n := 1) (by decide +kernel) ⟨Nat.le_of_ble_eq_true rfl, Nat.le_of_ble_eq_true rfl⟩ (As := [.int x1]) rfl (ci := 3) (q0 := 2) rfl rfl (st := []) rfl (Nat.le_of_ble_eq_true rfl) dX2_perform_51 ⟨Nat.zero_le _, Nat.zero_le _⟩ ?_
  generalize hq7 : (fX3_kindOf σ x1) = q7
  by_cases c8 : q7 = 0
  ·
    refine j_tableIn h dX2_perform_54 (off := 46) (tgt := 100) (by rw [c8]; decide) (by rw [c8]; decide) (by rw [c8]; decide) (by decide) ?_
    refine j_aload_n h 4 dX2_perform_100 rfl rfl ?_
    refine j_iload h 0 dX2_perform_101 rfl ?_
    refine j_iload_n h 3 dX2_perform_103 rfl rfl ?_
    refine j_iload_n h 2 dX2_perform_104 rfl rfl ?_
    refine j_iadd h dX2_perform_105 ?_
    refine j_iload h 1 dX2_perform_106 rfl ?_
    refine j_iadd h dX2_perform_108 ?_
    refine j_callVi h (kX2_writeL l D a cI cZ σ q6 ((q2 + q4) + q5)) tb3_42 tb3_44 tp_4 tb1_10 tb3_45 ⟨rfl, rfl⟩ (n := 2) (by decide +kernel) ⟨Nat.le_of_ble_eq_true rfl, Nat.le_of_ble_eq_true rfl⟩ (As := [.int q6, .int ((q2 + q4) + q5)]) rfl (ci := 2) (q0 := 22) rfl rfl (st := []) rfl (Nat.le_of_ble_eq_true rfl) dX2_perform_109 ⟨Nat.zero_le _, Nat.zero_le _⟩ ?_
    generalize hq9 : (fX2_writeL σ q6 ((q2 + q4) + q5)) = q9
    subst hq1 hq2 hq3 hq4 hq5 hq6 hq7 hq9
    have E : fX2_performL σ x1 = ((fX2_writeL σ (fX3_written σ x1) (((fX2_valueOfL σ (fX3_firstRead σ x1)) + (fX2_valueOfL σ (fX3_secondRead σ x1))) + (fX3_number σ x1))).1, (fX2_writeL σ (fX3_written σ x1) (((fX2_valueOfL σ (fX3_firstRead σ x1)) + (fX2_valueOfL σ (fX3_secondRead σ x1))) + (fX3_number σ x1))).2) := j_ip c8 rfl
    exact j_ireturn h hr (congrArg Prod.fst E).symm (congrArg (fun z => fx a cI cZ z.2) E).symm dX2_perform_112
  ·
    by_cases c10 : q7 = 1
    ·
      refine j_tableIn h dX2_perform_54 (off := 59) (tgt := 113) (by rw [c10]; decide) (by rw [c10]; decide) (by rw [c10]; decide) (by decide) ?_
      refine j_aload_n h 4 dX2_perform_113 rfl rfl ?_
      refine j_iload h 0 dX2_perform_114 rfl ?_
      refine j_aload_n h 4 dX2_perform_116 rfl rfl ?_
      refine j_iload_n h 3 dX2_perform_117 rfl rfl ?_
      refine j_callVi h (kX2_valueAtL l D a cI cZ σ q2) tb3_46 tb3_47 tb3_48 tb1_10 tb3_49 ⟨rfl, rfl⟩ (n := 1) (by decide +kernel) ⟨Nat.le_of_ble_eq_true rfl, Nat.le_of_ble_eq_true rfl⟩ (As := [.int q2]) rfl (ci := 2) (q0 := 22) rfl rfl (st := [.int q6, .ref (a 22)]) rfl (Nat.le_of_ble_eq_true rfl) dX2_perform_118 ⟨Nat.zero_le _, Nat.zero_le _⟩ ?_
      generalize hq11 : (fX2_valueAtL σ q2) = q11
      refine j_callVi h (kX2_writeL l D a cI cZ σ q6 q11) tb3_42 tb3_44 tp_4 tb1_10 tb3_45 ⟨rfl, rfl⟩ (n := 2) (by decide +kernel) ⟨Nat.le_of_ble_eq_true rfl, Nat.le_of_ble_eq_true rfl⟩ (As := [.int q6, .int q11]) rfl (ci := 2) (q0 := 22) rfl rfl (st := []) rfl (Nat.le_of_ble_eq_true rfl) dX2_perform_121 ⟨Nat.zero_le _, Nat.zero_le _⟩ ?_
      generalize hq12 : (fX2_writeL σ q6 q11) = q12
      subst hq1 hq2 hq3 hq4 hq5 hq6 hq7 hq11 hq12
      have E : fX2_performL σ x1 = ((fX2_writeL σ (fX3_written σ x1) (fX2_valueAtL σ (fX2_valueOfL σ (fX3_firstRead σ x1)))).1, (fX2_writeL σ (fX3_written σ x1) (fX2_valueAtL σ (fX2_valueOfL σ (fX3_firstRead σ x1)))).2) := j_ig c8 (j_ip c10 rfl)
      exact j_ireturn h hr (congrArg Prod.fst E).symm (congrArg (fun z => fx a cI cZ z.2) E).symm dX2_perform_124
    ·
      by_cases c13 : q7 = 2
      ·
        refine j_tableIn h dX2_perform_54 (off := 71) (tgt := 125) (by rw [c13]; decide) (by rw [c13]; decide) (by rw [c13]; decide) (by decide) ?_
        refine j_aload_n h 4 dX2_perform_125 rfl rfl ?_
        refine j_iload_n h 3 dX2_perform_126 rfl rfl ?_
        refine j_iload_n h 2 dX2_perform_127 rfl rfl ?_
        refine j_callVi h (kX2_storeL l D a cI cZ σ q2 q4) tb3_51 tb3_53 tp_5 tb1_10 tb3_54 ⟨rfl, rfl⟩ (n := 2) (by decide +kernel) ⟨Nat.le_of_ble_eq_true rfl, Nat.le_of_ble_eq_true rfl⟩ (As := [.int q2, .int q4]) rfl (ci := 2) (q0 := 22) rfl rfl (st := []) rfl (Nat.le_of_ble_eq_true rfl) dX2_perform_128 ⟨Nat.zero_le _, Nat.zero_le _⟩ ?_
        generalize hq14 : (fX2_storeL σ q2 q4) = q14
        subst hq1 hq2 hq3 hq4 hq5 hq6 hq7 hq14
        have E : fX2_performL σ x1 = ((fX2_storeL σ (fX2_valueOfL σ (fX3_firstRead σ x1)) (fX2_valueOfL σ (fX3_secondRead σ x1))).1, (fX2_storeL σ (fX2_valueOfL σ (fX3_firstRead σ x1)) (fX2_valueOfL σ (fX3_secondRead σ x1))).2) := j_ig c8 (j_ig c10 (j_ip c13 rfl))
        exact j_ireturn h hr (congrArg Prod.fst E).symm (congrArg (fun z => fx a cI cZ z.2) E).symm dX2_perform_131
      ·
        by_cases c15 : q7 = 3
        ·
          refine j_tableIn h dX2_perform_54 (off := 78) (tgt := 132) (by rw [c15]; decide) (by rw [c15]; decide) (by rw [c15]; decide) (by decide) ?_
          refine j_aload_n h 4 dX2_perform_132 rfl rfl ?_
          refine j_iload h 0 dX2_perform_133 rfl ?_
          refine j_iload_n h 3 dX2_perform_135 rfl rfl ?_
          refine j_iload_n h 2 dX2_perform_136 rfl rfl ?_
          refine j_imul h dX2_perform_137 ?_
          refine j_callVi h (kX2_writeL l D a cI cZ σ q6 (q2 * q4)) tb3_42 tb3_44 tp_4 tb1_10 tb3_45 ⟨rfl, rfl⟩ (n := 2) (by decide +kernel) ⟨Nat.le_of_ble_eq_true rfl, Nat.le_of_ble_eq_true rfl⟩ (As := [.int q6, .int (q2 * q4)]) rfl (ci := 2) (q0 := 22) rfl rfl (st := []) rfl (Nat.le_of_ble_eq_true rfl) dX2_perform_138 ⟨Nat.zero_le _, Nat.zero_le _⟩ ?_
          generalize hq16 : (fX2_writeL σ q6 (q2 * q4)) = q16
          subst hq1 hq2 hq3 hq4 hq5 hq6 hq7 hq16
          have E : fX2_performL σ x1 = ((fX2_writeL σ (fX3_written σ x1) ((fX2_valueOfL σ (fX3_firstRead σ x1)) * (fX2_valueOfL σ (fX3_secondRead σ x1)))).1, (fX2_writeL σ (fX3_written σ x1) ((fX2_valueOfL σ (fX3_firstRead σ x1)) * (fX2_valueOfL σ (fX3_secondRead σ x1)))).2) := j_ig c8 (j_ig c10 (j_ig c13 (j_ip c15 rfl)))
          exact j_ireturn h hr (congrArg Prod.fst E).symm (congrArg (fun z => fx a cI cZ z.2) E).symm dX2_perform_141
        ·
          by_cases c17 : q7 = 4
          ·
            refine j_tableIn h dX2_perform_54 (off := 97) (tgt := 151) (by rw [c17]; decide) (by rw [c17]; decide) (by rw [c17]; decide) (by decide) ?_
            refine j_iconst h (v := 0) dX2_perform_151 (by decide) ?_
            subst hq1 hq2 hq3 hq4 hq5 hq6 hq7
            have E : fX2_performL σ x1 = (0, σ) := j_ig c8 (j_ig c10 (j_ig c13 (j_ig c15 (j_ip c17 rfl))))
            exact j_ireturn h hr (congrArg Prod.fst E).symm (congrArg (fun z => fx a cI cZ z.2) E).symm dX2_perform_152
          ·
            by_cases c18 : q7 = 5
            ·
              refine j_tableIn h dX2_perform_54 (off := 97) (tgt := 151) (by rw [c18]; decide) (by rw [c18]; decide) (by rw [c18]; decide) (by decide) ?_
              refine j_iconst h (v := 0) dX2_perform_151 (by decide) ?_
              subst hq1 hq2 hq3 hq4 hq5 hq6 hq7
              have E : fX2_performL σ x1 = (0, σ) := j_ig c8 (j_ig c10 (j_ig c13 (j_ig c15 (j_ig c17 (j_ip c18 rfl)))))
              exact j_ireturn h hr (congrArg Prod.fst E).symm (congrArg (fun z => fx a cI cZ z.2) E).symm dX2_perform_152
            ·
              by_cases c19 : q7 = 6
              ·
                refine j_tableIn h dX2_perform_54 (off := 97) (tgt := 151) (by rw [c19]; decide) (by rw [c19]; decide) (by rw [c19]; decide) (by decide) ?_
                refine j_iconst h (v := 0) dX2_perform_151 (by decide) ?_
                subst hq1 hq2 hq3 hq4 hq5 hq6 hq7
                have E : fX2_performL σ x1 = (0, σ) := j_ig c8 (j_ig c10 (j_ig c13 (j_ig c15 (j_ig c17 (j_ig c18 (j_ip c19 rfl))))))
                exact j_ireturn h hr (congrArg Prod.fst E).symm (congrArg (fun z => fx a cI cZ z.2) E).symm dX2_perform_152
              ·
                by_cases c20 : q7 = 7
                ·
                  refine j_tableIn h dX2_perform_54 (off := 88) (tgt := 142) (by rw [c20]; decide) (by rw [c20]; decide) (by rw [c20]; decide) (by decide) ?_
                  refine j_aload_n h 4 dX2_perform_142 rfl rfl ?_
                  refine j_iload h 0 dX2_perform_143 rfl ?_
                  refine j_iload h 1 dX2_perform_145 rfl ?_
                  refine j_callVi h (kX2_writeL l D a cI cZ σ q6 q5) tb3_42 tb3_44 tp_4 tb1_10 tb3_45 ⟨rfl, rfl⟩ (n := 2) (by decide +kernel) ⟨Nat.le_of_ble_eq_true rfl, Nat.le_of_ble_eq_true rfl⟩ (As := [.int q6, .int q5]) rfl (ci := 2) (q0 := 22) rfl rfl (st := []) rfl (Nat.le_of_ble_eq_true rfl) dX2_perform_147 ⟨Nat.zero_le _, Nat.zero_le _⟩ ?_
                  generalize hq21 : (fX2_writeL σ q6 q5) = q21
                  subst hq1 hq2 hq3 hq4 hq5 hq6 hq7 hq21
                  have E : fX2_performL σ x1 = ((fX2_writeL σ (fX3_written σ x1) (fX3_number σ x1)).1, (fX2_writeL σ (fX3_written σ x1) (fX3_number σ x1)).2) := j_ig c8 (j_ig c10 (j_ig c13 (j_ig c15 (j_ig c17 (j_ig c18 (j_ig c19 (j_ip c20 rfl)))))))
                  exact j_ireturn h hr (congrArg Prod.fst E).symm (congrArg (fun z => fx a cI cZ z.2) E).symm dX2_perform_150
                ·
                  refine j_tableOut h dX2_perform_54 (tgt := 151) (by have n0 := lv_neT (a := 0) c8 (by decide); have n1 := lv_neT (a := 1) c10 (by decide); have n2 := lv_neT (a := 2) c13 (by decide); have n3 := lv_neT (a := 3) c15 (by decide); have n4 := lv_neT (a := 4) c17 (by decide); have n5 := lv_neT (a := 5) c18 (by decide); have n6 := lv_neT (a := 6) c19 (by decide); have n7 := lv_neT (a := 7) c20 (by decide); omega) (by decide) ?_
                  refine j_iconst h (v := 0) dX2_perform_151 (by decide) ?_
                  subst hq1 hq2 hq3 hq4 hq5 hq6 hq7
                  have E : fX2_performL σ x1 = (0, σ) := j_ig c8 (j_ig c10 (j_ig c13 (j_ig c15 (j_ig c17 (j_ig c18 (j_ig c19 (j_ig c20 rfl)))))))
                  exact j_ireturn h hr (congrArg Prod.fst E).symm (congrArg (fun z => fx a cI cZ z.2) E).symm dX2_perform_152
theorem fr_fX2_performL (σ : St) (x1 : Int32) : Fr (fX2_performL σ x1).2 σ := by
  by_cases c0 : (fX3_kindOf σ x1) = 0
  ·
    have E : fX2_performL σ x1 = ((fX2_writeL σ (fX3_written σ x1) (((fX2_valueOfL σ (fX3_firstRead σ x1)) + (fX2_valueOfL σ (fX3_secondRead σ x1))) + (fX3_number σ x1))).1, (fX2_writeL σ (fX3_written σ x1) (((fX2_valueOfL σ (fX3_firstRead σ x1)) + (fX2_valueOfL σ (fX3_secondRead σ x1))) + (fX3_number σ x1))).2) := j_ip c0 rfl
    rw [E]
    exact (Fr.tr (fr_fX2_writeL _ _ _) (Fr.rf _))
  ·
    by_cases c1 : (fX3_kindOf σ x1) = 1
    ·
      have E : fX2_performL σ x1 = ((fX2_writeL σ (fX3_written σ x1) (fX2_valueAtL σ (fX2_valueOfL σ (fX3_firstRead σ x1)))).1, (fX2_writeL σ (fX3_written σ x1) (fX2_valueAtL σ (fX2_valueOfL σ (fX3_firstRead σ x1)))).2) := j_ig c0 (j_ip c1 rfl)
      rw [E]
      exact (Fr.tr (fr_fX2_writeL _ _ _) (Fr.rf _))
    ·
      by_cases c2 : (fX3_kindOf σ x1) = 2
      ·
        have E : fX2_performL σ x1 = ((fX2_storeL σ (fX2_valueOfL σ (fX3_firstRead σ x1)) (fX2_valueOfL σ (fX3_secondRead σ x1))).1, (fX2_storeL σ (fX2_valueOfL σ (fX3_firstRead σ x1)) (fX2_valueOfL σ (fX3_secondRead σ x1))).2) := j_ig c0 (j_ig c1 (j_ip c2 rfl))
        rw [E]
        exact (Fr.tr (fr_fX2_storeL _ _ _) (Fr.rf _))
      ·
        by_cases c3 : (fX3_kindOf σ x1) = 3
        ·
          have E : fX2_performL σ x1 = ((fX2_writeL σ (fX3_written σ x1) ((fX2_valueOfL σ (fX3_firstRead σ x1)) * (fX2_valueOfL σ (fX3_secondRead σ x1)))).1, (fX2_writeL σ (fX3_written σ x1) ((fX2_valueOfL σ (fX3_firstRead σ x1)) * (fX2_valueOfL σ (fX3_secondRead σ x1)))).2) := j_ig c0 (j_ig c1 (j_ig c2 (j_ip c3 rfl)))
          rw [E]
          exact (Fr.tr (fr_fX2_writeL _ _ _) (Fr.rf _))
        ·
          by_cases c4 : (fX3_kindOf σ x1) = 4
          ·
            have E : fX2_performL σ x1 = (0, σ) := j_ig c0 (j_ig c1 (j_ig c2 (j_ig c3 (j_ip c4 rfl))))
            rw [E]
            exact (Fr.rf _)
          ·
            by_cases c5 : (fX3_kindOf σ x1) = 5
            ·
              have E : fX2_performL σ x1 = (0, σ) := j_ig c0 (j_ig c1 (j_ig c2 (j_ig c3 (j_ig c4 (j_ip c5 rfl)))))
              rw [E]
              exact (Fr.rf _)
            ·
              by_cases c6 : (fX3_kindOf σ x1) = 6
              ·
                have E : fX2_performL σ x1 = (0, σ) := j_ig c0 (j_ig c1 (j_ig c2 (j_ig c3 (j_ig c4 (j_ig c5 (j_ip c6 rfl))))))
                rw [E]
                exact (Fr.rf _)
              ·
                by_cases c7 : (fX3_kindOf σ x1) = 7
                ·
                  have E : fX2_performL σ x1 = ((fX2_writeL σ (fX3_written σ x1) (fX3_number σ x1)).1, (fX2_writeL σ (fX3_written σ x1) (fX3_number σ x1)).2) := j_ig c0 (j_ig c1 (j_ig c2 (j_ig c3 (j_ig c4 (j_ig c5 (j_ig c6 (j_ip c7 rfl)))))))
                  rw [E]
                  exact (Fr.tr (fr_fX2_writeL _ _ _) (Fr.rf _))
                ·
                  have E : fX2_performL σ x1 = (0, σ) := j_ig c0 (j_ig c1 (j_ig c2 (j_ig c3 (j_ig c4 (j_ig c5 (j_ig c6 (j_ig c7 rfl)))))))
                  rw [E]
                  exact (Fr.rf _)
end
section
def fX5_wordIn (σ : St) (x1 : Int32) : Int32 := (if x1 < 0 then (-1) else (if 8 ≤ x1 then (-1) else ((σ.2 5) x1.toNatClampNeg)))
def rmX5_wordIn : Room := { frames := 0, cells := 0, slots := 0, locals := 0 }
set_option maxRecDepth 100000 in
set_option maxHeartbeats 4000000 in
theorem kX5_wordIn (l : Launch) (D : va_G) (a : Nat → Nat) (cI cZ : ClassId) (σ : St) (x1 : Int32) : Ci l yX5_wordIn cX5_wordIn 2 (some .int) TB rmX5_wordIn D vwCl [(cI, .int), (cZ, .boolean)] [.ref (a 9), .int x1] (fx a cI cZ σ) (fx a cI cZ σ) (fX5_wordIn σ x1) := by
  refine Ci_of (cc := cX5_wordIn) (maxL := 2) (ret := (some .int)) (by decide +kernel) TBg (Nat.le_of_ble_eq_true rfl) ?_
  intro p e s m args below meth c A h hr
  refine j_iload_n h 1 dX5_wordIn_0 rfl rfl ?_
  refine j_if_lt h dX5_wordIn_1 (tgt := 19) (by decide) (fun c1 => ?_) (fun c1 => ?_)
  ·
    refine j_iconst h (v := (-1)) dX5_wordIn_19 (by decide) ?_
    have E : fX5_wordIn σ x1 = (-1) := j_ip c1 rfl
    exact j_ireturn h hr E.symm rfl dX5_wordIn_20
  ·
    refine j_iload_n h 1 dX5_wordIn_4 rfl rfl ?_
    refine j_bipush h (v := 8) dX5_wordIn_5 (by decide) ?_
    refine j_icmp_ge h dX5_wordIn_7 (tgt := 19) (by decide) (fun c2 => ?_) (fun c2 => ?_)
    ·
      refine j_iconst h (v := (-1)) dX5_wordIn_19 (by decide) ?_
      have E : fX5_wordIn σ x1 = (-1) := j_ig c1 (j_ip c2 rfl)
      exact j_ireturn h hr E.symm rfl dX5_wordIn_20
    ·
      refine j_aload_n h 0 dX5_wordIn_10 rfl rfl ?_
      refine j_get h iX5 9 rfl rfl 0 (by decide) tb1_108 rfl (v := .ref (a 10)) rfl dX5_wordIn_11 ?_
      refine j_iload_n h 1 dX5_wordIn_14 rfl rfl ?_
      refine j_iald h 10 0 rfl rfl (j_in8 (j_lo1 c1) (j_hi1 c2)) dX5_wordIn_15 ?_
      refine j_goto h dX5_wordIn_16 (tgt := 20) (by decide) ?_
      have E : fX5_wordIn σ x1 = ((σ.2 5) x1.toNatClampNeg) := j_ig c1 (j_ig c2 rfl)
      exact j_ireturn h hr E.symm rfl dX5_wordIn_20
def fX5_isOnTheWay (σ : St) (x1 : Int32) : Int32 := (if x1 < 0 then 0 else (if 8 ≤ x1 then 0 else (if ((σ.2 6) x1.toNatClampNeg) = 0 then 0 else 1)))
def rmX5_isOnTheWay : Room := { frames := 0, cells := 0, slots := 0, locals := 0 }
set_option maxRecDepth 100000 in
set_option maxHeartbeats 4000000 in
theorem kX5_isOnTheWay (l : Launch) (D : va_G) (a : Nat → Nat) (cI cZ : ClassId) (σ : St) (x1 : Int32) : Ci l yX5_isOnTheWay cX5_isOnTheWay 2 (some .boolean) TB rmX5_isOnTheWay D vwCl [(cI, .int), (cZ, .boolean)] [.ref (a 9), .int x1] (fx a cI cZ σ) (fx a cI cZ σ) (fX5_isOnTheWay σ x1) := by
  refine Ci_of (cc := cX5_isOnTheWay) (maxL := 2) (ret := (some .boolean)) (by decide +kernel) TBg (Nat.le_of_ble_eq_true rfl) ?_
  intro p e s m args below meth c A h hr
  refine j_iload_n h 1 dX5_isOnTheWay_0 rfl rfl ?_
  refine j_if_lt h dX5_isOnTheWay_1 (tgt := 23) (by decide) (fun c1 => ?_) (fun c1 => ?_)
  ·
    refine j_iconst h (v := 0) dX5_isOnTheWay_23 (by decide) ?_
    have E : fX5_isOnTheWay σ x1 = 0 := j_ip c1 rfl
    exact j_zreturn h hr (by decide) E.symm rfl dX5_isOnTheWay_24
  ·
    refine j_iload_n h 1 dX5_isOnTheWay_4 rfl rfl ?_
    refine j_bipush h (v := 8) dX5_isOnTheWay_5 (by decide) ?_
    refine j_icmp_ge h dX5_isOnTheWay_7 (tgt := 23) (by decide) (fun c2 => ?_) (fun c2 => ?_)
    ·
      refine j_iconst h (v := 0) dX5_isOnTheWay_23 (by decide) ?_
      have E : fX5_isOnTheWay σ x1 = 0 := j_ig c1 (j_ip c2 rfl)
      exact j_zreturn h hr (by decide) E.symm rfl dX5_isOnTheWay_24
    ·
      refine j_aload_n h 0 dX5_isOnTheWay_10 rfl rfl ?_
      refine j_get h iX5 9 rfl rfl 1 (by decide) tb1_109 rfl (v := .ref (a 11)) rfl dX5_isOnTheWay_11 ?_
      refine j_iload_n h 1 dX5_isOnTheWay_14 rfl rfl ?_
      refine j_zald h 11 1 rfl rfl (j_in8 (j_lo1 c1) (j_hi1 c2)) dX5_isOnTheWay_15 ?_
      refine j_if_eq h dX5_isOnTheWay_16 (tgt := 23) (by decide) (fun c3 => ?_) (fun c3 => ?_)
      ·
        refine j_iconst h (v := 0) dX5_isOnTheWay_23 (by decide) ?_
        have E : fX5_isOnTheWay σ x1 = 0 := j_ig c1 (j_ig c2 (j_ip c3 rfl))
        exact j_zreturn h hr (by decide) E.symm rfl dX5_isOnTheWay_24
      ·
        refine j_iconst h (v := 1) dX5_isOnTheWay_19 (by decide) ?_
        refine j_goto h dX5_isOnTheWay_20 (tgt := 24) (by decide) ?_
        have E : fX5_isOnTheWay σ x1 = 1 := j_ig c1 (j_ig c2 (j_ig c3 rfl))
        exact j_zreturn h hr (by decide) E.symm rfl dX5_isOnTheWay_24
def fX5_isGoing (σ : St) (x1 : Int32) : Int32 := (if x1 < 0 then 0 else (if 8 ≤ x1 then 0 else (if ((σ.2 7) x1.toNatClampNeg) = 0 then 0 else 1)))
def rmX5_isGoing : Room := { frames := 0, cells := 0, slots := 0, locals := 0 }
set_option maxRecDepth 100000 in
set_option maxHeartbeats 4000000 in
theorem kX5_isGoing (l : Launch) (D : va_G) (a : Nat → Nat) (cI cZ : ClassId) (σ : St) (x1 : Int32) : Ci l yX5_isGoing cX5_isGoing 2 (some .boolean) TB rmX5_isGoing D vwCl [(cI, .int), (cZ, .boolean)] [.ref (a 9), .int x1] (fx a cI cZ σ) (fx a cI cZ σ) (fX5_isGoing σ x1) := by
  refine Ci_of (cc := cX5_isGoing) (maxL := 2) (ret := (some .boolean)) (by decide +kernel) TBg (Nat.le_of_ble_eq_true rfl) ?_
  intro p e s m args below meth c A h hr
  refine j_iload_n h 1 dX5_isGoing_0 rfl rfl ?_
  refine j_if_lt h dX5_isGoing_1 (tgt := 23) (by decide) (fun c1 => ?_) (fun c1 => ?_)
  ·
    refine j_iconst h (v := 0) dX5_isGoing_23 (by decide) ?_
    have E : fX5_isGoing σ x1 = 0 := j_ip c1 rfl
    exact j_zreturn h hr (by decide) E.symm rfl dX5_isGoing_24
  ·
    refine j_iload_n h 1 dX5_isGoing_4 rfl rfl ?_
    refine j_bipush h (v := 8) dX5_isGoing_5 (by decide) ?_
    refine j_icmp_ge h dX5_isGoing_7 (tgt := 23) (by decide) (fun c2 => ?_) (fun c2 => ?_)
    ·
      refine j_iconst h (v := 0) dX5_isGoing_23 (by decide) ?_
      have E : fX5_isGoing σ x1 = 0 := j_ig c1 (j_ip c2 rfl)
      exact j_zreturn h hr (by decide) E.symm rfl dX5_isGoing_24
    ·
      refine j_aload_n h 0 dX5_isGoing_10 rfl rfl ?_
      refine j_get h iX5 9 rfl rfl 2 (by decide) tb1_110 rfl (v := .ref (a 12)) rfl dX5_isGoing_11 ?_
      refine j_iload_n h 1 dX5_isGoing_14 rfl rfl ?_
      refine j_zald h 12 1 rfl rfl (j_in8 (j_lo1 c1) (j_hi1 c2)) dX5_isGoing_15 ?_
      refine j_if_eq h dX5_isGoing_16 (tgt := 23) (by decide) (fun c3 => ?_) (fun c3 => ?_)
      ·
        refine j_iconst h (v := 0) dX5_isGoing_23 (by decide) ?_
        have E : fX5_isGoing σ x1 = 0 := j_ig c1 (j_ig c2 (j_ip c3 rfl))
        exact j_zreturn h hr (by decide) E.symm rfl dX5_isGoing_24
      ·
        refine j_iconst h (v := 1) dX5_isGoing_19 (by decide) ?_
        refine j_goto h dX5_isGoing_20 (tgt := 24) (by decide) ?_
        have E : fX5_isGoing σ x1 = 1 := j_ig c1 (j_ig c2 (j_ig c3 rfl))
        exact j_zreturn h hr (by decide) E.symm rfl dX5_isGoing_24
def fX5_put (σ : St) (x1 x2 x3 x4 : Int32) : St := (if x1 < 0 then σ else (if 8 ≤ x1 then σ else (ar (ar (ar σ 5 (upd (σ.2 5) x1.toNatClampNeg x2)) 6 (upd (σ.2 6) x1.toNatClampNeg (vp_nar .boolean x3))) 7 (upd (σ.2 7) x1.toNatClampNeg (vp_nar .boolean x4)))))
def rmX5_put : Room := { frames := 0, cells := 0, slots := 0, locals := 0 }
set_option maxRecDepth 100000 in
set_option maxHeartbeats 4000000 in
theorem kX5_put (l : Launch) (D : va_G) (a : Nat → Nat) (cI cZ : ClassId) (σ : St) (x1 x2 x3 x4 : Int32) : Cv l yX5_put cX5_put 5 none TB rmX5_put D vwCl [(cI, .int), (cZ, .boolean)] [.ref (a 9), .int x1, .int x2, .int x3, .int x4] (fx a cI cZ σ) (fun _ => (fx a cI cZ (fX5_put σ x1 x2 x3 x4))) 0 0 := by
  refine Cv_of (cc := cX5_put) (maxL := 5) (ret := none) (by decide +kernel) TBg (Nat.le_of_ble_eq_true rfl) ?_
  intro p e s m args below meth c A h hr hname
  refine j_iload_n h 1 dX5_put_0 rfl rfl ?_
  refine j_if_lt h dX5_put_1 (tgt := 32) (by decide) (fun c1 => ?_) (fun c1 => ?_)
  ·
    have E : fX5_put σ x1 x2 x3 x4 = σ := j_ip c1 rfl
    exact j_vreturn h hr (fun _ => 0) (congrArg (fx a cI cZ) E).symm dX5_put_32
  ·
    refine j_iload_n h 1 dX5_put_4 rfl rfl ?_
    refine j_bipush h (v := 8) dX5_put_5 (by decide) ?_
    refine j_icmp_ge h dX5_put_7 (tgt := 32) (by decide) (fun c2 => ?_) (fun c2 => ?_)
    ·
      have E : fX5_put σ x1 x2 x3 x4 = σ := j_ig c1 (j_ip c2 rfl)
      exact j_vreturn h hr (fun _ => 0) (congrArg (fx a cI cZ) E).symm dX5_put_32
    ·
      refine j_aload_n h 0 dX5_put_10 rfl rfl ?_
      refine j_get h iX5 9 rfl rfl 0 (by decide) tb1_108 rfl (v := .ref (a 10)) rfl dX5_put_11 ?_
      refine j_iload_n h 1 dX5_put_14 rfl rfl ?_
      refine j_iload_n h 2 dX5_put_15 rfl rfl ?_
      refine j_iast h 10 0 rfl rfl (j_in8 (j_lo1 c1) (j_hi1 c2)) (w' := (fx a cI cZ (ar σ 5 (upd (σ.2 5) x1.toNatClampNeg x2)))) rfl dX5_put_16 ?_
      refine j_aload_n h 0 dX5_put_17 rfl rfl ?_
      refine j_get h iX5 9 rfl rfl 1 (by decide) tb1_109 rfl (v := .ref (a 11)) rfl dX5_put_18 ?_
      refine j_iload_n h 1 dX5_put_21 rfl rfl ?_
      refine j_iload_n h 3 dX5_put_22 rfl rfl ?_
      refine j_zast h 11 1 rfl rfl (j_in8 (j_lo1 c1) (j_hi1 c2)) (w' := (fx a cI cZ (ar (ar σ 5 (upd (σ.2 5) x1.toNatClampNeg x2)) 6 (upd (σ.2 6) x1.toNatClampNeg (vp_nar .boolean x3))))) rfl dX5_put_23 ?_
      refine j_aload_n h 0 dX5_put_24 rfl rfl ?_
      refine j_get h iX5 9 rfl rfl 2 (by decide) tb1_110 rfl (v := .ref (a 12)) rfl dX5_put_25 ?_
      refine j_iload_n h 1 dX5_put_28 rfl rfl ?_
      refine j_iload h 4 dX5_put_29 rfl ?_
      refine j_zast h 12 1 rfl rfl (j_in8 (j_lo1 c1) (j_hi1 c2)) (w' := (fx a cI cZ (ar (ar (ar σ 5 (upd (σ.2 5) x1.toNatClampNeg x2)) 6 (upd (σ.2 6) x1.toNatClampNeg (vp_nar .boolean x3))) 7 (upd (σ.2 7) x1.toNatClampNeg (vp_nar .boolean x4))))) rfl dX5_put_31 ?_
      have E : fX5_put σ x1 x2 x3 x4 = (ar (ar (ar σ 5 (upd (σ.2 5) x1.toNatClampNeg x2)) 6 (upd (σ.2 6) x1.toNatClampNeg (vp_nar .boolean x3))) 7 (upd (σ.2 7) x1.toNatClampNeg (vp_nar .boolean x4))) := j_ig c1 (j_ig c2 rfl)
      exact j_vreturn h hr (fun _ => 0) (congrArg (fx a cI cZ) E).symm dX5_put_32
theorem fr_fX5_put (σ : St) (x1 x2 x3 x4 : Int32) : Fr (fX5_put σ x1 x2 x3 x4) σ := by
  by_cases c0 : x1 < 0
  ·
    have E : fX5_put σ x1 x2 x3 x4 = σ := j_ip c0 rfl
    rw [E]
    exact (Fr.rf _)
  ·
    by_cases c1 : 8 ≤ x1
    ·
      have E : fX5_put σ x1 x2 x3 x4 = σ := j_ig c0 (j_ip c1 rfl)
      rw [E]
      exact (Fr.rf _)
    ·
      have E : fX5_put σ x1 x2 x3 x4 = (ar (ar (ar σ 5 (upd (σ.2 5) x1.toNatClampNeg x2)) 6 (upd (σ.2 6) x1.toNatClampNeg (vp_nar .boolean x3))) 7 (upd (σ.2 7) x1.toNatClampNeg (vp_nar .boolean x4))) := j_ig c0 (j_ig c1 rfl)
      rw [E]
      exact (Fr.tr Fr.ar (Fr.tr Fr.ar (Fr.tr Fr.ar (Fr.rf _))))
def fX5_empty (σ : St) (x1 : Int32) : St := (let q1 := (fX5_put σ x1 (-1) 0 0); q1)
def rmX5_empty : Room := { frames := 1, cells := 0, slots := 0, locals := 24 }
set_option maxRecDepth 100000 in
set_option maxHeartbeats 4000000 in
theorem kX5_empty (l : Launch) (D : va_G) (a : Nat → Nat) (cI cZ : ClassId) (σ : St) (x1 : Int32) : Cv l yX5_empty cX5_empty 2 none TB rmX5_empty D vwCl [(cI, .int), (cZ, .boolean)] [.ref (a 9), .int x1] (fx a cI cZ σ) (fun _ => (fx a cI cZ (fX5_empty σ x1))) 0 0 := by
  refine Cv_of (cc := cX5_empty) (maxL := 2) (ret := none) (by decide +kernel) TBg (Nat.le_of_ble_eq_true rfl) ?_
  intro p e s m args below meth c A h hr hname
  refine j_aload_n h 0 dX5_empty_0 rfl rfl ?_
  refine j_iload_n h 1 dX5_empty_1 rfl rfl ?_
  refine j_iconst h (v := (-1)) dX5_empty_2 (by decide) ?_
  refine j_iconst h (v := 0) dX5_empty_3 (by decide) ?_
  refine j_iconst h (v := 0) dX5_empty_4 (by decide) ?_
  refine j_callVv h (kX5_put l D a cI cZ σ x1 (-1) 0 0) tb2_41 tb2_42 tb2_43 tb1_6 tb2_44 ⟨rfl, rfl⟩ (n := 4) (by decide +kernel) ⟨Nat.le_of_ble_eq_true rfl, Nat.le_of_ble_eq_true rfl⟩ (As := [.int x1, .int (-1), .int 0, .int 0]) rfl (ci := 5) (q0 := 9) rfl rfl (st := []) rfl (Nat.le_of_ble_eq_true rfl) dX5_empty_5 ⟨Nat.zero_le _, Nat.zero_le _⟩ ?_
  generalize hq1 : (fX5_put σ x1 (-1) 0 0) = q1
  subst hq1
  have E : fX5_empty σ x1 = (fX5_put σ x1 (-1) 0 0) := rfl
  exact j_vreturn h hr (fun _ => 0) (congrArg (fx a cI cZ) E).symm dX5_empty_8
theorem fr_fX5_empty (σ : St) (x1 : Int32) : Fr (fX5_empty σ x1) σ := by
  have E : fX5_empty σ x1 = (fX5_put σ x1 (-1) 0 0) := rfl
  rw [E]
  exact (Fr.tr (fr_fX5_put _ _ _ _ _) (Fr.rf _))
def fX5_moveOnFrom (σ : St) (x1 : Int32) : St := (let q1 := (fX5_wordIn σ x1); (let q2 := (fX5_isOnTheWay σ x1); (let q3 := (fX5_isGoing σ x1); (let q4 := (fX5_put σ (x1 + 1) q1 q2 q3); (let q5 := (fX5_empty q4 x1); q5)))))
def rmX5_moveOnFrom : Room := { frames := 2, cells := 0, slots := 0, locals := 45 }
set_option maxRecDepth 100000 in
set_option maxHeartbeats 4000000 in
theorem kX5_moveOnFrom (l : Launch) (D : va_G) (a : Nat → Nat) (cI cZ : ClassId) (σ : St) (x1 : Int32) : Cv l yX5_moveOnFrom cX5_moveOnFrom 2 none TB rmX5_moveOnFrom D vwCl [(cI, .int), (cZ, .boolean)] [.ref (a 9), .int x1] (fx a cI cZ σ) (fun _ => (fx a cI cZ (fX5_moveOnFrom σ x1))) 0 0 := by
  refine Cv_of (cc := cX5_moveOnFrom) (maxL := 2) (ret := none) (by decide +kernel) TBg (Nat.le_of_ble_eq_true rfl) ?_
  intro p e s m args below meth c A h hr hname
  refine j_aload_n h 0 dX5_moveOnFrom_0 rfl rfl ?_
  refine j_iload_n h 1 dX5_moveOnFrom_1 rfl rfl ?_
  refine j_iconst h (v := 1) dX5_moveOnFrom_2 (by decide) ?_
  refine j_iadd h dX5_moveOnFrom_3 ?_
  refine j_aload_n h 0 dX5_moveOnFrom_4 rfl rfl ?_
  refine j_iload_n h 1 dX5_moveOnFrom_5 rfl rfl ?_
  refine j_callVi h (kX5_wordIn l D a cI cZ σ x1) tb3_96 tb2_228 tb2_229 tb1_6 tb2_230 ⟨rfl, rfl⟩ (n := 1) (by decide +kernel) ⟨Nat.le_of_ble_eq_true rfl, Nat.le_of_ble_eq_true rfl⟩ (As := [.int x1]) rfl (ci := 5) (q0 := 9) rfl rfl (st := [.int (x1 + 1), .ref (a 9)]) rfl (Nat.le_of_ble_eq_true rfl) dX5_moveOnFrom_6 ⟨Nat.zero_le _, Nat.zero_le _⟩ ?_
  generalize hq1 : (fX5_wordIn σ x1) = q1
  refine j_aload_n h 0 dX5_moveOnFrom_9 rfl rfl ?_
  refine j_iload_n h 1 dX5_moveOnFrom_10 rfl rfl ?_
  refine j_callVi h (kX5_isOnTheWay l D a cI cZ σ x1) tb3_97 tb3_98 tb3_99 tb1_6 tb3_100 ⟨rfl, rfl⟩ (n := 1) (by decide +kernel) ⟨Nat.le_of_ble_eq_true rfl, Nat.le_of_ble_eq_true rfl⟩ (As := [.int x1]) rfl (ci := 5) (q0 := 9) rfl rfl (st := [.int q1, .int (x1 + 1), .ref (a 9)]) rfl (Nat.le_of_ble_eq_true rfl) dX5_moveOnFrom_11 ⟨Nat.zero_le _, Nat.zero_le _⟩ ?_
  generalize hq2 : (fX5_isOnTheWay σ x1) = q2
  refine j_aload_n h 0 dX5_moveOnFrom_14 rfl rfl ?_
  refine j_iload_n h 1 dX5_moveOnFrom_15 rfl rfl ?_
  refine j_callVi h (kX5_isGoing l D a cI cZ σ x1) tb3_101 tb2_232 tb2_233 tb1_6 tb2_234 ⟨rfl, rfl⟩ (n := 1) (by decide +kernel) ⟨Nat.le_of_ble_eq_true rfl, Nat.le_of_ble_eq_true rfl⟩ (As := [.int x1]) rfl (ci := 5) (q0 := 9) rfl rfl (st := [.int q2, .int q1, .int (x1 + 1), .ref (a 9)]) rfl (Nat.le_of_ble_eq_true rfl) dX5_moveOnFrom_16 ⟨Nat.zero_le _, Nat.zero_le _⟩ ?_
  generalize hq3 : (fX5_isGoing σ x1) = q3
  refine j_callVv h (kX5_put l D a cI cZ σ (x1 + 1) q1 q2 q3) tb2_41 tb2_42 tb2_43 tb1_6 tb2_44 ⟨rfl, rfl⟩ (n := 4) (by decide +kernel) ⟨Nat.le_of_ble_eq_true rfl, Nat.le_of_ble_eq_true rfl⟩ (As := [.int (x1 + 1), .int q1, .int q2, .int q3]) rfl (ci := 5) (q0 := 9) rfl rfl (st := []) rfl (Nat.le_of_ble_eq_true rfl) dX5_moveOnFrom_19 ⟨Nat.zero_le _, Nat.zero_le _⟩ ?_
  generalize hq4 : (fX5_put σ (x1 + 1) q1 q2 q3) = q4
  refine j_aload_n h 0 dX5_moveOnFrom_22 rfl rfl ?_
  refine j_iload_n h 1 dX5_moveOnFrom_23 rfl rfl ?_
  refine j_callVv h (kX5_empty l D a cI cZ q4 x1) tb3_102 tb2_236 tb2_237 tb1_6 tb2_238 ⟨rfl, rfl⟩ (n := 1) (by decide +kernel) ⟨Nat.le_of_ble_eq_true rfl, Nat.le_of_ble_eq_true rfl⟩ (As := [.int x1]) rfl (ci := 5) (q0 := 9) rfl rfl (st := []) rfl (Nat.le_of_ble_eq_true rfl) dX5_moveOnFrom_24 ⟨Nat.zero_le _, Nat.zero_le _⟩ ?_
  generalize hq5 : (fX5_empty q4 x1) = q5
  subst hq1 hq2 hq3 hq4 hq5
  have E : fX5_moveOnFrom σ x1 = (fX5_empty (fX5_put σ (x1 + 1) (fX5_wordIn σ x1) (fX5_isOnTheWay σ x1) (fX5_isGoing σ x1)) x1) := rfl
  exact j_vreturn h hr (fun _ => 0) (congrArg (fx a cI cZ) E).symm dX5_moveOnFrom_27
theorem fr_fX5_moveOnFrom (σ : St) (x1 : Int32) : Fr (fX5_moveOnFrom σ x1) σ := by
  have E : fX5_moveOnFrom σ x1 = (fX5_empty (fX5_put σ (x1 + 1) (fX5_wordIn σ x1) (fX5_isOnTheWay σ x1) (fX5_isGoing σ x1)) x1) := rfl
  rw [E]
  exact (Fr.tr (fr_fX5_empty _ _) (Fr.tr (fr_fX5_put _ _ _ _ _) (Fr.rf _)))
def gfX5_squashBelow : Nat → St → Int32 → Int32 → Int32 → (Int32 × St)
  | 0, σ, x1, x2, x3 => (0, σ)
  | n + 1, σ, x1, x2, x3 => (if 8 ≤ x3 then (x2, σ) else (if x1 ≤ x3 then (x2, σ) else (if ((σ.2 5) x3.toNatClampNeg) = (-1) then (let q4 := (fX5_put σ x3 (-1) 0 0); gfX5_squashBelow n q4 x1 x2 (x3 + 1)) else (let q5 := (fX5_put σ x3 (-1) 0 0); gfX5_squashBelow n q5 x1 (x2 + 1) (x3 + 1)))))
def fX5_squashBelow (σ : St) (x1 : Int32) : Int32 × St := gfX5_squashBelow 9 σ x1 0 0
def rmX5_squashBelow : Room := { frames := 1, cells := 0, slots := 0, locals := 24 }
set_option maxRecDepth 100000 in
set_option maxHeartbeats 4000000 in
theorem kX5_squashBelow (l : Launch) (D : va_G) (a : Nat → Nat) (cI cZ : ClassId) (σ : St) (x1 : Int32) : Ci l yX5_squashBelow cX5_squashBelow 4 (some .int) TB rmX5_squashBelow D vwCl [(cI, .int), (cZ, .boolean)] [.ref (a 9), .int x1] (fx a cI cZ σ) (fx a cI cZ (fX5_squashBelow σ x1).2) (fX5_squashBelow σ x1).1 := by
  refine Ci_of (cc := cX5_squashBelow) (maxL := 4) (ret := (some .int)) (by decide +kernel) TBg (Nat.le_of_ble_eq_true rfl) ?_
  intro p e s m args below meth c A h hr
  have loop : ∀ (n : Nat) (σ : St) (x2 x3 : Int32), 0 ≤ x3.toInt → x3.toInt ≤ 8 → 8 < x3.toInt + n → J p l e rmX5_squashBelow s m args below meth c D vwCl A 4 0 0 (MQ below (jEi D vwCl [(cI, .int), (cZ, .boolean)] A (fx a cI cZ (gfX5_squashBelow n σ x1 x2 x3).2) (gfX5_squashBelow n σ x1 x2 x3).1) args s 0 0 A) (fx a cI cZ σ) 4 [(2, .int x2), (3, .int x3), (0, .ref (a 9)), (1, .int x1)] [] := by
    intro n
    induction n with
    | zero => intro σ x2 x3 h1 h2 h3; exact absurd h3 (by omega)
    | succ n ih =>
      intro σ x2 x3 h1 h2 h3
      refine j_iload_n h 1 dX5_squashBelow_4 rfl rfl ?_
      refine j_bipush h (v := 8) dX5_squashBelow_5 (by decide) ?_
      refine j_icmp_ge h dX5_squashBelow_7 (tgt := 42) (by decide) (fun c1 => ?_) (fun c1 => ?_)
      ·
        refine j_iload_n h 0 dX5_squashBelow_42 rfl rfl ?_
        have E : gfX5_squashBelow (n + 1) σ x1 x2 x3 = (x2, σ) := j_ip c1 rfl
        exact j_ireturn h hr (congrArg Prod.fst E).symm (congrArg (fun z => fx a cI cZ z.2) E).symm dX5_squashBelow_43
      ·
        refine j_iload_n h 1 dX5_squashBelow_10 rfl rfl ?_
        refine j_iload_n h 3 dX5_squashBelow_11 rfl rfl ?_
        refine j_icmp_ge h dX5_squashBelow_12 (tgt := 42) (by decide) (fun c2 => ?_) (fun c2 => ?_)
        ·
          refine j_iload_n h 0 dX5_squashBelow_42 rfl rfl ?_
          have E : gfX5_squashBelow (n + 1) σ x1 x2 x3 = (x2, σ) := j_ig c1 (j_ip c2 rfl)
          exact j_ireturn h hr (congrArg Prod.fst E).symm (congrArg (fun z => fx a cI cZ z.2) E).symm dX5_squashBelow_43
        ·
          refine j_aload_n h 2 dX5_squashBelow_15 rfl rfl ?_
          refine j_get h iX5 9 rfl rfl 0 (by decide) tb1_108 rfl (v := .ref (a 10)) rfl dX5_squashBelow_16 ?_
          refine j_iload_n h 1 dX5_squashBelow_19 rfl rfl ?_
          refine j_iald h 10 0 rfl rfl (j_in8 (j_lo0 h1) (j_hi1 c1)) dX5_squashBelow_20 ?_
          refine j_iconst h (v := (-1)) dX5_squashBelow_21 (by decide) ?_
          refine j_icmp_eq h dX5_squashBelow_22 (tgt := 28) (by decide) (fun c3 => ?_) (fun c3 => ?_)
          ·
            refine j_aload_n h 2 dX5_squashBelow_28 rfl rfl ?_
            refine j_iload_n h 1 dX5_squashBelow_29 rfl rfl ?_
            refine j_iconst h (v := (-1)) dX5_squashBelow_30 (by decide) ?_
            refine j_iconst h (v := 0) dX5_squashBelow_31 (by decide) ?_
            refine j_iconst h (v := 0) dX5_squashBelow_32 (by decide) ?_
            refine j_callVv h (kX5_put l D a cI cZ σ x3 (-1) 0 0) tb2_41 tb2_42 tb2_43 tb1_6 tb2_44 ⟨rfl, rfl⟩ (n := 4) (by decide +kernel) ⟨Nat.le_of_ble_eq_true rfl, Nat.le_of_ble_eq_true rfl⟩ (As := [.int x3, .int (-1), .int 0, .int 0]) rfl (ci := 5) (q0 := 9) rfl rfl (st := []) rfl (Nat.le_of_ble_eq_true rfl) dX5_squashBelow_33 ⟨Nat.zero_le _, Nat.zero_le _⟩ ?_
            generalize hq4 : (fX5_put σ x3 (-1) 0 0) = q4
            refine j_iinc h 1 (v := (x3 + 1)) (lv' := [(3, .int (x3 + 1)), (2, .int x2), (0, .ref (a 9)), (1, .int x1)]) dX5_squashBelow_36 rfl (rfl) (by decide) rfl ?_
            refine j_goto h dX5_squashBelow_39 (tgt := 4) (by decide) ?_
            have hi := j_inc (j_hi1 c1)
            have hl := j_toLt c1
            have h8 : (8 : Int32).toInt = 8 := by decide
            subst hq4
            have E : gfX5_squashBelow (n + 1) σ x1 x2 x3 = gfX5_squashBelow n (fX5_put σ x3 (-1) 0 0) x1 x2 (x3 + 1) := j_ig c1 (j_ig c2 (j_ip c3 rfl))
            rw [E]
            refine j_lv [1, 0, 2, 3] rfl ?_
            exact ih (fX5_put σ x3 (-1) 0 0) x2 (x3 + 1) (by omega) (by omega) (by omega)
          ·
            refine j_iinc h 0 (v := (x2 + 1)) (lv' := [(2, .int (x2 + 1)), (3, .int x3), (0, .ref (a 9)), (1, .int x1)]) dX5_squashBelow_25 rfl (rfl) (by decide) rfl ?_
            refine j_aload_n h 2 dX5_squashBelow_28 rfl rfl ?_
            refine j_iload_n h 1 dX5_squashBelow_29 rfl rfl ?_
            refine j_iconst h (v := (-1)) dX5_squashBelow_30 (by decide) ?_
            refine j_iconst h (v := 0) dX5_squashBelow_31 (by decide) ?_
            refine j_iconst h (v := 0) dX5_squashBelow_32 (by decide) ?_
            refine j_callVv h (kX5_put l D a cI cZ σ x3 (-1) 0 0) tb2_41 tb2_42 tb2_43 tb1_6 tb2_44 ⟨rfl, rfl⟩ (n := 4) (by decide +kernel) ⟨Nat.le_of_ble_eq_true rfl, Nat.le_of_ble_eq_true rfl⟩ (As := [.int x3, .int (-1), .int 0, .int 0]) rfl (ci := 5) (q0 := 9) rfl rfl (st := []) rfl (Nat.le_of_ble_eq_true rfl) dX5_squashBelow_33 ⟨Nat.zero_le _, Nat.zero_le _⟩ ?_
            generalize hq5 : (fX5_put σ x3 (-1) 0 0) = q5
            refine j_iinc h 1 (v := (x3 + 1)) (lv' := [(3, .int (x3 + 1)), (2, .int (x2 + 1)), (0, .ref (a 9)), (1, .int x1)]) dX5_squashBelow_36 rfl (rfl) (by decide) rfl ?_
            refine j_goto h dX5_squashBelow_39 (tgt := 4) (by decide) ?_
            have hi := j_inc (j_hi1 c1)
            have hl := j_toLt c1
            have h8 : (8 : Int32).toInt = 8 := by decide
            subst hq5
            have E : gfX5_squashBelow (n + 1) σ x1 x2 x3 = gfX5_squashBelow n (fX5_put σ x3 (-1) 0 0) x1 (x2 + 1) (x3 + 1) := j_ig c1 (j_ig c2 (j_ig c3 rfl))
            rw [E]
            refine j_lv [1, 0, 2, 3] rfl ?_
            exact ih (fX5_put σ x3 (-1) 0 0) (x2 + 1) (x3 + 1) (by omega) (by omega) (by omega)
  refine j_iconst h (v := 0) dX5_squashBelow_0 (by decide) ?_
  refine j_istore_n h (lv' := [(2, .int 0), (0, .ref (a 9)), (1, .int x1)]) dX5_squashBelow_1 rfl (by decide) rfl ?_
  refine j_iconst h (v := 0) dX5_squashBelow_2 (by decide) ?_
  refine j_istore_n h (lv' := [(3, .int 0), (2, .int 0), (0, .ref (a 9)), (1, .int x1)]) dX5_squashBelow_3 rfl (by decide) rfl ?_
  have E : fX5_squashBelow σ x1 = gfX5_squashBelow 9 σ x1 0 0 := rfl
  rw [E]
  refine j_lv [1, 0, 2, 3] rfl ?_
  exact loop 9 σ 0 0 (by decide) (by decide) (by decide)
theorem fr_gfX5_squashBelow : ∀ (n : Nat) (σ : St) (x1 x2 x3 : Int32), Fr (gfX5_squashBelow n σ x1 x2 x3).2 σ := by
  intro n
  induction n with
  | zero => intro σ x1 x2 x3; exact Fr.rf _
  | succ n ih =>
    intro σ x1 x2 x3
    by_cases c0 : 8 ≤ x3
    ·
      have E : gfX5_squashBelow (n + 1) σ x1 x2 x3 = (x2, σ) := j_ip c0 rfl
      rw [E]
      exact (Fr.rf _)
    ·
      by_cases c1 : x1 ≤ x3
      ·
        have E : gfX5_squashBelow (n + 1) σ x1 x2 x3 = (x2, σ) := j_ig c0 (j_ip c1 rfl)
        rw [E]
        exact (Fr.rf _)
      ·
        by_cases c2 : ((σ.2 5) x3.toNatClampNeg) = (-1)
        ·
          have E : gfX5_squashBelow (n + 1) σ x1 x2 x3 = gfX5_squashBelow n (fX5_put σ x3 (-1) 0 0) x1 x2 (x3 + 1) := j_ig c0 (j_ig c1 (j_ip c2 rfl))
          rw [E]
          exact (Fr.tr (ih _ _ _ _) (Fr.tr (fr_fX5_put _ _ _ _ _) (Fr.rf _)))
        ·
          have E : gfX5_squashBelow (n + 1) σ x1 x2 x3 = gfX5_squashBelow n (fX5_put σ x3 (-1) 0 0) x1 (x2 + 1) (x3 + 1) := j_ig c0 (j_ig c1 (j_ig c2 rfl))
          rw [E]
          exact (Fr.tr (ih _ _ _ _) (Fr.tr (fr_fX5_put _ _ _ _ _) (Fr.rf _)))
theorem fr_fX5_squashBelow (σ : St) (x1 : Int32) : Fr (fX5_squashBelow σ x1).2 σ := by
  have E : fX5_squashBelow σ x1 = gfX5_squashBelow 9 σ x1 0 0 := rfl
  rw [E]
  exact (Fr.tr (fr_gfX5_squashBelow _ _ _ _ _) (Fr.rf _))
def fX5_beginAnew (σ : St) : St := (let q1 := (fX5_squashBelow σ 8); q1.2)
def rmX5_beginAnew : Room := { frames := 2, cells := 0, slots := 0, locals := 47 }
set_option maxRecDepth 100000 in
set_option maxHeartbeats 4000000 in
theorem kX5_beginAnew (l : Launch) (D : va_G) (a : Nat → Nat) (cI cZ : ClassId) (σ : St) : Cv l yX5_beginAnew cX5_beginAnew 1 none TB rmX5_beginAnew D vwCl [(cI, .int), (cZ, .boolean)] [.ref (a 9)] (fx a cI cZ σ) (fun _ => (fx a cI cZ (fX5_beginAnew σ))) 0 0 := by
  refine Cv_of (cc := cX5_beginAnew) (maxL := 1) (ret := none) (by decide +kernel) TBg (Nat.le_of_ble_eq_true rfl) ?_
  intro p e s m args below meth c A h hr hname
  refine j_aload_n h 0 dX5_beginAnew_0 rfl rfl ?_
  refine j_bipush h (v := 8) dX5_beginAnew_1 (by decide) ?_
  refine j_callVi h (kX5_squashBelow l D a cI cZ σ 8) tb2_37 tb2_38 tb2_39 tb1_6 tb2_40 ⟨rfl, rfl⟩ (n := 1) (by decide +kernel) ⟨Nat.le_of_ble_eq_true rfl, Nat.le_of_ble_eq_true rfl⟩ (As := [.int 8]) rfl (ci := 5) (q0 := 9) rfl rfl (st := []) rfl (Nat.le_of_ble_eq_true rfl) dX5_beginAnew_3 ⟨Nat.zero_le _, Nat.zero_le _⟩ ?_
  generalize hq1 : (fX5_squashBelow σ 8) = q1
  refine j_pop h dX5_beginAnew_6 rfl ?_
  subst hq1
  have E : fX5_beginAnew σ = (fX5_squashBelow σ 8).2 := rfl
  exact j_vreturn h hr (fun _ => 0) (congrArg (fx a cI cZ) E).symm dX5_beginAnew_7
theorem fr_fX5_beginAnew (σ : St) : Fr (fX5_beginAnew σ) σ := by
  have E : fX5_beginAnew σ = (fX5_squashBelow σ 8).2 := rfl
  rw [E]
  exact (Fr.tr (fr_fX5_squashBelow _ _) (Fr.rf _))
end
section
def fX0_beginAnew (σ : St) : St := (sg (sg σ 7 0) 8 0)
def rmX0_beginAnew : Room := { frames := 0, cells := 0, slots := 0, locals := 0 }
set_option maxRecDepth 100000 in
set_option maxHeartbeats 4000000 in
theorem kX0_beginAnew (l : Launch) (D : va_G) (a : Nat → Nat) (cI cZ : ClassId) (σ : St) : Cv l yX0_beginAnew cX0_beginAnew 1 none TB rmX0_beginAnew D vwCl [(cI, .int), (cZ, .boolean)] [.ref (a 13)] (fx a cI cZ σ) (fun _ => (fx a cI cZ (fX0_beginAnew σ))) 0 0 := by
  refine Cv_of (cc := cX0_beginAnew) (maxL := 1) (ret := none) (by decide +kernel) TBg (Nat.le_of_ble_eq_true rfl) ?_
  intro p e s m args below meth c A h hr hname
  refine j_aload_n h 0 dX0_beginAnew_0 rfl rfl ?_
  refine j_iconst h (v := 0) dX0_beginAnew_1 (by decide) ?_
  refine j_put h iX0 tyX0 tyX0_ok nmX0 13 rfl rfl 3 (by decide) tb1_128 rfl rfl rfl rfl (Nat.le_of_ble_eq_true rfl) (w' := (fx a cI cZ (sg σ 7 0))) rfl dX0_beginAnew_2 ?_
  refine j_aload_n h 0 dX0_beginAnew_5 rfl rfl ?_
  refine j_iconst h (v := 0) dX0_beginAnew_6 (by decide) ?_
  refine j_put h iX0 tyX0 tyX0_ok nmX0 13 rfl rfl 4 (by decide) tb1_129 rfl rfl rfl rfl (Nat.le_of_ble_eq_true rfl) (w' := (fx a cI cZ (sg (sg σ 7 0) 8 0))) rfl dX0_beginAnew_7 ?_
  have E : fX0_beginAnew σ = (sg (sg σ 7 0) 8 0) := rfl
  exact j_vreturn h hr (fun _ => 0) (congrArg (fx a cI cZ) E).symm dX0_beginAnew_10
theorem fr_fX0_beginAnew (σ : St) : Fr (fX0_beginAnew σ) σ := by
  have E : fX0_beginAnew σ = (sg (sg σ 7 0) 8 0) := rfl
  rw [E]
  exact (Fr.tr (Fr.sg (by decide)) (Fr.tr (Fr.sg (by decide)) (Fr.rf _)))
def fX0_size (σ : St) : Int32 := (σ.1 8)
def rmX0_size : Room := { frames := 0, cells := 0, slots := 0, locals := 0 }
set_option maxRecDepth 100000 in
set_option maxHeartbeats 4000000 in
theorem kX0_size (l : Launch) (D : va_G) (a : Nat → Nat) (cI cZ : ClassId) (σ : St) : Ci l yX0_size cX0_size 1 (some .int) TB rmX0_size D vwCl [(cI, .int), (cZ, .boolean)] [.ref (a 13)] (fx a cI cZ σ) (fx a cI cZ σ) (fX0_size σ) := by
  refine Ci_of (cc := cX0_size) (maxL := 1) (ret := (some .int)) (by decide +kernel) TBg (Nat.le_of_ble_eq_true rfl) ?_
  intro p e s m args below meth c A h hr
  refine j_aload_n h 0 dX0_size_0 rfl rfl ?_
  refine j_get h iX0 13 rfl rfl 4 (by decide) tb1_129 rfl (v := .int (σ.1 8)) rfl dX0_size_1 ?_
  have E : fX0_size σ = (σ.1 8) := rfl
  exact j_ireturn h hr E.symm rfl dX0_size_4
def fX0_append (σ : St) (x1 x2 x3 : Int32) : St := (if 400 ≤ (σ.1 8) then (sg (ar (ar (ar σ 8 (upd (σ.2 8) (fm ((σ.1 7) + (σ.1 8)) 400).toNatClampNeg x1)) 9 (upd (σ.2 9) (fm ((σ.1 7) + (σ.1 8)) 400).toNatClampNeg x2)) 10 (upd (σ.2 10) (fm ((σ.1 7) + (σ.1 8)) 400).toNatClampNeg x3)) 7 (fm ((σ.1 7) + 1) 400)) else (sg (ar (ar (ar σ 8 (upd (σ.2 8) (fm ((σ.1 7) + (σ.1 8)) 400).toNatClampNeg x1)) 9 (upd (σ.2 9) (fm ((σ.1 7) + (σ.1 8)) 400).toNatClampNeg x2)) 10 (upd (σ.2 10) (fm ((σ.1 7) + (σ.1 8)) 400).toNatClampNeg x3)) 8 ((σ.1 8) + 1)))
def rmX0_append : Room := { frames := 1, cells := 0, slots := 0, locals := 22 }
set_option maxRecDepth 100000 in
set_option maxHeartbeats 4000000 in
theorem kX0_append (l : Launch) (D : va_G) (a : Nat → Nat) (cI cZ : ClassId) (σ : St) (x1 x2 x3 : Int32) : Cv l yX0_append cX0_append 5 none TB rmX0_append D vwCl [(cI, .int), (cZ, .boolean)] [.ref (a 13), .int x1, .int x2, .int x3] (fx a cI cZ σ) (fun _ => (fx a cI cZ (fX0_append σ x1 x2 x3))) 0 0 := by
  refine Cv_of (cc := cX0_append) (maxL := 5) (ret := none) (by decide +kernel) TBg (Nat.le_of_ble_eq_true rfl) ?_
  intro p e s m args below meth c A h hr hname
  refine j_aload_n h 0 dX0_append_0 rfl rfl ?_
  refine j_get h iX0 13 rfl rfl 3 (by decide) tb1_128 rfl (v := .int (σ.1 7)) rfl dX0_append_1 ?_
  refine j_aload_n h 0 dX0_append_4 rfl rfl ?_
  refine j_get h iX0 13 rfl rfl 4 (by decide) tb1_129 rfl (v := .int (σ.1 8)) rfl dX0_append_5 ?_
  refine j_iadd h dX0_append_8 ?_
  refine j_sipush h (v := 400) dX0_append_9 (by decide) ?_
  refine j_callSi0 h (kJ9_floorMod l D cI cZ ((σ.1 7) + (σ.1 8)) 400 (by decide)) tb3_59 tb1_37 tb1_3 tb1_38 ⟨rfl, rfl⟩ (n := 2) (by decide +kernel) ⟨Nat.le_of_ble_eq_true rfl, Nat.le_of_ble_eq_true rfl⟩ (As := [.int ((σ.1 7) + (σ.1 8)), .int 400]) rfl (st := []) rfl (Nat.le_of_ble_eq_true rfl) dX0_append_12 ⟨Nat.zero_le _, Nat.zero_le _⟩ ?_
  refine j_istore h (lv' := [(4, .int (fm ((σ.1 7) + (σ.1 8)) 400)), (0, .ref (a 13)), (1, .int x1), (2, .int x2), (3, .int x3)]) dX0_append_15 (by decide) rfl ?_
  refine j_aload_n h 1 dX0_append_17 rfl rfl ?_
  refine j_get h iX0 13 rfl rfl 0 (by decide) tb1_125 rfl (v := .ref (a 14)) rfl dX0_append_18 ?_
  refine j_iload h 0 dX0_append_21 rfl ?_
  refine j_iload_n h 2 dX0_append_23 rfl rfl ?_
  refine j_iast h 14 0 rfl rfl (fm_in400 _) (w' := (fx a cI cZ (ar σ 8 (upd (σ.2 8) (fm ((σ.1 7) + (σ.1 8)) 400).toNatClampNeg x1)))) rfl dX0_append_24 ?_
  refine j_aload_n h 1 dX0_append_25 rfl rfl ?_
  refine j_get h iX0 13 rfl rfl 1 (by decide) tb1_126 rfl (v := .ref (a 15)) rfl dX0_append_26 ?_
  refine j_iload h 0 dX0_append_29 rfl ?_
  refine j_iload_n h 3 dX0_append_31 rfl rfl ?_
  refine j_iast h 15 0 rfl rfl (fm_in400 _) (w' := (fx a cI cZ (ar (ar σ 8 (upd (σ.2 8) (fm ((σ.1 7) + (σ.1 8)) 400).toNatClampNeg x1)) 9 (upd (σ.2 9) (fm ((σ.1 7) + (σ.1 8)) 400).toNatClampNeg x2)))) rfl dX0_append_32 ?_
  refine j_aload_n h 1 dX0_append_33 rfl rfl ?_
  refine j_get h iX0 13 rfl rfl 2 (by decide) tb1_127 rfl (v := .ref (a 16)) rfl dX0_append_34 ?_
  refine j_iload h 0 dX0_append_37 rfl ?_
  refine j_iload_n h 4 dX0_append_39 rfl rfl ?_
  refine j_iast h 16 0 rfl rfl (fm_in400 _) (w' := (fx a cI cZ (ar (ar (ar σ 8 (upd (σ.2 8) (fm ((σ.1 7) + (σ.1 8)) 400).toNatClampNeg x1)) 9 (upd (σ.2 9) (fm ((σ.1 7) + (σ.1 8)) 400).toNatClampNeg x2)) 10 (upd (σ.2 10) (fm ((σ.1 7) + (σ.1 8)) 400).toNatClampNeg x3)))) rfl dX0_append_40 ?_
  refine j_aload_n h 1 dX0_append_41 rfl rfl ?_
  refine j_get h iX0 13 rfl rfl 4 (by decide) tb1_129 rfl (v := .int (σ.1 8)) rfl dX0_append_42 ?_
  refine j_sipush h (v := 400) dX0_append_45 (by decide) ?_
  refine j_icmp_ge h dX0_append_48 (tgt := 64) (by decide) (fun c1 => ?_) (fun c1 => ?_)
  ·
    refine j_aload_n h 1 dX0_append_64 rfl rfl ?_
    refine j_aload_n h 1 dX0_append_65 rfl rfl ?_
    refine j_get h iX0 13 rfl rfl 3 (by decide) tb1_128 rfl (v := .int (σ.1 7)) rfl dX0_append_66 ?_
    refine j_iconst h (v := 1) dX0_append_69 (by decide) ?_
    refine j_iadd h dX0_append_70 ?_
    refine j_sipush h (v := 400) dX0_append_71 (by decide) ?_
    refine j_callSi0 h (kJ9_floorMod l D cI cZ ((σ.1 7) + 1) 400 (by decide)) tb3_59 tb1_37 tb1_3 tb1_38 ⟨rfl, rfl⟩ (n := 2) (by decide +kernel) ⟨Nat.le_of_ble_eq_true rfl, Nat.le_of_ble_eq_true rfl⟩ (As := [.int ((σ.1 7) + 1), .int 400]) rfl (st := [.ref (a 13)]) rfl (Nat.le_of_ble_eq_true rfl) dX0_append_74 ⟨Nat.zero_le _, Nat.zero_le _⟩ ?_
    refine j_put h iX0 tyX0 tyX0_ok nmX0 13 rfl rfl 3 (by decide) tb1_128 rfl rfl rfl rfl (Nat.le_of_ble_eq_true rfl) (w' := (fx a cI cZ (sg (ar (ar (ar σ 8 (upd (σ.2 8) (fm ((σ.1 7) + (σ.1 8)) 400).toNatClampNeg x1)) 9 (upd (σ.2 9) (fm ((σ.1 7) + (σ.1 8)) 400).toNatClampNeg x2)) 10 (upd (σ.2 10) (fm ((σ.1 7) + (σ.1 8)) 400).toNatClampNeg x3)) 7 (fm ((σ.1 7) + 1) 400)))) rfl dX0_append_77 ?_
    have E : fX0_append σ x1 x2 x3 = (sg (ar (ar (ar σ 8 (upd (σ.2 8) (fm ((σ.1 7) + (σ.1 8)) 400).toNatClampNeg x1)) 9 (upd (σ.2 9) (fm ((σ.1 7) + (σ.1 8)) 400).toNatClampNeg x2)) 10 (upd (σ.2 10) (fm ((σ.1 7) + (σ.1 8)) 400).toNatClampNeg x3)) 7 (fm ((σ.1 7) + 1) 400)) := j_ip c1 rfl
    exact j_vreturn h hr (fun _ => 0) (congrArg (fx a cI cZ) E).symm dX0_append_80
  ·
    refine j_aload_n h 1 dX0_append_51 rfl rfl ?_
    refine j_dup h dX0_append_52 rfl ?_
    refine j_get h iX0 13 rfl rfl 4 (by decide) tb1_129 rfl (v := .int (σ.1 8)) rfl dX0_append_53 ?_
    refine j_iconst h (v := 1) dX0_append_56 (by decide) ?_
    refine j_iadd h dX0_append_57 ?_
    refine j_put h iX0 tyX0 tyX0_ok nmX0 13 rfl rfl 4 (by decide) tb1_129 rfl rfl rfl rfl (Nat.le_of_ble_eq_true rfl) (w' := (fx a cI cZ (sg (ar (ar (ar σ 8 (upd (σ.2 8) (fm ((σ.1 7) + (σ.1 8)) 400).toNatClampNeg x1)) 9 (upd (σ.2 9) (fm ((σ.1 7) + (σ.1 8)) 400).toNatClampNeg x2)) 10 (upd (σ.2 10) (fm ((σ.1 7) + (σ.1 8)) 400).toNatClampNeg x3)) 8 ((σ.1 8) + 1)))) rfl dX0_append_58 ?_
    refine j_goto h dX0_append_61 (tgt := 80) (by decide) ?_
    have E : fX0_append σ x1 x2 x3 = (sg (ar (ar (ar σ 8 (upd (σ.2 8) (fm ((σ.1 7) + (σ.1 8)) 400).toNatClampNeg x1)) 9 (upd (σ.2 9) (fm ((σ.1 7) + (σ.1 8)) 400).toNatClampNeg x2)) 10 (upd (σ.2 10) (fm ((σ.1 7) + (σ.1 8)) 400).toNatClampNeg x3)) 8 ((σ.1 8) + 1)) := j_ig c1 rfl
    exact j_vreturn h hr (fun _ => 0) (congrArg (fx a cI cZ) E).symm dX0_append_80
theorem fr_fX0_append (σ : St) (x1 x2 x3 : Int32) : Fr (fX0_append σ x1 x2 x3) σ := by
  by_cases c0 : 400 ≤ (σ.1 8)
  ·
    have E : fX0_append σ x1 x2 x3 = (sg (ar (ar (ar σ 8 (upd (σ.2 8) (fm ((σ.1 7) + (σ.1 8)) 400).toNatClampNeg x1)) 9 (upd (σ.2 9) (fm ((σ.1 7) + (σ.1 8)) 400).toNatClampNeg x2)) 10 (upd (σ.2 10) (fm ((σ.1 7) + (σ.1 8)) 400).toNatClampNeg x3)) 7 (fm ((σ.1 7) + 1) 400)) := j_ip c0 rfl
    rw [E]
    exact (Fr.tr (Fr.sg (by decide)) (Fr.tr Fr.ar (Fr.tr Fr.ar (Fr.tr Fr.ar (Fr.rf _)))))
  ·
    have E : fX0_append σ x1 x2 x3 = (sg (ar (ar (ar σ 8 (upd (σ.2 8) (fm ((σ.1 7) + (σ.1 8)) 400).toNatClampNeg x1)) 9 (upd (σ.2 9) (fm ((σ.1 7) + (σ.1 8)) 400).toNatClampNeg x2)) 10 (upd (σ.2 10) (fm ((σ.1 7) + (σ.1 8)) 400).toNatClampNeg x3)) 8 ((σ.1 8) + 1)) := j_ig c0 rfl
    rw [E]
    exact (Fr.tr (Fr.sg (by decide)) (Fr.tr Fr.ar (Fr.tr Fr.ar (Fr.tr Fr.ar (Fr.rf _)))))
def fX0_entry (σ : St) (x1 x2 : Int32) : Int32 := (if x2 = 0 then ((σ.2 8) (fm ((σ.1 7) + x1) 400).toNatClampNeg) else (if x2 = 1 then ((σ.2 9) (fm ((σ.1 7) + x1) 400).toNatClampNeg) else ((σ.2 10) (fm ((σ.1 7) + x1) 400).toNatClampNeg)))
def rmX0_entry : Room := { frames := 1, cells := 0, slots := 0, locals := 22 }
set_option maxRecDepth 100000 in
set_option maxHeartbeats 4000000 in
theorem kX0_entry (l : Launch) (D : va_G) (a : Nat → Nat) (cI cZ : ClassId) (σ : St) (x1 x2 : Int32) : Ci l yX0_entry cX0_entry 4 (some .int) TB rmX0_entry D vwCl [(cI, .int), (cZ, .boolean)] [.ref (a 13), .int x1, .int x2] (fx a cI cZ σ) (fx a cI cZ σ) (fX0_entry σ x1 x2) := by
  refine Ci_of (cc := cX0_entry) (maxL := 4) (ret := (some .int)) (by decide +kernel) TBg (Nat.le_of_ble_eq_true rfl) ?_
  intro p e s m args below meth c A h hr
  refine j_aload_n h 0 dX0_entry_0 rfl rfl ?_
  refine j_get h iX0 13 rfl rfl 3 (by decide) tb1_128 rfl (v := .int (σ.1 7)) rfl dX0_entry_1 ?_
  refine j_iload_n h 1 dX0_entry_4 rfl rfl ?_
  refine j_iadd h dX0_entry_5 ?_
  refine j_sipush h (v := 400) dX0_entry_6 (by decide) ?_
  refine j_callSi0 h (kJ9_floorMod l D cI cZ ((σ.1 7) + x1) 400 (by decide)) tb3_59 tb1_37 tb1_3 tb1_38 ⟨rfl, rfl⟩ (n := 2) (by decide +kernel) ⟨Nat.le_of_ble_eq_true rfl, Nat.le_of_ble_eq_true rfl⟩ (As := [.int ((σ.1 7) + x1), .int 400]) rfl (st := []) rfl (Nat.le_of_ble_eq_true rfl) dX0_entry_9 ⟨Nat.zero_le _, Nat.zero_le _⟩ ?_
  refine j_istore_n h (lv' := [(3, .int (fm ((σ.1 7) + x1) 400)), (0, .ref (a 13)), (1, .int x1), (2, .int x2)]) dX0_entry_12 rfl (by decide) rfl ?_
  refine j_iload_n h 3 dX0_entry_13 rfl rfl ?_
  by_cases c1 : x2 = 0
  ·
    refine j_lookup h dX0_entry_14 (off := 26) (tgt := 40) (by decide) (by rw [c1]; decide) (by decide) ?_
    refine j_aload_n h 1 dX0_entry_40 rfl rfl ?_
    refine j_get h iX0 13 rfl rfl 0 (by decide) tb1_125 rfl (v := .ref (a 14)) rfl dX0_entry_41 ?_
    refine j_iload_n h 0 dX0_entry_44 rfl rfl ?_
    refine j_iald h 14 0 rfl rfl (fm_in400 _) dX0_entry_45 ?_
    have E : fX0_entry σ x1 x2 = ((σ.2 8) (fm ((σ.1 7) + x1) 400).toNatClampNeg) := j_ip c1 rfl
    exact j_ireturn h hr E.symm rfl dX0_entry_46
  ·
    by_cases c2 : x2 = 1
    ·
      refine j_lookup h dX0_entry_14 (off := 33) (tgt := 47) (by decide) (by rw [c2]; decide) (by decide) ?_
      refine j_aload_n h 1 dX0_entry_47 rfl rfl ?_
      refine j_get h iX0 13 rfl rfl 1 (by decide) tb1_126 rfl (v := .ref (a 15)) rfl dX0_entry_48 ?_
      refine j_iload_n h 0 dX0_entry_51 rfl rfl ?_
      refine j_iald h 15 0 rfl rfl (fm_in400 _) dX0_entry_52 ?_
      have E : fX0_entry σ x1 x2 = ((σ.2 9) (fm ((σ.1 7) + x1) 400).toNatClampNeg) := j_ig c1 (j_ip c2 rfl)
      exact j_ireturn h hr E.symm rfl dX0_entry_53
    ·
      refine j_lookup h dX0_entry_14 (off := 40) (tgt := 54) (by decide) (by rw [show ([(0, 26), (1, 33)] : List (Int × Int)) = [(0, 26), (1, 33)] from rfl, lv_osw c1 (by decide), lv_osw c2 (by decide)]; rfl) (by decide) ?_
      refine j_aload_n h 1 dX0_entry_54 rfl rfl ?_
      refine j_get h iX0 13 rfl rfl 2 (by decide) tb1_127 rfl (v := .ref (a 16)) rfl dX0_entry_55 ?_
      refine j_iload_n h 0 dX0_entry_58 rfl rfl ?_
      refine j_iald h 16 0 rfl rfl (fm_in400 _) dX0_entry_59 ?_
      have E : fX0_entry σ x1 x2 = ((σ.2 10) (fm ((σ.1 7) + x1) 400).toNatClampNeg) := j_ig c1 (j_ig c2 rfl)
      exact j_ireturn h hr E.symm rfl dX0_entry_60
def fX6_beginAnew (σ : St) : St := (sg (sg (sg (sg (sg (sg (sg (ar σ 11 (fillF 5 0 (σ.2 11))) 9 0) 10 0) 11 0) 12 0) 13 0) 14 0) 15 0)
def rmX6_beginAnew : Room := { frames := 1, cells := 0, slots := 0, locals := 23 }
set_option maxRecDepth 100000 in
set_option maxHeartbeats 4000000 in
theorem kX6_beginAnew (l : Launch) (D : va_G) (a : Nat → Nat) (cI cZ : ClassId) (σ : St) : Cv l yX6_beginAnew cX6_beginAnew 1 none TB rmX6_beginAnew D vwCl [(cI, .int), (cZ, .boolean)] [.ref (a 17)] (fx a cI cZ σ) (fun _ => (fx a cI cZ (fX6_beginAnew σ))) 0 0 := by
  refine Cv_of (cc := cX6_beginAnew) (maxL := 1) (ret := none) (by decide +kernel) TBg (Nat.le_of_ble_eq_true rfl) ?_
  intro p e s m args below meth c A h hr hname
  refine j_aload_n h 0 dX6_beginAnew_0 rfl rfl ?_
  refine j_get h iX6 17 rfl rfl 0 (by decide) tb1_147 rfl (v := .ref (a 18)) rfl dX6_beginAnew_1 ?_
  refine j_iconst h (v := 0) dX6_beginAnew_4 (by decide) ?_
  refine j_callSvG h (kJ7_fill l D cI cZ (a 18) 5 (σ.2 11) 0 (by decide)) tb2_53 tb1_106 tb1_7 tb1_107 ⟨rfl, rfl⟩ (n := 2) (by decide +kernel) ⟨Nat.le_of_ble_eq_true rfl, Nat.le_of_ble_eq_true rfl⟩ (As := [.ref (a 18), .int 0]) rfl (st := []) rfl (Nat.le_of_ble_eq_true rfl) dX6_beginAnew_5 ⟨Nat.zero_le _, Nat.zero_le _⟩ [18] [0, 1, 2, 3, 4, 5, 6, 7, 8, 9, 10, 11, 12, 13, 14, 15, 16, 17, 19, 20, 21, 22, 23, 24] [0, 1, 2, 3, 4, 5, 6, 7, 8, 9, 10, 11, 12, 13, 14, 15, 16, 17, 24, 18, 19, 20, 21, 22, 23] rfl rfl (wr := ((fx a cI cZ σ).eraseIdx 18)) rfl rfl (by decide) (w2 := (fx a cI cZ (ar σ 11 (fillF 5 0 (σ.2 11))))) rfl rfl ?_
  refine j_aload_n h 0 dX6_beginAnew_8 rfl rfl ?_
  refine j_iconst h (v := 0) dX6_beginAnew_9 (by decide) ?_
  refine j_put h iX6 tyX6 tyX6_ok nmX6 17 rfl rfl 1 (by decide) tb1_148 rfl rfl rfl rfl (Nat.le_of_ble_eq_true rfl) (w' := (fx a cI cZ (sg (ar σ 11 (fillF 5 0 (σ.2 11))) 9 0))) rfl dX6_beginAnew_10 ?_
  refine j_aload_n h 0 dX6_beginAnew_13 rfl rfl ?_
  refine j_iconst h (v := 0) dX6_beginAnew_14 (by decide) ?_
  refine j_put h iX6 tyX6 tyX6_ok nmX6 17 rfl rfl 2 (by decide) tb1_151 rfl rfl rfl rfl (Nat.le_of_ble_eq_true rfl) (w' := (fx a cI cZ (sg (sg (ar σ 11 (fillF 5 0 (σ.2 11))) 9 0) 10 0))) rfl dX6_beginAnew_15 ?_
  refine j_aload_n h 0 dX6_beginAnew_18 rfl rfl ?_
  refine j_iconst h (v := 0) dX6_beginAnew_19 (by decide) ?_
  refine j_put h iX6 tyX6 tyX6_ok nmX6 17 rfl rfl 3 (by decide) tb1_154 rfl rfl rfl rfl (Nat.le_of_ble_eq_true rfl) (w' := (fx a cI cZ (sg (sg (sg (ar σ 11 (fillF 5 0 (σ.2 11))) 9 0) 10 0) 11 0))) rfl dX6_beginAnew_20 ?_
  refine j_aload_n h 0 dX6_beginAnew_23 rfl rfl ?_
  refine j_iconst h (v := 0) dX6_beginAnew_24 (by decide) ?_
  refine j_put h iX6 tyX6 tyX6_ok nmX6 17 rfl rfl 4 (by decide) tb1_157 rfl rfl rfl rfl (Nat.le_of_ble_eq_true rfl) (w' := (fx a cI cZ (sg (sg (sg (sg (ar σ 11 (fillF 5 0 (σ.2 11))) 9 0) 10 0) 11 0) 12 0))) rfl dX6_beginAnew_25 ?_
  refine j_aload_n h 0 dX6_beginAnew_28 rfl rfl ?_
  refine j_iconst h (v := 0) dX6_beginAnew_29 (by decide) ?_
  refine j_put h iX6 tyX6 tyX6_ok nmX6 17 rfl rfl 5 (by decide) tb1_160 rfl rfl rfl rfl (Nat.le_of_ble_eq_true rfl) (w' := (fx a cI cZ (sg (sg (sg (sg (sg (ar σ 11 (fillF 5 0 (σ.2 11))) 9 0) 10 0) 11 0) 12 0) 13 0))) rfl dX6_beginAnew_30 ?_
  refine j_aload_n h 0 dX6_beginAnew_33 rfl rfl ?_
  refine j_iconst h (v := 0) dX6_beginAnew_34 (by decide) ?_
  refine j_put h iX6 tyX6 tyX6_ok nmX6 17 rfl rfl 6 (by decide) tb1_163 rfl rfl rfl rfl (Nat.le_of_ble_eq_true rfl) (w' := (fx a cI cZ (sg (sg (sg (sg (sg (sg (ar σ 11 (fillF 5 0 (σ.2 11))) 9 0) 10 0) 11 0) 12 0) 13 0) 14 0))) rfl dX6_beginAnew_35 ?_
  refine j_aload_n h 0 dX6_beginAnew_38 rfl rfl ?_
  refine j_iconst h (v := 0) dX6_beginAnew_39 (by decide) ?_
  refine j_put h iX6 tyX6 tyX6_ok nmX6 17 rfl rfl 7 (by decide) tb1_166 rfl rfl rfl rfl (Nat.le_of_ble_eq_true rfl) (w' := (fx a cI cZ (sg (sg (sg (sg (sg (sg (sg (ar σ 11 (fillF 5 0 (σ.2 11))) 9 0) 10 0) 11 0) 12 0) 13 0) 14 0) 15 0))) rfl dX6_beginAnew_40 ?_
  have E : fX6_beginAnew σ = (sg (sg (sg (sg (sg (sg (sg (ar σ 11 (fillF 5 0 (σ.2 11))) 9 0) 10 0) 11 0) 12 0) 13 0) 14 0) 15 0) := rfl
  exact j_vreturn h hr (fun _ => 0) (congrArg (fx a cI cZ) E).symm dX6_beginAnew_43
theorem fr_fX6_beginAnew (σ : St) : Fr (fX6_beginAnew σ) σ := by
  have E : fX6_beginAnew σ = (sg (sg (sg (sg (sg (sg (sg (ar σ 11 (fillF 5 0 (σ.2 11))) 9 0) 10 0) 11 0) 12 0) 13 0) 14 0) 15 0) := rfl
  rw [E]
  exact (Fr.tr (Fr.sg (by decide)) (Fr.tr (Fr.sg (by decide)) (Fr.tr (Fr.sg (by decide)) (Fr.tr (Fr.sg (by decide)) (Fr.tr (Fr.sg (by decide)) (Fr.tr (Fr.sg (by decide)) (Fr.tr (Fr.sg (by decide)) (Fr.tr Fr.ar (Fr.rf _)))))))))
def fX6_addCause (σ : St) (x1 : Int32) : St := (if x1 < 0 then σ else (if 5 ≤ x1 then σ else (ar σ 11 (upd (σ.2 11) x1.toNatClampNeg (((σ.2 11) x1.toNatClampNeg) + 1)))))
def rmX6_addCause : Room := { frames := 0, cells := 0, slots := 0, locals := 0 }
set_option maxRecDepth 100000 in
set_option maxHeartbeats 4000000 in
theorem kX6_addCause (l : Launch) (D : va_G) (a : Nat → Nat) (cI cZ : ClassId) (σ : St) (x1 : Int32) : Cv l yX6_addCause cX6_addCause 2 none TB rmX6_addCause D vwCl [(cI, .int), (cZ, .boolean)] [.ref (a 17), .int x1] (fx a cI cZ σ) (fun _ => (fx a cI cZ (fX6_addCause σ x1))) 0 0 := by
  refine Cv_of (cc := cX6_addCause) (maxL := 2) (ret := none) (by decide +kernel) TBg (Nat.le_of_ble_eq_true rfl) ?_
  intro p e s m args below meth c A h hr hname
  refine j_iload_n h 1 dX6_addCause_0 rfl rfl ?_
  refine j_if_lt h dX6_addCause_1 (tgt := 19) (by decide) (fun c1 => ?_) (fun c1 => ?_)
  ·
    have E : fX6_addCause σ x1 = σ := j_ip c1 rfl
    exact j_vreturn h hr (fun _ => 0) (congrArg (fx a cI cZ) E).symm dX6_addCause_19
  ·
    refine j_iload_n h 1 dX6_addCause_4 rfl rfl ?_
    refine j_iconst h (v := 5) dX6_addCause_5 (by decide) ?_
    refine j_icmp_ge h dX6_addCause_6 (tgt := 19) (by decide) (fun c2 => ?_) (fun c2 => ?_)
    ·
      have E : fX6_addCause σ x1 = σ := j_ig c1 (j_ip c2 rfl)
      exact j_vreturn h hr (fun _ => 0) (congrArg (fx a cI cZ) E).symm dX6_addCause_19
    ·
      refine j_aload_n h 0 dX6_addCause_9 rfl rfl ?_
      refine j_get h iX6 17 rfl rfl 0 (by decide) tb1_147 rfl (v := .ref (a 18)) rfl dX6_addCause_10 ?_
      refine j_iload_n h 1 dX6_addCause_13 rfl rfl ?_
      refine j_dup2 h dX6_addCause_14 rfl rfl ?_
      refine j_iald h 18 0 rfl rfl (j_in5 (j_lo1 c1) (j_hi1 c2)) dX6_addCause_15 ?_
      refine j_iconst h (v := 1) dX6_addCause_16 (by decide) ?_
      refine j_iadd h dX6_addCause_17 ?_
      refine j_iast h 18 0 rfl rfl (j_in5 (j_lo1 c1) (j_hi1 c2)) (w' := (fx a cI cZ (ar σ 11 (upd (σ.2 11) x1.toNatClampNeg (((σ.2 11) x1.toNatClampNeg) + 1))))) rfl dX6_addCause_18 ?_
      have E : fX6_addCause σ x1 = (ar σ 11 (upd (σ.2 11) x1.toNatClampNeg (((σ.2 11) x1.toNatClampNeg) + 1))) := j_ig c1 (j_ig c2 rfl)
      exact j_vreturn h hr (fun _ => 0) (congrArg (fx a cI cZ) E).symm dX6_addCause_19
theorem fr_fX6_addCause (σ : St) (x1 : Int32) : Fr (fX6_addCause σ x1) σ := by
  by_cases c0 : x1 < 0
  ·
    have E : fX6_addCause σ x1 = σ := j_ip c0 rfl
    rw [E]
    exact (Fr.rf _)
  ·
    by_cases c1 : 5 ≤ x1
    ·
      have E : fX6_addCause σ x1 = σ := j_ig c0 (j_ip c1 rfl)
      rw [E]
      exact (Fr.rf _)
    ·
      have E : fX6_addCause σ x1 = (ar σ 11 (upd (σ.2 11) x1.toNatClampNeg (((σ.2 11) x1.toNatClampNeg) + 1))) := j_ig c0 (j_ig c1 rfl)
      rw [E]
      exact (Fr.tr Fr.ar (Fr.rf _))
def fX6_cyclesWith (σ : St) (x1 : Int32) : Int32 := (if x1 < 0 then 0 else (if 5 ≤ x1 then 0 else ((σ.2 11) x1.toNatClampNeg)))
def rmX6_cyclesWith : Room := { frames := 0, cells := 0, slots := 0, locals := 0 }
set_option maxRecDepth 100000 in
set_option maxHeartbeats 4000000 in
theorem kX6_cyclesWith (l : Launch) (D : va_G) (a : Nat → Nat) (cI cZ : ClassId) (σ : St) (x1 : Int32) : Ci l yX6_cyclesWith cX6_cyclesWith 2 (some .int) TB rmX6_cyclesWith D vwCl [(cI, .int), (cZ, .boolean)] [.ref (a 17), .int x1] (fx a cI cZ σ) (fx a cI cZ σ) (fX6_cyclesWith σ x1) := by
  refine Ci_of (cc := cX6_cyclesWith) (maxL := 2) (ret := (some .int)) (by decide +kernel) TBg (Nat.le_of_ble_eq_true rfl) ?_
  intro p e s m args below meth c A h hr
  refine j_iload_n h 1 dX6_cyclesWith_0 rfl rfl ?_
  refine j_if_lt h dX6_cyclesWith_1 (tgt := 18) (by decide) (fun c1 => ?_) (fun c1 => ?_)
  ·
    refine j_iconst h (v := 0) dX6_cyclesWith_18 (by decide) ?_
    have E : fX6_cyclesWith σ x1 = 0 := j_ip c1 rfl
    exact j_ireturn h hr E.symm rfl dX6_cyclesWith_19
  ·
    refine j_iload_n h 1 dX6_cyclesWith_4 rfl rfl ?_
    refine j_iconst h (v := 5) dX6_cyclesWith_5 (by decide) ?_
    refine j_icmp_ge h dX6_cyclesWith_6 (tgt := 18) (by decide) (fun c2 => ?_) (fun c2 => ?_)
    ·
      refine j_iconst h (v := 0) dX6_cyclesWith_18 (by decide) ?_
      have E : fX6_cyclesWith σ x1 = 0 := j_ig c1 (j_ip c2 rfl)
      exact j_ireturn h hr E.symm rfl dX6_cyclesWith_19
    ·
      refine j_aload_n h 0 dX6_cyclesWith_9 rfl rfl ?_
      refine j_get h iX6 17 rfl rfl 0 (by decide) tb1_147 rfl (v := .ref (a 18)) rfl dX6_cyclesWith_10 ?_
      refine j_iload_n h 1 dX6_cyclesWith_13 rfl rfl ?_
      refine j_iald h 18 0 rfl rfl (j_in5 (j_lo1 c1) (j_hi1 c2)) dX6_cyclesWith_14 ?_
      refine j_goto h dX6_cyclesWith_15 (tgt := 19) (by decide) ?_
      have E : fX6_cyclesWith σ x1 = ((σ.2 11) x1.toNatClampNeg) := j_ig c1 (j_ig c2 rfl)
      exact j_ireturn h hr E.symm rfl dX6_cyclesWith_19
end
section
def fX1_beginAnew (σ : St) : St := (let q1 := (fX5_beginAnew σ); (let q2 := (fX0_beginAnew q1); (let q3 := (fX6_beginAnew q2); (let q4 := (fX2_beginAnewA q3); (let q5 := (fX2_beginAnewL q4); (sg (sg (sg (sg (sg q5 18 0) 19 0) 20 0) 21 0) 22 0))))))
def rmX1_beginAnew : Room := { frames := 3, cells := 0, slots := 0, locals := 67 }
set_option maxRecDepth 100000 in
set_option maxHeartbeats 4000000 in
theorem kX1_beginAnew (l : Launch) (D : va_G) (a : Nat → Nat) (cI cZ : ClassId) (σ : St) : Cv l yX1_beginAnew cX1_beginAnew 1 none TB rmX1_beginAnew D vwCl [(cI, .int), (cZ, .boolean)] [.ref (a 8)] (fx a cI cZ σ) (fun _ => (fx a cI cZ (fX1_beginAnew σ))) 0 0 := by
  refine Cv_of (cc := cX1_beginAnew) (maxL := 1) (ret := none) (by decide +kernel) TBg (Nat.le_of_ble_eq_true rfl) ?_
  intro p e s m args below meth c A h hr hname
  refine j_aload_n h 0 dX1_beginAnew_0 rfl rfl ?_
  refine j_get h iX1 8 rfl rfl 2 (by decide) tb1_204 rfl (v := .ref (a 9)) rfl dX1_beginAnew_1 ?_
  refine j_callVv h (kX5_beginAnew l D a cI cZ σ) tb2_33 tb2_34 tb2_35 tb1_6 tb2_36 ⟨rfl, rfl⟩ (n := 0) (by decide +kernel) ⟨Nat.le_of_ble_eq_true rfl, Nat.le_of_ble_eq_true rfl⟩ (As := []) rfl (ci := 5) (q0 := 9) rfl rfl (st := []) rfl (Nat.le_of_ble_eq_true rfl) dX1_beginAnew_4 ⟨Nat.zero_le _, Nat.zero_le _⟩ ?_
  generalize hq1 : (fX5_beginAnew σ) = q1
  refine j_aload_n h 0 dX1_beginAnew_7 rfl rfl ?_
  refine j_get h iX1 8 rfl rfl 3 (by decide) tb1_206 rfl (v := .ref (a 13)) rfl dX1_beginAnew_8 ?_
  refine j_callVv h (kX0_beginAnew l D a cI cZ q1) tb2_45 tb2_46 tb2_47 tb1_8 tb2_48 ⟨rfl, rfl⟩ (n := 0) (by decide +kernel) ⟨Nat.le_of_ble_eq_true rfl, Nat.le_of_ble_eq_true rfl⟩ (As := []) rfl (ci := 0) (q0 := 13) rfl rfl (st := []) rfl (Nat.le_of_ble_eq_true rfl) dX1_beginAnew_11 ⟨Nat.zero_le _, Nat.zero_le _⟩ ?_
  generalize hq2 : (fX0_beginAnew q1) = q2
  refine j_aload_n h 0 dX1_beginAnew_14 rfl rfl ?_
  refine j_get h iX1 8 rfl rfl 4 (by decide) tb1_208 rfl (v := .ref (a 17)) rfl dX1_beginAnew_15 ?_
  refine j_callVv h (kX6_beginAnew l D a cI cZ q2) tb2_49 tb2_50 tb2_51 tb1_9 tb2_52 ⟨rfl, rfl⟩ (n := 0) (by decide +kernel) ⟨Nat.le_of_ble_eq_true rfl, Nat.le_of_ble_eq_true rfl⟩ (As := []) rfl (ci := 6) (q0 := 17) rfl rfl (st := []) rfl (Nat.le_of_ble_eq_true rfl) dX1_beginAnew_18 ⟨Nat.zero_le _, Nat.zero_le _⟩ ?_
  generalize hq3 : (fX6_beginAnew q2) = q3
  refine j_aload_n h 0 dX1_beginAnew_21 rfl rfl ?_
  refine j_get h iX1 8 rfl rfl 5 (by decide) tb1_210 rfl (v := .ref (a 19)) rfl dX1_beginAnew_22 ?_
  refine j_callVv h (kX2_beginAnewA l D a cI cZ q3) tb2_54 tb2_55 tb2_56 tb1_10 tb2_57 ⟨rfl, rfl⟩ (n := 0) (by decide +kernel) ⟨Nat.le_of_ble_eq_true rfl, Nat.le_of_ble_eq_true rfl⟩ (As := []) rfl (ci := 2) (q0 := 19) rfl rfl (st := []) rfl (Nat.le_of_ble_eq_true rfl) dX1_beginAnew_25 ⟨Nat.zero_le _, Nat.zero_le _⟩ ?_
  generalize hq4 : (fX2_beginAnewA q3) = q4
  refine j_aload_n h 0 dX1_beginAnew_28 rfl rfl ?_
  refine j_get h iX1 8 rfl rfl 6 (by decide) tb1_211 rfl (v := .ref (a 22)) rfl dX1_beginAnew_29 ?_
  refine j_callVv h (kX2_beginAnewL l D a cI cZ q4) tb2_54 tb2_55 tb2_56 tb1_10 tb2_57 ⟨rfl, rfl⟩ (n := 0) (by decide +kernel) ⟨Nat.le_of_ble_eq_true rfl, Nat.le_of_ble_eq_true rfl⟩ (As := []) rfl (ci := 2) (q0 := 22) rfl rfl (st := []) rfl (Nat.le_of_ble_eq_true rfl) dX1_beginAnew_32 ⟨Nat.zero_le _, Nat.zero_le _⟩ ?_
  generalize hq5 : (fX2_beginAnewL q4) = q5
  refine j_aload_n h 0 dX1_beginAnew_35 rfl rfl ?_
  refine j_iconst h (v := 0) dX1_beginAnew_36 (by decide) ?_
  refine j_put h iX1 tyX1 tyX1_ok nmX1 8 rfl rfl 9 (by decide) tb1_217 rfl rfl rfl rfl (Nat.le_of_ble_eq_true rfl) (w' := (fx a cI cZ (sg q5 18 0))) rfl dX1_beginAnew_37 ?_
  refine j_aload_n h 0 dX1_beginAnew_40 rfl rfl ?_
  refine j_iconst h (v := 0) dX1_beginAnew_41 (by decide) ?_
  refine j_put h iX1 tyX1 tyX1_ok nmX1 8 rfl rfl 10 (by decide) tb1_218 rfl rfl rfl rfl (Nat.le_of_ble_eq_true rfl) (w' := (fx a cI cZ (sg (sg q5 18 0) 19 0))) rfl dX1_beginAnew_42 ?_
  refine j_aload_n h 0 dX1_beginAnew_45 rfl rfl ?_
  refine j_iconst h (v := 0) dX1_beginAnew_46 (by decide) ?_
  refine j_put h iX1 tyX1 tyX1_ok nmX1 8 rfl rfl 11 (by decide) tb1_219 rfl rfl rfl rfl (Nat.le_of_ble_eq_true rfl) (w' := (fx a cI cZ (sg (sg (sg q5 18 0) 19 0) 20 0))) rfl dX1_beginAnew_47 ?_
  refine j_aload_n h 0 dX1_beginAnew_50 rfl rfl ?_
  refine j_iconst h (v := 0) dX1_beginAnew_51 (by decide) ?_
  refine j_put h iX1 tyX1 tyX1_ok nmX1 8 rfl rfl 12 (by decide) tb1_220 rfl rfl rfl rfl (Nat.le_of_ble_eq_true rfl) (w' := (fx a cI cZ (sg (sg (sg (sg q5 18 0) 19 0) 20 0) 21 0))) rfl dX1_beginAnew_52 ?_
  refine j_aload_n h 0 dX1_beginAnew_55 rfl rfl ?_
  refine j_iconst h (v := 0) dX1_beginAnew_56 (by decide) ?_
  refine j_put h iX1 tyX1 tyX1_ok nmX1 8 rfl rfl 13 (by decide) tb1_221 rfl rfl rfl rfl (Nat.le_of_ble_eq_true rfl) (w' := (fx a cI cZ (sg (sg (sg (sg (sg q5 18 0) 19 0) 20 0) 21 0) 22 0))) rfl dX1_beginAnew_57 ?_
  subst hq1 hq2 hq3 hq4 hq5
  have E : fX1_beginAnew σ = (sg (sg (sg (sg (sg (fX2_beginAnewL (fX2_beginAnewA (fX6_beginAnew (fX0_beginAnew (fX5_beginAnew σ))))) 18 0) 19 0) 20 0) 21 0) 22 0) := rfl
  exact j_vreturn h hr (fun _ => 0) (congrArg (fx a cI cZ) E).symm dX1_beginAnew_60
theorem fr_fX1_beginAnew (σ : St) : Fr (fX1_beginAnew σ) σ := by
  have E : fX1_beginAnew σ = (sg (sg (sg (sg (sg (fX2_beginAnewL (fX2_beginAnewA (fX6_beginAnew (fX0_beginAnew (fX5_beginAnew σ))))) 18 0) 19 0) 20 0) 21 0) 22 0) := rfl
  rw [E]
  exact (Fr.tr (Fr.sg (by decide)) (Fr.tr (Fr.sg (by decide)) (Fr.tr (Fr.sg (by decide)) (Fr.tr (Fr.sg (by decide)) (Fr.tr (Fr.sg (by decide)) (Fr.tr (fr_fX2_beginAnewL _) (Fr.tr (fr_fX2_beginAnewA _) (Fr.tr (fr_fX6_beginAnew _) (Fr.tr (fr_fX0_beginAnew _) (Fr.tr (fr_fX5_beginAnew _) (Fr.rf _)))))))))))
def gfX1_isThere : Nat → St → Int32 → Int32 → Int32
  | 0, σ, x1, x2 => 0
  | n + 1, σ, x1, x2 => (if (σ.1 0) ≤ x2 then 1 else (let q2 := (fX5_wordIn σ x2); (let q3 := (fX3_written σ q2); (if q3 = x1 then (if (σ.1 16) = 0 then 0 else (let q6 := (fX3_kindOf σ q2); (let q7 := (fX4_behindWhichReady σ q6); (if x2 ≤ q7 then 0 else 1)))) else gfX1_isThere n σ x1 (x2 + 1)))))
def fX1_isThere (σ : St) (x1 : Int32) : Int32 := (if x1 = (-1) then 1 else gfX1_isThere 9 σ x1 ((σ.1 1) + 1))
def rmX1_isThere : Room := { frames := 1, cells := 0, slots := 0, locals := 21 }
set_option maxRecDepth 100000 in
set_option maxHeartbeats 4000000 in
theorem kX1_isThere (l : Launch) (D : va_G) (a : Nat → Nat) (cI cZ : ClassId) (σ : St) (x1 : Int32) (hs : shp σ) : Ci l yX1_isThere cX1_isThere 4 (some .boolean) TB rmX1_isThere D vwCl [(cI, .int), (cZ, .boolean)] [.ref (a 8), .int x1] (fx a cI cZ σ) (fx a cI cZ σ) (fX1_isThere σ x1) := by
  refine Ci_of (cc := cX1_isThere) (maxL := 4) (ret := (some .boolean)) (by decide +kernel) TBg (Nat.le_of_ble_eq_true rfl) ?_
  intro p e s m args below meth c A h hr
  have loop : ∀ (n : Nat) (σ : St) (x2 : Int32), x2.toInt ≤ (σ.1 0).toInt → (σ.1 0).toInt < x2.toInt + n → J p l e rmX1_isThere s m args below meth c D vwCl A 4 0 0 (MQ below (jEi D vwCl [(cI, .int), (cZ, .boolean)] A (fx a cI cZ σ) (gfX1_isThere n σ x1 x2)) args s 0 0 A) (fx a cI cZ σ) 17 [(2, .int x2), (0, .ref (a 8)), (1, .int x1)] [] := by
    intro n
    induction n with
    | zero => intro σ x2 h1 h2; exact absurd h2 (by omega)
    | succ n ih =>
      intro σ x2 h1 h2
      refine j_iload_n h 0 dX1_isThere_17 rfl rfl ?_
      refine j_aload_n h 1 dX1_isThere_18 rfl rfl ?_
      refine j_get h iX1 8 rfl rfl 0 (by decide) tb1_202 rfl (v := .ref (a 1)) rfl dX1_isThere_19 ?_
      refine j_get h iX4 1 rfl rfl 0 (by decide) tb1_41 rfl (v := .int (σ.1 0)) rfl dX1_isThere_22 ?_
      refine j_icmp_ge h dX1_isThere_25 (tgt := 87) (by decide) (fun c1 => ?_) (fun c1 => ?_)
      ·
        refine j_iconst h (v := 1) dX1_isThere_87 (by decide) ?_
        have E : gfX1_isThere (n + 1) σ x1 x2 = 1 := j_ip c1 rfl
        exact j_zreturn h hr (by decide) E.symm rfl dX1_isThere_88
      ·
        refine j_aload_n h 1 dX1_isThere_28 rfl rfl ?_
        refine j_get h iX1 8 rfl rfl 2 (by decide) tb1_204 rfl (v := .ref (a 9)) rfl dX1_isThere_29 ?_
        refine j_iload_n h 0 dX1_isThere_32 rfl rfl ?_
        refine j_callVi h (kX5_wordIn l D a cI cZ σ x2) tb2_227 tb2_228 tb2_229 tb1_6 tb2_230 ⟨rfl, rfl⟩ (n := 1) (by decide +kernel) ⟨Nat.le_of_ble_eq_true rfl, Nat.le_of_ble_eq_true rfl⟩ (As := [.int x2]) rfl (ci := 5) (q0 := 9) rfl rfl (st := []) rfl (Nat.le_of_ble_eq_true rfl) dX1_isThere_33 ⟨Nat.zero_le _, Nat.zero_le _⟩ ?_
        generalize hq2 : (fX5_wordIn σ x2) = q2
        refine j_istore_n h (lv' := [(3, .int q2), (2, .int x2), (0, .ref (a 8)), (1, .int x1)]) dX1_isThere_36 rfl (by decide) rfl ?_
        refine j_aload_n h 2 dX1_isThere_37 rfl rfl ?_
        refine j_get h iX1 8 rfl rfl 1 (by decide) tb1_203 rfl (v := .ref (a 2)) rfl dX1_isThere_38 ?_
        refine j_iload_n h 0 dX1_isThere_41 rfl rfl ?_
        refine j_callVi h (kX3_written l D a cI cZ σ q2) tb3_82 tb3_38 tb3_39 tb1_4 tb3_40 ⟨rfl, rfl⟩ (n := 1) (by decide +kernel) ⟨Nat.le_of_ble_eq_true rfl, Nat.le_of_ble_eq_true rfl⟩ (As := [.int q2]) rfl (ci := 3) (q0 := 2) rfl rfl (st := []) rfl (Nat.le_of_ble_eq_true rfl) dX1_isThere_42 ⟨Nat.zero_le _, Nat.zero_le _⟩ ?_
        generalize hq3 : (fX3_written σ q2) = q3
        refine j_iload_n h 3 dX1_isThere_45 rfl rfl ?_
        refine j_icmp_ne h dX1_isThere_46 (tgt := 81) (by decide) (fun c4 => ?_) (fun c4 => ?_)
        ·
          refine j_iinc h 1 (v := (x2 + 1)) (lv' := [(2, .int (x2 + 1)), (3, .int q2), (0, .ref (a 8)), (1, .int x1)]) dX1_isThere_81 rfl (rfl) (by decide) rfl ?_
          refine j_goto h dX1_isThere_84 (tgt := 17) (by decide) ?_
          have hi := j_inc (j_hi1 c1)
          have hl := j_toLt c1
          subst hq2 hq3
          have E : gfX1_isThere (n + 1) σ x1 x2 = gfX1_isThere n σ x1 (x2 + 1) := j_ig c1 (j_ig c4 rfl)
          rw [E]
          refine j_lv [0, 2, 3] rfl ?_
          exact ih σ (x2 + 1) (by omega) (by omega)
        ·
          refine j_aload_n h 2 dX1_isThere_49 rfl rfl ?_
          refine j_get h iX1 8 rfl rfl 7 (by decide) tb1_213 rfl (v := .int (σ.1 16)) rfl dX1_isThere_50 ?_
          refine j_if_eq h dX1_isThere_53 (tgt := 79) (by decide) (fun c5 => ?_) (fun c5 => ?_)
          ·
            refine j_iconst h (v := 0) dX1_isThere_79 (by decide) ?_
            subst hq2 hq3
            have E : gfX1_isThere (n + 1) σ x1 x2 = 0 := j_ig c1 (j_ip c4 (j_ip c5 rfl))
            exact j_zreturn h hr (by decide) E.symm rfl dX1_isThere_80
          ·
            refine j_iload_n h 1 dX1_isThere_56 rfl rfl ?_
            refine j_aload_n h 2 dX1_isThere_57 rfl rfl ?_
            refine j_get h iX1 8 rfl rfl 0 (by decide) tb1_202 rfl (v := .ref (a 1)) rfl dX1_isThere_58 ?_
            refine j_aload_n h 2 dX1_isThere_61 rfl rfl ?_
            refine j_get h iX1 8 rfl rfl 1 (by decide) tb1_203 rfl (v := .ref (a 2)) rfl dX1_isThere_62 ?_
            refine j_iload_n h 0 dX1_isThere_65 rfl rfl ?_
            refine j_callVi h (kX3_kindOf l D a cI cZ σ q2) tb2_239 tb3_0 tb3_1 tb1_4 tb3_2 ⟨rfl, rfl⟩ (n := 1) (by decide +kernel) ⟨Nat.le_of_ble_eq_true rfl, Nat.le_of_ble_eq_true rfl⟩ (As := [.int q2]) rfl (ci := 3) (q0 := 2) rfl rfl (st := [.ref (a 1), .int x2]) rfl (Nat.le_of_ble_eq_true rfl) dX1_isThere_66 ⟨Nat.zero_le _, Nat.zero_le _⟩ ?_
            generalize hq6 : (fX3_kindOf σ q2) = q6
            refine j_callVi h (kX4_behindWhichReady l D a cI cZ σ q6) tb3_83 tb3_84 tb3_85 tb1_2 tb3_86 ⟨rfl, rfl⟩ (n := 1) (by decide +kernel) ⟨Nat.le_of_ble_eq_true rfl, Nat.le_of_ble_eq_true rfl⟩ (As := [.int q6]) rfl (ci := 4) (q0 := 1) rfl rfl (st := [.int x2]) rfl (Nat.le_of_ble_eq_true rfl) dX1_isThere_69 ⟨Nat.zero_le _, Nat.zero_le _⟩ ?_
            generalize hq7 : (fX4_behindWhichReady σ q6) = q7
            refine j_icmp_le h dX1_isThere_72 (tgt := 79) (by decide) (fun c8 => ?_) (fun c8 => ?_)
            ·
              refine j_iconst h (v := 0) dX1_isThere_79 (by decide) ?_
              subst hq2 hq3 hq6 hq7
              have E : gfX1_isThere (n + 1) σ x1 x2 = 0 := j_ig c1 (j_ip c4 (j_ig c5 (j_ip c8 rfl)))
              exact j_zreturn h hr (by decide) E.symm rfl dX1_isThere_80
            ·
              refine j_iconst h (v := 1) dX1_isThere_75 (by decide) ?_
              refine j_goto h dX1_isThere_76 (tgt := 80) (by decide) ?_
              subst hq2 hq3 hq6 hq7
              have E : gfX1_isThere (n + 1) σ x1 x2 = 1 := j_ig c1 (j_ip c4 (j_ig c5 (j_ig c8 rfl)))
              exact j_zreturn h hr (by decide) E.symm rfl dX1_isThere_80
  refine j_iload_n h 1 dX1_isThere_0 rfl rfl ?_
  refine j_iconst h (v := (-1)) dX1_isThere_1 (by decide) ?_
  refine j_icmp_ne h dX1_isThere_2 (tgt := 7) (by decide) (fun c101 => ?_) (fun c101 => ?_)
  ·
    refine j_aload_n h 0 dX1_isThere_7 rfl rfl ?_
    refine j_get h iX1 8 rfl rfl 0 (by decide) tb1_202 rfl (v := .ref (a 1)) rfl dX1_isThere_8 ?_
    refine j_get h iX4 1 rfl rfl 1 (by decide) tb1_43 rfl (v := .int (σ.1 1)) rfl dX1_isThere_11 ?_
    refine j_iconst h (v := 1) dX1_isThere_14 (by decide) ?_
    refine j_iadd h dX1_isThere_15 ?_
    refine j_istore_n h (lv' := [(2, .int ((σ.1 1) + 1)), (0, .ref (a 8)), (1, .int x1)]) dX1_isThere_16 rfl (by decide) rfl ?_
    have E : fX1_isThere σ x1 = gfX1_isThere 9 σ x1 ((σ.1 1) + 1) := j_ig c101 rfl
    rw [E]
    refine j_lv [0, 1, 2] rfl ?_
    exact loop 9 σ ((σ.1 1) + 1) hs.there.1 hs.there.2.1
  ·
    refine j_iconst h (v := 1) dX1_isThere_5 (by decide) ?_
    have E : fX1_isThere σ x1 = 1 := j_ip c101 rfl
    exact j_zreturn h hr (by decide) E.symm rfl dX1_isThere_6
def fX1_isReady (σ : St) (x1 : Int32) : Int32 := (let q1 := (fX3_firstRead σ x1); (let q2 := (fX1_isThere σ q1); (if q2 = 0 then 0 else (let q4 := (fX3_secondRead σ x1); (let q5 := (fX1_isThere σ q4); (if q5 = 0 then 0 else 1))))))
def rmX1_isReady : Room := { frames := 2, cells := 0, slots := 0, locals := 44 }
set_option maxRecDepth 100000 in
set_option maxHeartbeats 4000000 in
theorem kX1_isReady (l : Launch) (D : va_G) (a : Nat → Nat) (cI cZ : ClassId) (σ : St) (x1 : Int32) (hs : shp σ) : Ci l yX1_isReady cX1_isReady 2 (some .boolean) TB rmX1_isReady D vwCl [(cI, .int), (cZ, .boolean)] [.ref (a 8), .int x1] (fx a cI cZ σ) (fx a cI cZ σ) (fX1_isReady σ x1) := by
  refine Ci_of (cc := cX1_isReady) (maxL := 2) (ret := (some .boolean)) (by decide +kernel) TBg (Nat.le_of_ble_eq_true rfl) ?_
  intro p e s m args below meth c A h hr
  refine j_aload_n h 0 dX1_isReady_0 rfl rfl ?_
  refine j_aload_n h 0 dX1_isReady_1 rfl rfl ?_
  refine j_get h iX1 8 rfl rfl 1 (by decide) tb1_203 rfl (v := .ref (a 2)) rfl dX1_isReady_2 ?_
  refine j_iload_n h 1 dX1_isReady_5 rfl rfl ?_
  refine j_callVi h (kX3_firstRead l D a cI cZ σ x1) tb3_77 tb3_22 tb3_23 tb1_4 tb3_24 ⟨rfl, rfl⟩ (n := 1) (by decide +kernel) ⟨Nat.le_of_ble_eq_true rfl, Nat.le_of_ble_eq_true rfl⟩ (As := [.int x1]) rfl (ci := 3) (q0 := 2) rfl rfl (st := [.ref (a 8)]) rfl (Nat.le_of_ble_eq_true rfl) dX1_isReady_6 ⟨Nat.zero_le _, Nat.zero_le _⟩ ?_
  generalize hq1 : (fX3_firstRead σ x1) = q1
  refine j_callVi h (kX1_isThere l D a cI cZ σ q1 hs) tb3_78 tb3_80 tp_10 tb1_5 tb3_81 ⟨rfl, rfl⟩ (n := 1) (by decide +kernel) ⟨Nat.le_of_ble_eq_true rfl, Nat.le_of_ble_eq_true rfl⟩ (As := [.int q1]) rfl (ci := 1) (q0 := 8) rfl rfl (st := []) rfl (Nat.le_of_ble_eq_true rfl) dX1_isReady_9 ⟨Nat.zero_le _, Nat.zero_le _⟩ ?_
  generalize hq2 : (fX1_isThere σ q1) = q2
  refine j_if_eq h dX1_isReady_12 (tgt := 34) (by decide) (fun c3 => ?_) (fun c3 => ?_)
  ·
    refine j_iconst h (v := 0) dX1_isReady_34 (by decide) ?_
    subst hq1 hq2
    have E : fX1_isReady σ x1 = 0 := j_ip c3 rfl
    exact j_zreturn h hr (by decide) E.symm rfl dX1_isReady_35
  ·
    refine j_aload_n h 0 dX1_isReady_15 rfl rfl ?_
    refine j_aload_n h 0 dX1_isReady_16 rfl rfl ?_
    refine j_get h iX1 8 rfl rfl 1 (by decide) tb1_203 rfl (v := .ref (a 2)) rfl dX1_isReady_17 ?_
    refine j_iload_n h 1 dX1_isReady_20 rfl rfl ?_
    refine j_callVi h (kX3_secondRead l D a cI cZ σ x1) tb3_87 tb3_30 tb3_31 tb1_4 tb3_32 ⟨rfl, rfl⟩ (n := 1) (by decide +kernel) ⟨Nat.le_of_ble_eq_true rfl, Nat.le_of_ble_eq_true rfl⟩ (As := [.int x1]) rfl (ci := 3) (q0 := 2) rfl rfl (st := [.ref (a 8)]) rfl (Nat.le_of_ble_eq_true rfl) dX1_isReady_21 ⟨Nat.zero_le _, Nat.zero_le _⟩ ?_
    generalize hq4 : (fX3_secondRead σ x1) = q4
    refine j_callVi h (kX1_isThere l D a cI cZ σ q4 hs) tb3_78 tb3_80 tp_10 tb1_5 tb3_81 ⟨rfl, rfl⟩ (n := 1) (by decide +kernel) ⟨Nat.le_of_ble_eq_true rfl, Nat.le_of_ble_eq_true rfl⟩ (As := [.int q4]) rfl (ci := 1) (q0 := 8) rfl rfl (st := []) rfl (Nat.le_of_ble_eq_true rfl) dX1_isReady_24 ⟨Nat.zero_le _, Nat.zero_le _⟩ ?_
    generalize hq5 : (fX1_isThere σ q4) = q5
    refine j_if_eq h dX1_isReady_27 (tgt := 34) (by decide) (fun c6 => ?_) (fun c6 => ?_)
    ·
      refine j_iconst h (v := 0) dX1_isReady_34 (by decide) ?_
      subst hq1 hq2 hq4 hq5
      have E : fX1_isReady σ x1 = 0 := j_ig c3 (j_ip c6 rfl)
      exact j_zreturn h hr (by decide) E.symm rfl dX1_isReady_35
    ·
      refine j_iconst h (v := 1) dX1_isReady_30 (by decide) ?_
      refine j_goto h dX1_isReady_31 (tgt := 35) (by decide) ?_
      subst hq1 hq2 hq4 hq5
      have E : fX1_isReady σ x1 = 1 := j_ig c3 (j_ig c6 rfl)
      exact j_zreturn h hr (by decide) E.symm rfl dX1_isReady_35
def fX1_work (σ : St) (x1 : Int32) : Int32 × St := (if (σ.1 22) = 0 then (let q7 := (fX1_isReady σ x1); (if q7 = 0 then (2, σ) else (let q9 := (fX3_kindOf σ x1); (let q10 := (fX4_cyclesToWork σ q9); (if q10 ≤ (σ.1 22) then (4, σ) else (if q10 ≤ ((σ.1 22) + 1) then (4, (sg σ 22 ((σ.1 22) + 1))) else (3, (sg σ 22 ((σ.1 22) + 1))))))))) else (let q2 := (fX3_kindOf σ x1); (let q3 := (fX4_cyclesToWork σ q2); (if q3 ≤ (σ.1 22) then (4, σ) else (if q3 ≤ ((σ.1 22) + 1) then (4, (sg σ 22 ((σ.1 22) + 1))) else (3, (sg σ 22 ((σ.1 22) + 1))))))))
def rmX1_work : Room := { frames := 3, cells := 0, slots := 0, locals := 65 }
set_option maxRecDepth 100000 in
set_option maxHeartbeats 4000000 in
theorem kX1_work (l : Launch) (D : va_G) (a : Nat → Nat) (cI cZ : ClassId) (σ : St) (x1 : Int32) (hs : shp σ) : Ci l yX1_work cX1_work 3 (some .int) TB rmX1_work D vwCl [(cI, .int), (cZ, .boolean)] [.ref (a 8), .int x1] (fx a cI cZ σ) (fx a cI cZ (fX1_work σ x1).2) (fX1_work σ x1).1 := by
  refine Ci_of (cc := cX1_work) (maxL := 3) (ret := (some .int)) (by decide +kernel) TBg (Nat.le_of_ble_eq_true rfl) ?_
  intro p e s m args below meth c A h hr
  refine j_aload_n h 0 dX1_work_0 rfl rfl ?_
  refine j_get h iX1 8 rfl rfl 13 (by decide) tb1_221 rfl (v := .int (σ.1 22)) rfl dX1_work_1 ?_
  refine j_if_ne h dX1_work_4 (tgt := 17) (by decide) (fun c1 => ?_) (fun c1 => ?_)
  ·
    refine j_aload_n h 0 dX1_work_17 rfl rfl ?_
    refine j_get h iX1 8 rfl rfl 0 (by decide) tb1_202 rfl (v := .ref (a 1)) rfl dX1_work_18 ?_
    refine j_aload_n h 0 dX1_work_21 rfl rfl ?_
    refine j_get h iX1 8 rfl rfl 1 (by decide) tb1_203 rfl (v := .ref (a 2)) rfl dX1_work_22 ?_
    refine j_iload_n h 1 dX1_work_25 rfl rfl ?_
    refine j_callVi h (kX3_kindOf l D a cI cZ σ x1) tb2_239 tb3_0 tb3_1 tb1_4 tb3_2 ⟨rfl, rfl⟩ (n := 1) (by decide +kernel) ⟨Nat.le_of_ble_eq_true rfl, Nat.le_of_ble_eq_true rfl⟩ (As := [.int x1]) rfl (ci := 3) (q0 := 2) rfl rfl (st := [.ref (a 1)]) rfl (Nat.le_of_ble_eq_true rfl) dX1_work_26 ⟨Nat.zero_le _, Nat.zero_le _⟩ ?_
    generalize hq2 : (fX3_kindOf σ x1) = q2
    refine j_callVi h (kX4_cyclesToWork l D a cI cZ σ q2) tb3_88 tb3_89 tb3_90 tb1_2 tb3_91 ⟨rfl, rfl⟩ (n := 1) (by decide +kernel) ⟨Nat.le_of_ble_eq_true rfl, Nat.le_of_ble_eq_true rfl⟩ (As := [.int q2]) rfl (ci := 4) (q0 := 1) rfl rfl (st := []) rfl (Nat.le_of_ble_eq_true rfl) dX1_work_29 ⟨Nat.zero_le _, Nat.zero_le _⟩ ?_
    generalize hq3 : (fX4_cyclesToWork σ q2) = q3
    refine j_istore_n h (lv' := [(2, .int q3), (0, .ref (a 8)), (1, .int x1)]) dX1_work_32 rfl (by decide) rfl ?_
    refine j_aload_n h 1 dX1_work_33 rfl rfl ?_
    refine j_get h iX1 8 rfl rfl 13 (by decide) tb1_221 rfl (v := .int (σ.1 22)) rfl dX1_work_34 ?_
    refine j_iload_n h 0 dX1_work_37 rfl rfl ?_
    refine j_icmp_ge h dX1_work_38 (tgt := 51) (by decide) (fun c4 => ?_) (fun c4 => ?_)
    ·
      refine j_aload_n h 1 dX1_work_51 rfl rfl ?_
      refine j_get h iX1 8 rfl rfl 13 (by decide) tb1_221 rfl (v := .int (σ.1 22)) rfl dX1_work_52 ?_
      refine j_iload_n h 0 dX1_work_55 rfl rfl ?_
      refine j_icmp_ge h dX1_work_56 (tgt := 63) (by decide) (fun c5 => ?_) (fun c5 => ?_)
      ·
        refine j_iconst h (v := 4) dX1_work_63 (by decide) ?_
        subst hq2 hq3
        have E : fX1_work σ x1 = (4, σ) := j_ig c1 (j_ip c4 rfl)
        exact j_ireturn h hr (congrArg Prod.fst E).symm (congrArg (fun z => fx a cI cZ z.2) E).symm dX1_work_64
      ·
        exact absurd c4 c5
    ·
      refine j_aload_n h 1 dX1_work_41 rfl rfl ?_
      refine j_dup h dX1_work_42 rfl ?_
      refine j_get h iX1 8 rfl rfl 13 (by decide) tb1_221 rfl (v := .int (σ.1 22)) rfl dX1_work_43 ?_
      refine j_iconst h (v := 1) dX1_work_46 (by decide) ?_
      refine j_iadd h dX1_work_47 ?_
      refine j_put h iX1 tyX1 tyX1_ok nmX1 8 rfl rfl 13 (by decide) tb1_221 rfl rfl rfl rfl (Nat.le_of_ble_eq_true rfl) (w' := (fx a cI cZ (sg σ 22 ((σ.1 22) + 1)))) rfl dX1_work_48 ?_
      refine j_aload_n h 1 dX1_work_51 rfl rfl ?_
      refine j_get h iX1 8 rfl rfl 13 (by decide) tb1_221 rfl (v := .int ((σ.1 22) + 1)) rfl dX1_work_52 ?_
      refine j_iload_n h 0 dX1_work_55 rfl rfl ?_
      refine j_icmp_ge h dX1_work_56 (tgt := 63) (by decide) (fun c6 => ?_) (fun c6 => ?_)
      ·
        refine j_iconst h (v := 4) dX1_work_63 (by decide) ?_
        subst hq2 hq3
        have E : fX1_work σ x1 = (4, (sg σ 22 ((σ.1 22) + 1))) := j_ig c1 (j_ig c4 (j_ip c6 rfl))
        exact j_ireturn h hr (congrArg Prod.fst E).symm (congrArg (fun z => fx a cI cZ z.2) E).symm dX1_work_64
      ·
        refine j_iconst h (v := 3) dX1_work_59 (by decide) ?_
        refine j_goto h dX1_work_60 (tgt := 64) (by decide) ?_
        subst hq2 hq3
        have E : fX1_work σ x1 = (3, (sg σ 22 ((σ.1 22) + 1))) := j_ig c1 (j_ig c4 (j_ig c6 rfl))
        exact j_ireturn h hr (congrArg Prod.fst E).symm (congrArg (fun z => fx a cI cZ z.2) E).symm dX1_work_64
  ·
    refine j_aload_n h 0 dX1_work_7 rfl rfl ?_
    refine j_iload_n h 1 dX1_work_8 rfl rfl ?_
    refine j_callVi h (kX1_isReady l D a cI cZ σ x1 hs) tb3_73 tb3_75 tp_9 tb1_5 tb3_76 ⟨rfl, rfl⟩ (n := 1) (by decide +kernel) ⟨Nat.le_of_ble_eq_true rfl, Nat.le_of_ble_eq_true rfl⟩ (As := [.int x1]) rfl (ci := 1) (q0 := 8) rfl rfl (st := []) rfl (Nat.le_of_ble_eq_true rfl) dX1_work_9 ⟨Nat.zero_le _, Nat.zero_le _⟩ ?_
    generalize hq7 : (fX1_isReady σ x1) = q7
    refine j_if_ne h dX1_work_12 (tgt := 17) (by decide) (fun c8 => ?_) (fun c8 => ?_)
    ·
      refine j_aload_n h 0 dX1_work_17 rfl rfl ?_
      refine j_get h iX1 8 rfl rfl 0 (by decide) tb1_202 rfl (v := .ref (a 1)) rfl dX1_work_18 ?_
      refine j_aload_n h 0 dX1_work_21 rfl rfl ?_
      refine j_get h iX1 8 rfl rfl 1 (by decide) tb1_203 rfl (v := .ref (a 2)) rfl dX1_work_22 ?_
      refine j_iload_n h 1 dX1_work_25 rfl rfl ?_
      refine j_callVi h (kX3_kindOf l D a cI cZ σ x1) tb2_239 tb3_0 tb3_1 tb1_4 tb3_2 ⟨rfl, rfl⟩ (n := 1) (by decide +kernel) ⟨Nat.le_of_ble_eq_true rfl, Nat.le_of_ble_eq_true rfl⟩ (As := [.int x1]) rfl (ci := 3) (q0 := 2) rfl rfl (st := [.ref (a 1)]) rfl (Nat.le_of_ble_eq_true rfl) dX1_work_26 ⟨Nat.zero_le _, Nat.zero_le _⟩ ?_
      generalize hq9 : (fX3_kindOf σ x1) = q9
      refine j_callVi h (kX4_cyclesToWork l D a cI cZ σ q9) tb3_88 tb3_89 tb3_90 tb1_2 tb3_91 ⟨rfl, rfl⟩ (n := 1) (by decide +kernel) ⟨Nat.le_of_ble_eq_true rfl, Nat.le_of_ble_eq_true rfl⟩ (As := [.int q9]) rfl (ci := 4) (q0 := 1) rfl rfl (st := []) rfl (Nat.le_of_ble_eq_true rfl) dX1_work_29 ⟨Nat.zero_le _, Nat.zero_le _⟩ ?_
      generalize hq10 : (fX4_cyclesToWork σ q9) = q10
      refine j_istore_n h (lv' := [(2, .int q10), (0, .ref (a 8)), (1, .int x1)]) dX1_work_32 rfl (by decide) rfl ?_
      refine j_aload_n h 1 dX1_work_33 rfl rfl ?_
      refine j_get h iX1 8 rfl rfl 13 (by decide) tb1_221 rfl (v := .int (σ.1 22)) rfl dX1_work_34 ?_
      refine j_iload_n h 0 dX1_work_37 rfl rfl ?_
      refine j_icmp_ge h dX1_work_38 (tgt := 51) (by decide) (fun c11 => ?_) (fun c11 => ?_)
      ·
        refine j_aload_n h 1 dX1_work_51 rfl rfl ?_
        refine j_get h iX1 8 rfl rfl 13 (by decide) tb1_221 rfl (v := .int (σ.1 22)) rfl dX1_work_52 ?_
        refine j_iload_n h 0 dX1_work_55 rfl rfl ?_
        refine j_icmp_ge h dX1_work_56 (tgt := 63) (by decide) (fun c12 => ?_) (fun c12 => ?_)
        ·
          refine j_iconst h (v := 4) dX1_work_63 (by decide) ?_
          subst hq7 hq9 hq10
          have E : fX1_work σ x1 = (4, σ) := j_ip c1 (j_ig c8 (j_ip c11 rfl))
          exact j_ireturn h hr (congrArg Prod.fst E).symm (congrArg (fun z => fx a cI cZ z.2) E).symm dX1_work_64
        ·
          exact absurd c11 c12
      ·
        refine j_aload_n h 1 dX1_work_41 rfl rfl ?_
        refine j_dup h dX1_work_42 rfl ?_
        refine j_get h iX1 8 rfl rfl 13 (by decide) tb1_221 rfl (v := .int (σ.1 22)) rfl dX1_work_43 ?_
        refine j_iconst h (v := 1) dX1_work_46 (by decide) ?_
        refine j_iadd h dX1_work_47 ?_
        refine j_put h iX1 tyX1 tyX1_ok nmX1 8 rfl rfl 13 (by decide) tb1_221 rfl rfl rfl rfl (Nat.le_of_ble_eq_true rfl) (w' := (fx a cI cZ (sg σ 22 ((σ.1 22) + 1)))) rfl dX1_work_48 ?_
        refine j_aload_n h 1 dX1_work_51 rfl rfl ?_
        refine j_get h iX1 8 rfl rfl 13 (by decide) tb1_221 rfl (v := .int ((σ.1 22) + 1)) rfl dX1_work_52 ?_
        refine j_iload_n h 0 dX1_work_55 rfl rfl ?_
        refine j_icmp_ge h dX1_work_56 (tgt := 63) (by decide) (fun c13 => ?_) (fun c13 => ?_)
        ·
          refine j_iconst h (v := 4) dX1_work_63 (by decide) ?_
          subst hq7 hq9 hq10
          have E : fX1_work σ x1 = (4, (sg σ 22 ((σ.1 22) + 1))) := j_ip c1 (j_ig c8 (j_ig c11 (j_ip c13 rfl)))
          exact j_ireturn h hr (congrArg Prod.fst E).symm (congrArg (fun z => fx a cI cZ z.2) E).symm dX1_work_64
        ·
          refine j_iconst h (v := 3) dX1_work_59 (by decide) ?_
          refine j_goto h dX1_work_60 (tgt := 64) (by decide) ?_
          subst hq7 hq9 hq10
          have E : fX1_work σ x1 = (3, (sg σ 22 ((σ.1 22) + 1))) := j_ip c1 (j_ig c8 (j_ig c11 (j_ig c13 rfl)))
          exact j_ireturn h hr (congrArg Prod.fst E).symm (congrArg (fun z => fx a cI cZ z.2) E).symm dX1_work_64
    ·
      refine j_iconst h (v := 2) dX1_work_15 (by decide) ?_
      subst hq7
      have E : fX1_work σ x1 = (2, σ) := j_ip c1 (j_ip c8 rfl)
      exact j_ireturn h hr (congrArg Prod.fst E).symm (congrArg (fun z => fx a cI cZ z.2) E).symm dX1_work_16
theorem fr_fX1_work (σ : St) (x1 : Int32) : Fr (fX1_work σ x1).2 σ := by
  by_cases c0 : (σ.1 22) = 0
  ·
    by_cases c1 : (fX1_isReady σ x1) = 0
    ·
      have E : fX1_work σ x1 = (2, σ) := j_ip c0 (j_ip c1 rfl)
      rw [E]
      exact (Fr.rf _)
    ·
      by_cases c2 : (fX4_cyclesToWork σ (fX3_kindOf σ x1)) ≤ (σ.1 22)
      ·
        have E : fX1_work σ x1 = (4, σ) := j_ip c0 (j_ig c1 (j_ip c2 rfl))
        rw [E]
        exact (Fr.rf _)
      ·
        by_cases c3 : (fX4_cyclesToWork σ (fX3_kindOf σ x1)) ≤ ((σ.1 22) + 1)
        ·
          have E : fX1_work σ x1 = (4, (sg σ 22 ((σ.1 22) + 1))) := j_ip c0 (j_ig c1 (j_ig c2 (j_ip c3 rfl)))
          rw [E]
          exact (Fr.tr (Fr.sg (by decide)) (Fr.rf _))
        ·
          have E : fX1_work σ x1 = (3, (sg σ 22 ((σ.1 22) + 1))) := j_ip c0 (j_ig c1 (j_ig c2 (j_ig c3 rfl)))
          rw [E]
          exact (Fr.tr (Fr.sg (by decide)) (Fr.rf _))
  ·
    by_cases c1 : (fX4_cyclesToWork σ (fX3_kindOf σ x1)) ≤ (σ.1 22)
    ·
      have E : fX1_work σ x1 = (4, σ) := j_ig c0 (j_ip c1 rfl)
      rw [E]
      exact (Fr.rf _)
    ·
      by_cases c2 : (fX4_cyclesToWork σ (fX3_kindOf σ x1)) ≤ ((σ.1 22) + 1)
      ·
        have E : fX1_work σ x1 = (4, (sg σ 22 ((σ.1 22) + 1))) := j_ig c0 (j_ig c1 (j_ip c2 rfl))
        rw [E]
        exact (Fr.tr (Fr.sg (by decide)) (Fr.rf _))
      ·
        have E : fX1_work σ x1 = (3, (sg σ 22 ((σ.1 22) + 1))) := j_ig c0 (j_ig c1 (j_ig c2 rfl))
        rw [E]
        exact (Fr.tr (Fr.sg (by decide)) (Fr.rf _))
def fX1_squashAndGoTo (σ : St) (x1 x2 : Int32) : St := (let q1 := (fX5_squashBelow σ x1); (let q2 := (fX3_wordAt (sg q1.2 12 ((σ.1 12) + q1.1)) x2); (sg (sg (sg (sg q1.2 12 ((σ.1 12) + q1.1)) 18 q2) 19 0) 21 1)))
def rmX1_squashAndGoTo : Room := { frames := 2, cells := 0, slots := 0, locals := 47 }
set_option maxRecDepth 100000 in
set_option maxHeartbeats 4000000 in
theorem kX1_squashAndGoTo (l : Launch) (D : va_G) (a : Nat → Nat) (cI cZ : ClassId) (σ : St) (x1 x2 : Int32) : Cv l yX1_squashAndGoTo cX1_squashAndGoTo 3 none TB rmX1_squashAndGoTo D vwCl [(cI, .int), (cZ, .boolean)] [.ref (a 8), .int x1, .int x2] (fx a cI cZ σ) (fun _ => (fx a cI cZ (fX1_squashAndGoTo σ x1 x2))) 0 0 := by
  refine Cv_of (cc := cX1_squashAndGoTo) (maxL := 3) (ret := none) (by decide +kernel) TBg (Nat.le_of_ble_eq_true rfl) ?_
  intro p e s m args below meth c A h hr hname
  refine j_aload_n h 0 dX1_squashAndGoTo_0 rfl rfl ?_
  refine j_get h iX1 8 rfl rfl 4 (by decide) tb1_208 rfl (v := .ref (a 17)) rfl dX1_squashAndGoTo_1 ?_
  refine j_dup h dX1_squashAndGoTo_4 rfl ?_
  refine j_get h iX6 17 rfl rfl 4 (by decide) tb1_158 rfl (v := .int (σ.1 12)) rfl dX1_squashAndGoTo_5 ?_
  refine j_aload_n h 0 dX1_squashAndGoTo_8 rfl rfl ?_
  refine j_get h iX1 8 rfl rfl 2 (by decide) tb1_204 rfl (v := .ref (a 9)) rfl dX1_squashAndGoTo_9 ?_
  refine j_iload_n h 1 dX1_squashAndGoTo_12 rfl rfl ?_
  refine j_callVi h (kX5_squashBelow l D a cI cZ σ x1) tb3_7 tb2_38 tb2_39 tb1_6 tb2_40 ⟨rfl, rfl⟩ (n := 1) (by decide +kernel) ⟨Nat.le_of_ble_eq_true rfl, Nat.le_of_ble_eq_true rfl⟩ (As := [.int x1]) rfl (ci := 5) (q0 := 9) rfl rfl (st := [.int (σ.1 12), .ref (a 17)]) rfl (Nat.le_of_ble_eq_true rfl) dX1_squashAndGoTo_13 ⟨Nat.zero_le _, Nat.zero_le _⟩ ?_
  generalize hq1 : (fX5_squashBelow σ x1) = q1
  refine j_iadd h dX1_squashAndGoTo_16 ?_
  refine j_put h iX6 tyX6 tyX6_ok nmX6 17 rfl rfl 4 (by decide) tb1_158 rfl rfl rfl rfl (Nat.le_of_ble_eq_true rfl) (w' := (fx a cI cZ (sg q1.2 12 ((σ.1 12) + q1.1)))) rfl dX1_squashAndGoTo_17 ?_
  refine j_aload_n h 0 dX1_squashAndGoTo_20 rfl rfl ?_
  refine j_aload_n h 0 dX1_squashAndGoTo_21 rfl rfl ?_
  refine j_get h iX1 8 rfl rfl 1 (by decide) tb1_203 rfl (v := .ref (a 2)) rfl dX1_squashAndGoTo_22 ?_
  refine j_iload_n h 2 dX1_squashAndGoTo_25 rfl rfl ?_
  refine j_callVi h (kX3_wordAt l D a cI cZ (sg q1.2 12 ((σ.1 12) + q1.1)) x2) tb3_8 tb3_9 tb3_10 tb1_4 tb3_11 ⟨rfl, rfl⟩ (n := 1) (by decide +kernel) ⟨Nat.le_of_ble_eq_true rfl, Nat.le_of_ble_eq_true rfl⟩ (As := [.int x2]) rfl (ci := 3) (q0 := 2) rfl rfl (st := [.ref (a 8)]) rfl (Nat.le_of_ble_eq_true rfl) dX1_squashAndGoTo_26 ⟨Nat.zero_le _, Nat.zero_le _⟩ ?_
  generalize hq2 : (fX3_wordAt (sg q1.2 12 ((σ.1 12) + q1.1)) x2) = q2
  refine j_put h iX1 tyX1 tyX1_ok nmX1 8 rfl rfl 9 (by decide) tb1_217 rfl rfl rfl rfl (Nat.le_of_ble_eq_true rfl) (w' := (fx a cI cZ (sg (sg q1.2 12 ((σ.1 12) + q1.1)) 18 q2))) rfl dX1_squashAndGoTo_29 ?_
  refine j_aload_n h 0 dX1_squashAndGoTo_32 rfl rfl ?_
  refine j_iconst h (v := 0) dX1_squashAndGoTo_33 (by decide) ?_
  refine j_put h iX1 tyX1 tyX1_ok nmX1 8 rfl rfl 10 (by decide) tb1_218 rfl rfl rfl rfl (Nat.le_of_ble_eq_true rfl) (w' := (fx a cI cZ (sg (sg (sg q1.2 12 ((σ.1 12) + q1.1)) 18 q2) 19 0))) rfl dX1_squashAndGoTo_34 ?_
  refine j_aload_n h 0 dX1_squashAndGoTo_37 rfl rfl ?_
  refine j_iconst h (v := 1) dX1_squashAndGoTo_38 (by decide) ?_
  refine j_put h iX1 tyX1 tyX1_ok nmX1 8 rfl rfl 12 (by decide) tb1_220 rfl rfl rfl rfl (Nat.le_of_ble_eq_true rfl) (w' := (fx a cI cZ (sg (sg (sg (sg q1.2 12 ((σ.1 12) + q1.1)) 18 q2) 19 0) 21 1))) rfl dX1_squashAndGoTo_39 ?_
  subst hq1 hq2
  have E : fX1_squashAndGoTo σ x1 x2 = (sg (sg (sg (sg (fX5_squashBelow σ x1).2 12 ((σ.1 12) + (fX5_squashBelow σ x1).1)) 18 (fX3_wordAt (sg (fX5_squashBelow σ x1).2 12 ((σ.1 12) + (fX5_squashBelow σ x1).1)) x2)) 19 0) 21 1) := rfl
  exact j_vreturn h hr (fun _ => 0) (congrArg (fx a cI cZ) E).symm dX1_squashAndGoTo_42
theorem fr_fX1_squashAndGoTo (σ : St) (x1 x2 : Int32) : Fr (fX1_squashAndGoTo σ x1 x2) σ := by
  have E : fX1_squashAndGoTo σ x1 x2 = (sg (sg (sg (sg (fX5_squashBelow σ x1).2 12 ((σ.1 12) + (fX5_squashBelow σ x1).1)) 18 (fX3_wordAt (sg (fX5_squashBelow σ x1).2 12 ((σ.1 12) + (fX5_squashBelow σ x1).1)) x2)) 19 0) 21 1) := rfl
  rw [E]
  exact (Fr.tr (Fr.sg (by decide)) (Fr.tr (Fr.sg (by decide)) (Fr.tr (Fr.sg (by decide)) (Fr.tr (Fr.sg (by decide)) (Fr.tr (fr_fX5_squashBelow _ _) (Fr.rf _))))))
def fX1_takeBranch (σ : St) (x1 x2 : Int32) : St := (let q1 := (fX3_number (sg σ 14 ((σ.1 14) + 1)) x2); (let q2 := (fX1_squashAndGoTo (sg σ 14 ((σ.1 14) + 1)) x1 q1); q2))
def rmX1_takeBranch : Room := { frames := 3, cells := 0, slots := 0, locals := 69 }
set_option maxRecDepth 100000 in
set_option maxHeartbeats 4000000 in
theorem kX1_takeBranch (l : Launch) (D : va_G) (a : Nat → Nat) (cI cZ : ClassId) (σ : St) (x1 x2 : Int32) : Cv l yX1_takeBranch cX1_takeBranch 3 none TB rmX1_takeBranch D vwCl [(cI, .int), (cZ, .boolean)] [.ref (a 8), .int x1, .int x2] (fx a cI cZ σ) (fun _ => (fx a cI cZ (fX1_takeBranch σ x1 x2))) 0 0 := by
  refine Cv_of (cc := cX1_takeBranch) (maxL := 3) (ret := none) (by decide +kernel) TBg (Nat.le_of_ble_eq_true rfl) ?_
  intro p e s m args below meth c A h hr hname
  refine j_aload_n h 0 dX1_takeBranch_0 rfl rfl ?_
  refine j_get h iX1 8 rfl rfl 4 (by decide) tb1_208 rfl (v := .ref (a 17)) rfl dX1_takeBranch_1 ?_
  refine j_dup h dX1_takeBranch_4 rfl ?_
  refine j_get h iX6 17 rfl rfl 6 (by decide) tb1_164 rfl (v := .int (σ.1 14)) rfl dX1_takeBranch_5 ?_
  refine j_iconst h (v := 1) dX1_takeBranch_8 (by decide) ?_
  refine j_iadd h dX1_takeBranch_9 ?_
  refine j_put h iX6 tyX6 tyX6_ok nmX6 17 rfl rfl 6 (by decide) tb1_164 rfl rfl rfl rfl (Nat.le_of_ble_eq_true rfl) (w' := (fx a cI cZ (sg σ 14 ((σ.1 14) + 1)))) rfl dX1_takeBranch_10 ?_
  refine j_aload_n h 0 dX1_takeBranch_13 rfl rfl ?_
  refine j_iload_n h 1 dX1_takeBranch_14 rfl rfl ?_
  refine j_aload_n h 0 dX1_takeBranch_15 rfl rfl ?_
  refine j_get h iX1 8 rfl rfl 1 (by decide) tb1_203 rfl (v := .ref (a 2)) rfl dX1_takeBranch_16 ?_
  refine j_iload_n h 2 dX1_takeBranch_19 rfl rfl ?_
  refine j_callVi h (kX3_number l D a cI cZ (sg σ 14 ((σ.1 14) + 1)) x2) tb3_64 tb3_34 tb3_35 tb1_4 tb3_36 ⟨rfl, rfl⟩ (n := 1) (by decide +kernel) ⟨Nat.le_of_ble_eq_true rfl, Nat.le_of_ble_eq_true rfl⟩ (As := [.int x2]) rfl (ci := 3) (q0 := 2) rfl rfl (st := [.int x1, .ref (a 8)]) rfl (Nat.le_of_ble_eq_true rfl) dX1_takeBranch_20 ⟨Nat.zero_le _, Nat.zero_le _⟩ ?_
  generalize hq1 : (fX3_number (sg σ 14 ((σ.1 14) + 1)) x2) = q1
  refine j_callVv h (kX1_squashAndGoTo l D a cI cZ (sg σ 14 ((σ.1 14) + 1)) x1 q1) tb3_3 tb3_5 tp_2 tb1_5 tb3_6 ⟨rfl, rfl⟩ (n := 2) (by decide +kernel) ⟨Nat.le_of_ble_eq_true rfl, Nat.le_of_ble_eq_true rfl⟩ (As := [.int x1, .int q1]) rfl (ci := 1) (q0 := 8) rfl rfl (st := []) rfl (Nat.le_of_ble_eq_true rfl) dX1_takeBranch_23 ⟨Nat.zero_le _, Nat.zero_le _⟩ ?_
  generalize hq2 : (fX1_squashAndGoTo (sg σ 14 ((σ.1 14) + 1)) x1 q1) = q2
  subst hq1 hq2
  have E : fX1_takeBranch σ x1 x2 = (fX1_squashAndGoTo (sg σ 14 ((σ.1 14) + 1)) x1 (fX3_number (sg σ 14 ((σ.1 14) + 1)) x2)) := rfl
  exact j_vreturn h hr (fun _ => 0) (congrArg (fx a cI cZ) E).symm dX1_takeBranch_26
theorem fr_fX1_takeBranch (σ : St) (x1 x2 : Int32) : Fr (fX1_takeBranch σ x1 x2) σ := by
  have E : fX1_takeBranch σ x1 x2 = (fX1_squashAndGoTo (sg σ 14 ((σ.1 14) + 1)) x1 (fX3_number (sg σ 14 ((σ.1 14) + 1)) x2)) := rfl
  rw [E]
  exact (Fr.tr (fr_fX1_squashAndGoTo _ _ _) (Fr.tr (Fr.sg (by decide)) (Fr.rf _)))
def fX1_commit (σ : St) (x1 : Int32) : St := (let q1 := (fX2_performL σ x1); (let q2 := (fX0_append (sg q1.2 10 ((q1.2.1 10) + 1)) x1 (q1.2.1 9) q1.1); (let q3 := (fX3_kindOf q2 x1); (if q3 = 6 then (sg q2 15 1) else q2))))
def rmX1_commit : Room := { frames := 3, cells := 0, slots := 0, locals := 69 }
set_option maxRecDepth 100000 in
set_option maxHeartbeats 4000000 in
theorem kX1_commit (l : Launch) (D : va_G) (a : Nat → Nat) (cI cZ : ClassId) (σ : St) (x1 : Int32) : Cv l yX1_commit cX1_commit 3 none TB rmX1_commit D vwCl [(cI, .int), (cZ, .boolean)] [.ref (a 8), .int x1] (fx a cI cZ σ) (fun _ => (fx a cI cZ (fX1_commit σ x1))) 0 0 := by
  refine Cv_of (cc := cX1_commit) (maxL := 3) (ret := none) (by decide +kernel) TBg (Nat.le_of_ble_eq_true rfl) ?_
  intro p e s m args below meth c A h hr hname
  refine j_aload_n h 0 dX1_commit_0 rfl rfl ?_
  refine j_get h iX1 8 rfl rfl 6 (by decide) tb1_211 rfl (v := .ref (a 22)) rfl dX1_commit_1 ?_
  refine j_iload_n h 1 dX1_commit_4 rfl rfl ?_
  refine j_callVi h (kX2_performL l D a cI cZ σ x1) tb3_17 tb3_18 tb3_19 tb1_10 tb3_20 ⟨rfl, rfl⟩ (n := 1) (by decide +kernel) ⟨Nat.le_of_ble_eq_true rfl, Nat.le_of_ble_eq_true rfl⟩ (As := [.int x1]) rfl (ci := 2) (q0 := 22) rfl rfl (st := []) rfl (Nat.le_of_ble_eq_true rfl) dX1_commit_5 ⟨Nat.zero_le _, Nat.zero_le _⟩ ?_
  generalize hq1 : (fX2_performL σ x1) = q1
  refine j_istore_n h (lv' := [(2, .int q1.1), (0, .ref (a 8)), (1, .int x1)]) dX1_commit_8 rfl (by decide) rfl ?_
  refine j_aload_n h 1 dX1_commit_9 rfl rfl ?_
  refine j_get h iX1 8 rfl rfl 4 (by decide) tb1_208 rfl (v := .ref (a 17)) rfl dX1_commit_10 ?_
  refine j_dup h dX1_commit_13 rfl ?_
  refine j_get h iX6 17 rfl rfl 2 (by decide) tb1_152 rfl (v := .int (q1.2.1 10)) rfl dX1_commit_14 ?_
  refine j_iconst h (v := 1) dX1_commit_17 (by decide) ?_
  refine j_iadd h dX1_commit_18 ?_
  refine j_put h iX6 tyX6 tyX6_ok nmX6 17 rfl rfl 2 (by decide) tb1_152 rfl rfl rfl rfl (Nat.le_of_ble_eq_true rfl) (w' := (fx a cI cZ (sg q1.2 10 ((q1.2.1 10) + 1)))) rfl dX1_commit_19 ?_
  refine j_aload_n h 1 dX1_commit_22 rfl rfl ?_
  refine j_get h iX1 8 rfl rfl 3 (by decide) tb1_206 rfl (v := .ref (a 13)) rfl dX1_commit_23 ?_
  refine j_iload_n h 2 dX1_commit_26 rfl rfl ?_
  refine j_aload_n h 1 dX1_commit_27 rfl rfl ?_
  refine j_get h iX1 8 rfl rfl 4 (by decide) tb1_208 rfl (v := .ref (a 17)) rfl dX1_commit_28 ?_
  refine j_get h iX6 17 rfl rfl 1 (by decide) tb1_150 rfl (v := .int (q1.2.1 9)) rfl dX1_commit_31 ?_
  refine j_iload_n h 0 dX1_commit_34 rfl rfl ?_
  refine j_callVv h (kX0_append l D a cI cZ (sg q1.2 10 ((q1.2.1 10) + 1)) x1 (q1.2.1 9) q1.1) tb3_55 tb3_56 tb3_57 tb1_8 tb3_58 ⟨rfl, rfl⟩ (n := 3) (by decide +kernel) ⟨Nat.le_of_ble_eq_true rfl, Nat.le_of_ble_eq_true rfl⟩ (As := [.int x1, .int (q1.2.1 9), .int q1.1]) rfl (ci := 0) (q0 := 13) rfl rfl (st := []) rfl (Nat.le_of_ble_eq_true rfl) dX1_commit_35 ⟨Nat.zero_le _, Nat.zero_le _⟩ ?_
  generalize hq2 : (fX0_append (sg q1.2 10 ((q1.2.1 10) + 1)) x1 (q1.2.1 9) q1.1) = q2
  refine j_aload_n h 1 dX1_commit_38 rfl rfl ?_
  refine j_get h iX1 8 rfl rfl 1 (by decide) tb1_203 rfl (v := .ref (a 2)) rfl dX1_commit_39 ?_
  refine j_iload_n h 2 dX1_commit_42 rfl rfl ?_
  refine j_callVi h (kX3_kindOf l D a cI cZ q2 x1) tb2_239 tb3_0 tb3_1 tb1_4 tb3_2 ⟨rfl, rfl⟩ (n := 1) (by decide +kernel) ⟨Nat.le_of_ble_eq_true rfl, Nat.le_of_ble_eq_true rfl⟩ (As := [.int x1]) rfl (ci := 3) (q0 := 2) rfl rfl (st := []) rfl (Nat.le_of_ble_eq_true rfl) dX1_commit_43 ⟨Nat.zero_le _, Nat.zero_le _⟩ ?_
  generalize hq3 : (fX3_kindOf q2 x1) = q3
  refine j_bipush h (v := 6) dX1_commit_46 (by decide) ?_
  refine j_icmp_ne h dX1_commit_48 (tgt := 59) (by decide) (fun c4 => ?_) (fun c4 => ?_)
  ·
    subst hq1 hq2 hq3
    have E : fX1_commit σ x1 = (fX0_append (sg (fX2_performL σ x1).2 10 (((fX2_performL σ x1).2.1 10) + 1)) x1 ((fX2_performL σ x1).2.1 9) (fX2_performL σ x1).1) := j_ig c4 rfl
    exact j_vreturn h hr (fun _ => 0) (congrArg (fx a cI cZ) E).symm dX1_commit_59
  ·
    refine j_aload_n h 1 dX1_commit_51 rfl rfl ?_
    refine j_get h iX1 8 rfl rfl 4 (by decide) tb1_208 rfl (v := .ref (a 17)) rfl dX1_commit_52 ?_
    refine j_iconst h (v := 1) dX1_commit_55 (by decide) ?_
    refine j_put h iX6 tyX6 tyX6_ok nmX6 17 rfl rfl 7 (by decide) tb1_167 rfl rfl rfl rfl (Nat.le_of_ble_eq_true rfl) (w' := (fx a cI cZ (sg q2 15 1))) rfl dX1_commit_56 ?_
    subst hq1 hq2 hq3
    have E : fX1_commit σ x1 = (sg (fX0_append (sg (fX2_performL σ x1).2 10 (((fX2_performL σ x1).2.1 10) + 1)) x1 ((fX2_performL σ x1).2.1 9) (fX2_performL σ x1).1) 15 1) := j_ip c4 rfl
    exact j_vreturn h hr (fun _ => 0) (congrArg (fx a cI cZ) E).symm dX1_commit_59
theorem fr_fX1_commit (σ : St) (x1 : Int32) : Fr (fX1_commit σ x1) σ := by
  by_cases c0 : (fX3_kindOf (fX0_append (sg (fX2_performL σ x1).2 10 (((fX2_performL σ x1).2.1 10) + 1)) x1 ((fX2_performL σ x1).2.1 9) (fX2_performL σ x1).1) x1) = 6
  ·
    have E : fX1_commit σ x1 = (sg (fX0_append (sg (fX2_performL σ x1).2 10 (((fX2_performL σ x1).2.1 10) + 1)) x1 ((fX2_performL σ x1).2.1 9) (fX2_performL σ x1).1) 15 1) := j_ip c0 rfl
    rw [E]
    exact (Fr.tr (Fr.sg (by decide)) (Fr.tr (fr_fX0_append _ _ _ _) (Fr.tr (Fr.sg (by decide)) (Fr.tr (fr_fX2_performL _ _) (Fr.rf _)))))
  ·
    have E : fX1_commit σ x1 = (fX0_append (sg (fX2_performL σ x1).2 10 (((fX2_performL σ x1).2.1 10) + 1)) x1 ((fX2_performL σ x1).2.1 9) (fX2_performL σ x1).1) := j_ig c0 rfl
    rw [E]
    exact (Fr.tr (fr_fX0_append _ _ _ _) (Fr.tr (Fr.sg (by decide)) (Fr.tr (fr_fX2_performL _ _) (Fr.rf _))))
def fX1_leave (σ : St) : Int32 × St := (let q1 := (fX4_last σ); (let q2 := (fX5_wordIn σ q1); (if q2 = (-1) then (4, σ) else (let q4 := (fX5_isGoing σ q1); (let q5 := (fX5_empty σ q1); (let q6 := (fX3_kindOf q5 q2); (if q6 = 5 then (let q12 := (fX1_squashAndGoTo (sg q5 13 ((q5.1 13) + 1)) q1 (q5.1 17)); (1, q12)) else (let q8 := (fX1_commit q5 q2); (if q4 = 0 then (0, q8) else (if (q8.1 4) = q1 then (let q11 := (fX1_takeBranch q8 q1 q2); (0, q11)) else (0, q8)))))))))))
def rmX1_leave : Room := { frames := 4, cells := 0, slots := 0, locals := 91 }
set_option maxRecDepth 100000 in
set_option maxHeartbeats 4000000 in
theorem kX1_leave (l : Launch) (D : va_G) (a : Nat → Nat) (cI cZ : ClassId) (σ : St) : Ci l yX1_leave cX1_leave 4 (some .int) TB rmX1_leave D vwCl [(cI, .int), (cZ, .boolean)] [.ref (a 8)] (fx a cI cZ σ) (fx a cI cZ (fX1_leave σ).2) (fX1_leave σ).1 := by
  refine Ci_of (cc := cX1_leave) (maxL := 4) (ret := (some .int)) (by decide +kernel) TBg (Nat.le_of_ble_eq_true rfl) ?_
  intro p e s m args below meth c A h hr
  refine j_aload_n h 0 dX1_leave_0 rfl rfl ?_
  refine j_get h iX1 8 rfl rfl 0 (by decide) tb1_202 rfl (v := .ref (a 1)) rfl dX1_leave_1 ?_
  refine j_callVi h (kX4_last l D a cI cZ σ) tb2_223 tb2_224 tb2_225 tb1_2 tb2_226 ⟨rfl, rfl⟩ (n := 0) (by decide +kernel) ⟨Nat.le_of_ble_eq_true rfl, Nat.le_of_ble_eq_true rfl⟩ (As := []) rfl (ci := 4) (q0 := 1) rfl rfl (st := []) rfl (Nat.le_of_ble_eq_true rfl) dX1_leave_4 ⟨Nat.zero_le _, Nat.zero_le _⟩ ?_
  generalize hq1 : (fX4_last σ) = q1
  refine j_istore_n h (lv' := [(1, .int q1), (0, .ref (a 8))]) dX1_leave_7 rfl (by decide) rfl ?_
  refine j_aload_n h 1 dX1_leave_8 rfl rfl ?_
  refine j_get h iX1 8 rfl rfl 2 (by decide) tb1_204 rfl (v := .ref (a 9)) rfl dX1_leave_9 ?_
  refine j_iload_n h 0 dX1_leave_12 rfl rfl ?_
  refine j_callVi h (kX5_wordIn l D a cI cZ σ q1) tb2_227 tb2_228 tb2_229 tb1_6 tb2_230 ⟨rfl, rfl⟩ (n := 1) (by decide +kernel) ⟨Nat.le_of_ble_eq_true rfl, Nat.le_of_ble_eq_true rfl⟩ (As := [.int q1]) rfl (ci := 5) (q0 := 9) rfl rfl (st := []) rfl (Nat.le_of_ble_eq_true rfl) dX1_leave_13 ⟨Nat.zero_le _, Nat.zero_le _⟩ ?_
  generalize hq2 : (fX5_wordIn σ q1) = q2
  refine j_istore_n h (lv' := [(2, .int q2), (1, .int q1), (0, .ref (a 8))]) dX1_leave_16 rfl (by decide) rfl ?_
  refine j_iload_n h 0 dX1_leave_17 rfl rfl ?_
  refine j_iconst h (v := (-1)) dX1_leave_18 (by decide) ?_
  refine j_icmp_ne h dX1_leave_19 (tgt := 24) (by decide) (fun c3 => ?_) (fun c3 => ?_)
  ·
    refine j_aload_n h 2 dX1_leave_24 rfl rfl ?_
    refine j_get h iX1 8 rfl rfl 2 (by decide) tb1_204 rfl (v := .ref (a 9)) rfl dX1_leave_25 ?_
    refine j_iload_n h 1 dX1_leave_28 rfl rfl ?_
    refine j_callVi h (kX5_isGoing l D a cI cZ σ q1) tb2_231 tb2_232 tb2_233 tb1_6 tb2_234 ⟨rfl, rfl⟩ (n := 1) (by decide +kernel) ⟨Nat.le_of_ble_eq_true rfl, Nat.le_of_ble_eq_true rfl⟩ (As := [.int q1]) rfl (ci := 5) (q0 := 9) rfl rfl (st := []) rfl (Nat.le_of_ble_eq_true rfl) dX1_leave_29 ⟨Nat.zero_le _, Nat.zero_le _⟩ ?_
    generalize hq4 : (fX5_isGoing σ q1) = q4
    refine j_istore_n h (lv' := [(3, .int q4), (2, .int q2), (1, .int q1), (0, .ref (a 8))]) dX1_leave_32 rfl (by decide) rfl ?_
    refine j_aload_n h 3 dX1_leave_33 rfl rfl ?_
    refine j_get h iX1 8 rfl rfl 2 (by decide) tb1_204 rfl (v := .ref (a 9)) rfl dX1_leave_34 ?_
    refine j_iload_n h 2 dX1_leave_37 rfl rfl ?_
    refine j_callVv h (kX5_empty l D a cI cZ σ q1) tb2_235 tb2_236 tb2_237 tb1_6 tb2_238 ⟨rfl, rfl⟩ (n := 1) (by decide +kernel) ⟨Nat.le_of_ble_eq_true rfl, Nat.le_of_ble_eq_true rfl⟩ (As := [.int q1]) rfl (ci := 5) (q0 := 9) rfl rfl (st := []) rfl (Nat.le_of_ble_eq_true rfl) dX1_leave_38 ⟨Nat.zero_le _, Nat.zero_le _⟩ ?_
    generalize hq5 : (fX5_empty σ q1) = q5
    refine j_aload_n h 3 dX1_leave_41 rfl rfl ?_
    refine j_get h iX1 8 rfl rfl 1 (by decide) tb1_203 rfl (v := .ref (a 2)) rfl dX1_leave_42 ?_
    refine j_iload_n h 1 dX1_leave_45 rfl rfl ?_
    refine j_callVi h (kX3_kindOf l D a cI cZ q5 q2) tb2_239 tb3_0 tb3_1 tb1_4 tb3_2 ⟨rfl, rfl⟩ (n := 1) (by decide +kernel) ⟨Nat.le_of_ble_eq_true rfl, Nat.le_of_ble_eq_true rfl⟩ (As := [.int q2]) rfl (ci := 3) (q0 := 2) rfl rfl (st := []) rfl (Nat.le_of_ble_eq_true rfl) dX1_leave_46 ⟨Nat.zero_le _, Nat.zero_le _⟩ ?_
    generalize hq6 : (fX3_kindOf q5 q2) = q6
    refine j_iconst h (v := 5) dX1_leave_49 (by decide) ?_
    refine j_icmp_ne h dX1_leave_50 (tgt := 77) (by decide) (fun c7 => ?_) (fun c7 => ?_)
    ·
      refine j_aload_n h 3 dX1_leave_77 rfl rfl ?_
      refine j_iload_n h 1 dX1_leave_78 rfl rfl ?_
      refine j_callVv h (kX1_commit l D a cI cZ q5 q2) tb3_13 tb3_15 tp_3 tb1_5 tb3_16 ⟨rfl, rfl⟩ (n := 1) (by decide +kernel) ⟨Nat.le_of_ble_eq_true rfl, Nat.le_of_ble_eq_true rfl⟩ (As := [.int q2]) rfl (ci := 1) (q0 := 8) rfl rfl (st := []) rfl (Nat.le_of_ble_eq_true rfl) dX1_leave_79 ⟨Nat.zero_le _, Nat.zero_le _⟩ ?_
      generalize hq8 : (fX1_commit q5 q2) = q8
      refine j_iload_n h 0 dX1_leave_82 rfl rfl ?_
      refine j_if_eq h dX1_leave_83 (tgt := 103) (by decide) (fun c9 => ?_) (fun c9 => ?_)
      ·
        refine j_iconst h (v := 0) dX1_leave_103 (by decide) ?_
        subst hq1 hq2 hq4 hq5 hq6 hq8
        have E : fX1_leave σ = (0, (fX1_commit (fX5_empty σ (fX4_last σ)) (fX5_wordIn σ (fX4_last σ)))) := j_ig c3 (j_ig c7 (j_ip c9 rfl))
        exact j_ireturn h hr (congrArg Prod.fst E).symm (congrArg (fun z => fx a cI cZ z.2) E).symm dX1_leave_104
      ·
        refine j_aload_n h 3 dX1_leave_86 rfl rfl ?_
        refine j_get h iX1 8 rfl rfl 0 (by decide) tb1_202 rfl (v := .ref (a 1)) rfl dX1_leave_87 ?_
        refine j_get h iX4 1 rfl rfl 4 (by decide) tb1_50 rfl (v := .int (q8.1 4)) rfl dX1_leave_90 ?_
        refine j_iload_n h 2 dX1_leave_93 rfl rfl ?_
        refine j_icmp_ne h dX1_leave_94 (tgt := 103) (by decide) (fun c10 => ?_) (fun c10 => ?_)
        ·
          refine j_iconst h (v := 0) dX1_leave_103 (by decide) ?_
          subst hq1 hq2 hq4 hq5 hq6 hq8
          have E : fX1_leave σ = (0, (fX1_commit (fX5_empty σ (fX4_last σ)) (fX5_wordIn σ (fX4_last σ)))) := j_ig c3 (j_ig c7 (j_ig c9 (j_ig c10 rfl)))
          exact j_ireturn h hr (congrArg Prod.fst E).symm (congrArg (fun z => fx a cI cZ z.2) E).symm dX1_leave_104
        ·
          refine j_aload_n h 3 dX1_leave_97 rfl rfl ?_
          refine j_iload_n h 2 dX1_leave_98 rfl rfl ?_
          refine j_iload_n h 1 dX1_leave_99 rfl rfl ?_
          refine j_callVv h (kX1_takeBranch l D a cI cZ q8 q1 q2) tb3_60 tb3_62 tp_6 tb1_5 tb3_63 ⟨rfl, rfl⟩ (n := 2) (by decide +kernel) ⟨Nat.le_of_ble_eq_true rfl, Nat.le_of_ble_eq_true rfl⟩ (As := [.int q1, .int q2]) rfl (ci := 1) (q0 := 8) rfl rfl (st := []) rfl (Nat.le_of_ble_eq_true rfl) dX1_leave_100 ⟨Nat.zero_le _, Nat.zero_le _⟩ ?_
          generalize hq11 : (fX1_takeBranch q8 q1 q2) = q11
          refine j_iconst h (v := 0) dX1_leave_103 (by decide) ?_
          subst hq1 hq2 hq4 hq5 hq6 hq8 hq11
          have E : fX1_leave σ = (0, (fX1_takeBranch (fX1_commit (fX5_empty σ (fX4_last σ)) (fX5_wordIn σ (fX4_last σ))) (fX4_last σ) (fX5_wordIn σ (fX4_last σ)))) := j_ig c3 (j_ig c7 (j_ig c9 (j_ip c10 rfl)))
          exact j_ireturn h hr (congrArg Prod.fst E).symm (congrArg (fun z => fx a cI cZ z.2) E).symm dX1_leave_104
    ·
      refine j_aload_n h 3 dX1_leave_53 rfl rfl ?_
      refine j_get h iX1 8 rfl rfl 4 (by decide) tb1_208 rfl (v := .ref (a 17)) rfl dX1_leave_54 ?_
      refine j_dup h dX1_leave_57 rfl ?_
      refine j_get h iX6 17 rfl rfl 5 (by decide) tb1_161 rfl (v := .int (q5.1 13)) rfl dX1_leave_58 ?_
      refine j_iconst h (v := 1) dX1_leave_61 (by decide) ?_
      refine j_iadd h dX1_leave_62 ?_
      refine j_put h iX6 tyX6 tyX6_ok nmX6 17 rfl rfl 5 (by decide) tb1_161 rfl rfl rfl rfl (Nat.le_of_ble_eq_true rfl) (w' := (fx a cI cZ (sg q5 13 ((q5.1 13) + 1)))) rfl dX1_leave_63 ?_
      refine j_aload_n h 3 dX1_leave_66 rfl rfl ?_
      refine j_iload_n h 2 dX1_leave_67 rfl rfl ?_
      refine j_aload_n h 3 dX1_leave_68 rfl rfl ?_
      refine j_get h iX1 8 rfl rfl 8 (by decide) tb1_216 rfl (v := .int (q5.1 17)) rfl dX1_leave_69 ?_
      refine j_callVv h (kX1_squashAndGoTo l D a cI cZ (sg q5 13 ((q5.1 13) + 1)) q1 (q5.1 17)) tb3_3 tb3_5 tp_2 tb1_5 tb3_6 ⟨rfl, rfl⟩ (n := 2) (by decide +kernel) ⟨Nat.le_of_ble_eq_true rfl, Nat.le_of_ble_eq_true rfl⟩ (As := [.int q1, .int (q5.1 17)]) rfl (ci := 1) (q0 := 8) rfl rfl (st := []) rfl (Nat.le_of_ble_eq_true rfl) dX1_leave_72 ⟨Nat.zero_le _, Nat.zero_le _⟩ ?_
      generalize hq12 : (fX1_squashAndGoTo (sg q5 13 ((q5.1 13) + 1)) q1 (q5.1 17)) = q12
      refine j_iconst h (v := 1) dX1_leave_75 (by decide) ?_
      subst hq1 hq2 hq4 hq5 hq6 hq12
      have E : fX1_leave σ = (1, (fX1_squashAndGoTo (sg (fX5_empty σ (fX4_last σ)) 13 (((fX5_empty σ (fX4_last σ)).1 13) + 1)) (fX4_last σ) ((fX5_empty σ (fX4_last σ)).1 17))) := j_ig c3 (j_ip c7 rfl)
      exact j_ireturn h hr (congrArg Prod.fst E).symm (congrArg (fun z => fx a cI cZ z.2) E).symm dX1_leave_76
  ·
    refine j_iconst h (v := 4) dX1_leave_22 (by decide) ?_
    subst hq1 hq2
    have E : fX1_leave σ = (4, σ) := j_ip c3 rfl
    exact j_ireturn h hr (congrArg Prod.fst E).symm (congrArg (fun z => fx a cI cZ z.2) E).symm dX1_leave_23
theorem fr_fX1_leave (σ : St) : Fr (fX1_leave σ).2 σ := by
  by_cases c0 : (fX5_wordIn σ (fX4_last σ)) = (-1)
  ·
    have E : fX1_leave σ = (4, σ) := j_ip c0 rfl
    rw [E]
    exact (Fr.rf _)
  ·
    by_cases c1 : (fX3_kindOf (fX5_empty σ (fX4_last σ)) (fX5_wordIn σ (fX4_last σ))) = 5
    ·
      have E : fX1_leave σ = (1, (fX1_squashAndGoTo (sg (fX5_empty σ (fX4_last σ)) 13 (((fX5_empty σ (fX4_last σ)).1 13) + 1)) (fX4_last σ) ((fX5_empty σ (fX4_last σ)).1 17))) := j_ig c0 (j_ip c1 rfl)
      rw [E]
      exact (Fr.tr (fr_fX1_squashAndGoTo _ _ _) (Fr.tr (Fr.sg (by decide)) (Fr.tr (fr_fX5_empty _ _) (Fr.rf _))))
    ·
      by_cases c2 : (fX5_isGoing σ (fX4_last σ)) = 0
      ·
        have E : fX1_leave σ = (0, (fX1_commit (fX5_empty σ (fX4_last σ)) (fX5_wordIn σ (fX4_last σ)))) := j_ig c0 (j_ig c1 (j_ip c2 rfl))
        rw [E]
        exact (Fr.tr (fr_fX1_commit _ _) (Fr.tr (fr_fX5_empty _ _) (Fr.rf _)))
      ·
        by_cases c3 : ((fX1_commit (fX5_empty σ (fX4_last σ)) (fX5_wordIn σ (fX4_last σ))).1 4) = (fX4_last σ)
        ·
          have E : fX1_leave σ = (0, (fX1_takeBranch (fX1_commit (fX5_empty σ (fX4_last σ)) (fX5_wordIn σ (fX4_last σ))) (fX4_last σ) (fX5_wordIn σ (fX4_last σ)))) := j_ig c0 (j_ig c1 (j_ig c2 (j_ip c3 rfl)))
          rw [E]
          exact (Fr.tr (fr_fX1_takeBranch _ _ _) (Fr.tr (fr_fX1_commit _ _) (Fr.tr (fr_fX5_empty _ _) (Fr.rf _))))
        ·
          have E : fX1_leave σ = (0, (fX1_commit (fX5_empty σ (fX4_last σ)) (fX5_wordIn σ (fX4_last σ)))) := j_ig c0 (j_ig c1 (j_ig c2 (j_ig c3 rfl)))
          rw [E]
          exact (Fr.tr (fr_fX1_commit _ _) (Fr.tr (fr_fX5_empty _ _) (Fr.rf _)))
end
section
def gfX1_goOn : Nat → St → Int32 → Int32 → (Int32 × St)
  | 0, σ, x1, x2 => (0, σ)
  | n + 1, σ, x1, x2 => (if x2 < 0 then (x1, σ) else (let q2 := (fX5_wordIn σ x2); (if q2 = (-1) then gfX1_goOn n σ x1 (x2 + (-1)) else (if x2 = (σ.1 1) then (let q21 := (fX1_work σ q2); (if q21.1 = 4 then (let q24 := (fX5_wordIn q21.2 (x2 + 1)); (if q24 = (-1) then (let q26 := (fX5_moveOnFrom q21.2 x2); (if (x2 + 1) = (q26.1 1) then (if x2 = (q26.1 4) then (let q33 := (fX5_isGoing (sg q26 22 0) (x2 + 1)); (if q33 = 0 then gfX1_goOn n (sg q26 22 0) x1 (x2 + (-1)) else (let q35 := (fX1_takeBranch (sg q26 22 0) x2 q2); gfX1_goOn n q35 x1 (x2 + (-1))))) else gfX1_goOn n (sg q26 22 0) x1 (x2 + (-1))) else (if x2 = (q26.1 4) then (let q29 := (fX5_isGoing (sg q26 22 (q26.1 22)) (x2 + 1)); (if q29 = 0 then gfX1_goOn n (sg q26 22 (q26.1 22)) x1 (x2 + (-1)) else (let q31 := (fX1_takeBranch (sg q26 22 (q26.1 22)) x2 q2); gfX1_goOn n q31 x1 (x2 + (-1))))) else gfX1_goOn n (sg q26 22 (q26.1 22)) x1 (x2 + (-1))))) else gfX1_goOn n q21.2 x1 (x2 + (-1)))) else gfX1_goOn n q21.2 q21.1 (x2 + (-1)))) else (let q9 := (fX5_wordIn σ (x2 + 1)); (if q9 = (-1) then (let q11 := (fX5_moveOnFrom σ x2); (if (x2 + 1) = (q11.1 1) then (if x2 = (q11.1 4) then (let q18 := (fX5_isGoing (sg q11 22 0) (x2 + 1)); (if q18 = 0 then gfX1_goOn n (sg q11 22 0) x1 (x2 + (-1)) else (let q20 := (fX1_takeBranch (sg q11 22 0) x2 q2); gfX1_goOn n q20 x1 (x2 + (-1))))) else gfX1_goOn n (sg q11 22 0) x1 (x2 + (-1))) else (if x2 = (q11.1 4) then (let q14 := (fX5_isGoing (sg q11 22 (q11.1 22)) (x2 + 1)); (if q14 = 0 then gfX1_goOn n (sg q11 22 (q11.1 22)) x1 (x2 + (-1)) else (let q16 := (fX1_takeBranch (sg q11 22 (q11.1 22)) x2 q2); gfX1_goOn n q16 x1 (x2 + (-1))))) else gfX1_goOn n (sg q11 22 (q11.1 22)) x1 (x2 + (-1))))) else gfX1_goOn n σ x1 (x2 + (-1))))))))
def fX1_goOn (σ : St) : Int32 × St := (let q101 := (fX4_last σ); gfX1_goOn 9 σ 4 (q101 - 1))
def rmX1_goOn : Room := { frames := 4, cells := 0, slots := 0, locals := 91 }
set_option maxRecDepth 100000 in
set_option maxHeartbeats 4000000 in
theorem kX1_goOn (l : Launch) (D : va_G) (a : Nat → Nat) (cI cZ : ClassId) (σ : St) (hs : shp σ) : Ci l yX1_goOn cX1_goOn 5 (some .int) TB rmX1_goOn D vwCl [(cI, .int), (cZ, .boolean)] [.ref (a 8)] (fx a cI cZ σ) (fx a cI cZ (fX1_goOn σ).2) (fX1_goOn σ).1 := by
  refine Ci_of (cc := cX1_goOn) (maxL := 5) (ret := (some .int)) (by decide +kernel) TBg (Nat.le_of_ble_eq_true rfl) ?_
  intro p e s m args below meth c A h hr
  have loop : ∀ (n : Nat) (σ : St) (x1 x2 : Int32), shp σ → -1 ≤ x2.toInt → x2.toInt + 1 < n → J p l e rmX1_goOn s m args below meth c D vwCl A 5 0 0 (MQ below (jEi D vwCl [(cI, .int), (cZ, .boolean)] A (fx a cI cZ (gfX1_goOn n σ x1 x2).2) (gfX1_goOn n σ x1 x2).1) args s 0 0 A) (fx a cI cZ σ) 12 [(1, .int x1), (2, .int x2), (0, .ref (a 8))] [] := by
    intro n
    induction n with
    | zero => intro σ x1 x2 hs h1 h2; exact absurd h2 (by omega)
    | succ n ih =>
      intro σ x1 x2 hs h1 h2
      refine j_iload_n h 1 dX1_goOn_12 rfl rfl ?_
      refine j_if_lt h dX1_goOn_13 (tgt := 152) (by decide) (fun c1 => ?_) (fun c1 => ?_)
      ·
        refine j_iload_n h 0 dX1_goOn_152 rfl rfl ?_
        have E : gfX1_goOn (n + 1) σ x1 x2 = (x1, σ) := j_ip c1 rfl
        exact j_ireturn h hr (congrArg Prod.fst E).symm (congrArg (fun z => fx a cI cZ z.2) E).symm dX1_goOn_153
      ·
        refine j_aload_n h 2 dX1_goOn_16 rfl rfl ?_
        refine j_get h iX1 8 rfl rfl 2 (by decide) tb1_204 rfl (v := .ref (a 9)) rfl dX1_goOn_17 ?_
        refine j_iload_n h 1 dX1_goOn_20 rfl rfl ?_
        refine j_callVi h (kX5_wordIn l D a cI cZ σ x2) tb2_227 tb2_228 tb2_229 tb1_6 tb2_230 ⟨rfl, rfl⟩ (n := 1) (by decide +kernel) ⟨Nat.le_of_ble_eq_true rfl, Nat.le_of_ble_eq_true rfl⟩ (As := [.int x2]) rfl (ci := 5) (q0 := 9) rfl rfl (st := []) rfl (Nat.le_of_ble_eq_true rfl) dX1_goOn_21 ⟨Nat.zero_le _, Nat.zero_le _⟩ ?_
        generalize hq2 : (fX5_wordIn σ x2) = q2
        refine j_istore_n h (lv' := [(3, .int q2), (1, .int x1), (2, .int x2), (0, .ref (a 8))]) dX1_goOn_24 rfl (by decide) rfl ?_
        refine j_iload_n h 0 dX1_goOn_25 rfl rfl ?_
        refine j_iconst h (v := (-1)) dX1_goOn_26 (by decide) ?_
        refine j_icmp_eq h dX1_goOn_27 (tgt := 49) (by decide) (fun c3 => ?_) (fun c3 => ?_)
        ·
          refine j_iconst h (v := 4) dX1_goOn_49 (by decide) ?_
          refine j_istore h (lv' := [(4, .int 4), (3, .int q2), (1, .int x1), (2, .int x2), (0, .ref (a 8))]) dX1_goOn_50 (by decide) rfl ?_
          refine j_iload h 0 dX1_goOn_52 rfl ?_
          refine j_iconst h (v := 4) dX1_goOn_54 (by decide) ?_
          refine j_icmp_eq h dX1_goOn_55 (tgt := 64) (by decide) (fun c4 => ?_) (fun c4 => ?_)
          ·
            refine j_iload_n h 1 dX1_goOn_64 rfl rfl ?_
            refine j_iconst h (v := (-1)) dX1_goOn_65 (by decide) ?_
            refine j_icmp_eq h dX1_goOn_66 (tgt := 146) (by decide) (fun c5 => ?_) (fun c5 => ?_)
            ·
              refine j_iinc h 3 (v := (x2 + (-1))) (lv' := [(2, .int (x2 + (-1))), (4, .int 4), (3, .int q2), (1, .int x1), (0, .ref (a 8))]) dX1_goOn_146 rfl (rfl) (by decide) rfl ?_
              refine j_goto h dX1_goOn_149 (tgt := 12) (by decide) ?_
              have hi := j_dec c1
              have hl := j_toGe c1
              subst hq2
              have E : gfX1_goOn (n + 1) σ x1 x2 = gfX1_goOn n σ x1 (x2 + (-1)) := j_ig c1 (j_ip c3 rfl)
              rw [E]
              refine j_lv [3, 0, 4] rfl ?_
              exact ih σ x1 (x2 + (-1)) hs (by omega) (by omega)
            ·
              exact absurd c3 c5
          ·
            exact absurd c4 (by decide)
        ·
          refine j_iload_n h 2 dX1_goOn_30 rfl rfl ?_
          refine j_aload_n h 3 dX1_goOn_31 rfl rfl ?_
          refine j_get h iX1 8 rfl rfl 0 (by decide) tb1_202 rfl (v := .ref (a 1)) rfl dX1_goOn_32 ?_
          refine j_get h iX4 1 rfl rfl 1 (by decide) tb1_43 rfl (v := .int (σ.1 1)) rfl dX1_goOn_35 ?_
          refine j_icmp_ne h dX1_goOn_38 (tgt := 49) (by decide) (fun c6 => ?_) (fun c6 => ?_)
          ·
            refine j_iconst h (v := 4) dX1_goOn_49 (by decide) ?_
            refine j_istore h (lv' := [(4, .int 4), (3, .int q2), (1, .int x1), (2, .int x2), (0, .ref (a 8))]) dX1_goOn_50 (by decide) rfl ?_
            refine j_iload h 0 dX1_goOn_52 rfl ?_
            refine j_iconst h (v := 4) dX1_goOn_54 (by decide) ?_
            refine j_icmp_eq h dX1_goOn_55 (tgt := 64) (by decide) (fun c7 => ?_) (fun c7 => ?_)
            ·
              refine j_iload_n h 1 dX1_goOn_64 rfl rfl ?_
              refine j_iconst h (v := (-1)) dX1_goOn_65 (by decide) ?_
              refine j_icmp_eq h dX1_goOn_66 (tgt := 146) (by decide) (fun c8 => ?_) (fun c8 => ?_)
              ·
                exact absurd c8 c3
              ·
                refine j_aload_n h 4 dX1_goOn_69 rfl rfl ?_
                refine j_get h iX1 8 rfl rfl 2 (by decide) tb1_204 rfl (v := .ref (a 9)) rfl dX1_goOn_70 ?_
                refine j_iload_n h 3 dX1_goOn_73 rfl rfl ?_
                refine j_iconst h (v := 1) dX1_goOn_74 (by decide) ?_
                refine j_iadd h dX1_goOn_75 ?_
                refine j_callVi h (kX5_wordIn l D a cI cZ σ (x2 + 1)) tb2_227 tb2_228 tb2_229 tb1_6 tb2_230 ⟨rfl, rfl⟩ (n := 1) (by decide +kernel) ⟨Nat.le_of_ble_eq_true rfl, Nat.le_of_ble_eq_true rfl⟩ (As := [.int (x2 + 1)]) rfl (ci := 5) (q0 := 9) rfl rfl (st := []) rfl (Nat.le_of_ble_eq_true rfl) dX1_goOn_76 ⟨Nat.zero_le _, Nat.zero_le _⟩ ?_
                generalize hq9 : (fX5_wordIn σ (x2 + 1)) = q9
                refine j_iconst h (v := (-1)) dX1_goOn_79 (by decide) ?_
                refine j_icmp_ne h dX1_goOn_80 (tgt := 146) (by decide) (fun c10 => ?_) (fun c10 => ?_)
                ·
                  refine j_iinc h 3 (v := (x2 + (-1))) (lv' := [(2, .int (x2 + (-1))), (4, .int 4), (3, .int q2), (1, .int x1), (0, .ref (a 8))]) dX1_goOn_146 rfl (rfl) (by decide) rfl ?_
                  refine j_goto h dX1_goOn_149 (tgt := 12) (by decide) ?_
                  have hi := j_dec c1
                  have hl := j_toGe c1
                  subst hq2 hq9
                  have E : gfX1_goOn (n + 1) σ x1 x2 = gfX1_goOn n σ x1 (x2 + (-1)) := j_ig c1 (j_ig c3 (j_ig c6 (j_ig c10 rfl)))
                  rw [E]
                  refine j_lv [3, 0, 4] rfl ?_
                  exact ih σ x1 (x2 + (-1)) hs (by omega) (by omega)
                ·
                  refine j_aload_n h 4 dX1_goOn_83 rfl rfl ?_
                  refine j_get h iX1 8 rfl rfl 2 (by decide) tb1_204 rfl (v := .ref (a 9)) rfl dX1_goOn_84 ?_
                  refine j_iload_n h 3 dX1_goOn_87 rfl rfl ?_
                  refine j_callVv h (kX5_moveOnFrom l D a cI cZ σ x2) tb3_92 tb3_93 tb3_94 tb1_6 tb3_95 ⟨rfl, rfl⟩ (n := 1) (by decide +kernel) ⟨Nat.le_of_ble_eq_true rfl, Nat.le_of_ble_eq_true rfl⟩ (As := [.int x2]) rfl (ci := 5) (q0 := 9) rfl rfl (st := []) rfl (Nat.le_of_ble_eq_true rfl) dX1_goOn_88 ⟨Nat.zero_le _, Nat.zero_le _⟩ ?_
                  generalize hq11 : (fX5_moveOnFrom σ x2) = q11
                  refine j_aload_n h 4 dX1_goOn_91 rfl rfl ?_
                  refine j_iload_n h 3 dX1_goOn_92 rfl rfl ?_
                  refine j_iconst h (v := 1) dX1_goOn_93 (by decide) ?_
                  refine j_iadd h dX1_goOn_94 ?_
                  refine j_aload_n h 4 dX1_goOn_95 rfl rfl ?_
                  refine j_get h iX1 8 rfl rfl 0 (by decide) tb1_202 rfl (v := .ref (a 1)) rfl dX1_goOn_96 ?_
                  refine j_get h iX4 1 rfl rfl 1 (by decide) tb1_43 rfl (v := .int (q11.1 1)) rfl dX1_goOn_99 ?_
                  refine j_icmp_ne h dX1_goOn_102 (tgt := 109) (by decide) (fun c12 => ?_) (fun c12 => ?_)
                  ·
                    refine j_aload_n h 4 dX1_goOn_109 rfl rfl ?_
                    refine j_get h iX1 8 rfl rfl 13 (by decide) tb1_221 rfl (v := .int (q11.1 22)) rfl dX1_goOn_110 ?_
                    refine j_put h iX1 tyX1 tyX1_ok nmX1 8 rfl rfl 13 (by decide) tb1_221 rfl rfl rfl rfl (Nat.le_of_ble_eq_true rfl) (w' := (fx a cI cZ (sg q11 22 (q11.1 22)))) rfl dX1_goOn_113 ?_
                    refine j_iload_n h 3 dX1_goOn_116 rfl rfl ?_
                    refine j_aload_n h 4 dX1_goOn_117 rfl rfl ?_
                    refine j_get h iX1 8 rfl rfl 0 (by decide) tb1_202 rfl (v := .ref (a 1)) rfl dX1_goOn_118 ?_
                    refine j_get h iX4 1 rfl rfl 4 (by decide) tb1_50 rfl (v := .int (q11.1 4)) rfl dX1_goOn_121 ?_
                    refine j_icmp_ne h dX1_goOn_124 (tgt := 146) (by decide) (fun c13 => ?_) (fun c13 => ?_)
                    ·
                      refine j_iinc h 3 (v := (x2 + (-1))) (lv' := [(2, .int (x2 + (-1))), (4, .int 4), (3, .int q2), (1, .int x1), (0, .ref (a 8))]) dX1_goOn_146 rfl (rfl) (by decide) rfl ?_
                      refine j_goto h dX1_goOn_149 (tgt := 12) (by decide) ?_
                      have hi := j_dec c1
                      have hl := j_toGe c1
                      subst hq2 hq9 hq11
                      have E : gfX1_goOn (n + 1) σ x1 x2 = gfX1_goOn n (sg (fX5_moveOnFrom σ x2) 22 ((fX5_moveOnFrom σ x2).1 22)) x1 (x2 + (-1)) := j_ig c1 (j_ig c3 (j_ig c6 (j_ip c10 (j_ig c12 (j_ig c13 rfl)))))
                      rw [E]
                      refine j_lv [3, 0, 4] rfl ?_
                      exact ih (sg (fX5_moveOnFrom σ x2) 22 ((fX5_moveOnFrom σ x2).1 22)) x1 (x2 + (-1)) (shp.fr (shp.fr hs (fr_fX5_moveOnFrom _ _)) (Fr.sg (by decide))) (by omega) (by omega)
                    ·
                      refine j_aload_n h 4 dX1_goOn_127 rfl rfl ?_
                      refine j_get h iX1 8 rfl rfl 2 (by decide) tb1_204 rfl (v := .ref (a 9)) rfl dX1_goOn_128 ?_
                      refine j_iload_n h 3 dX1_goOn_131 rfl rfl ?_
                      refine j_iconst h (v := 1) dX1_goOn_132 (by decide) ?_
                      refine j_iadd h dX1_goOn_133 ?_
                      refine j_callVi h (kX5_isGoing l D a cI cZ (sg q11 22 (q11.1 22)) (x2 + 1)) tb2_231 tb2_232 tb2_233 tb1_6 tb2_234 ⟨rfl, rfl⟩ (n := 1) (by decide +kernel) ⟨Nat.le_of_ble_eq_true rfl, Nat.le_of_ble_eq_true rfl⟩ (As := [.int (x2 + 1)]) rfl (ci := 5) (q0 := 9) rfl rfl (st := []) rfl (Nat.le_of_ble_eq_true rfl) dX1_goOn_134 ⟨Nat.zero_le _, Nat.zero_le _⟩ ?_
                      generalize hq14 : (fX5_isGoing (sg q11 22 (q11.1 22)) (x2 + 1)) = q14
                      refine j_if_eq h dX1_goOn_137 (tgt := 146) (by decide) (fun c15 => ?_) (fun c15 => ?_)
                      ·
                        refine j_iinc h 3 (v := (x2 + (-1))) (lv' := [(2, .int (x2 + (-1))), (4, .int 4), (3, .int q2), (1, .int x1), (0, .ref (a 8))]) dX1_goOn_146 rfl (rfl) (by decide) rfl ?_
                        refine j_goto h dX1_goOn_149 (tgt := 12) (by decide) ?_
                        have hi := j_dec c1
                        have hl := j_toGe c1
                        subst hq2 hq9 hq11 hq14
                        have E : gfX1_goOn (n + 1) σ x1 x2 = gfX1_goOn n (sg (fX5_moveOnFrom σ x2) 22 ((fX5_moveOnFrom σ x2).1 22)) x1 (x2 + (-1)) := j_ig c1 (j_ig c3 (j_ig c6 (j_ip c10 (j_ig c12 (j_ip c13 (j_ip c15 rfl))))))
                        rw [E]
                        refine j_lv [3, 0, 4] rfl ?_
                        exact ih (sg (fX5_moveOnFrom σ x2) 22 ((fX5_moveOnFrom σ x2).1 22)) x1 (x2 + (-1)) (shp.fr (shp.fr hs (fr_fX5_moveOnFrom _ _)) (Fr.sg (by decide))) (by omega) (by omega)
                      ·
                        refine j_aload_n h 4 dX1_goOn_140 rfl rfl ?_
                        refine j_iload_n h 3 dX1_goOn_141 rfl rfl ?_
                        refine j_iload_n h 1 dX1_goOn_142 rfl rfl ?_
                        refine j_callVv h (kX1_takeBranch l D a cI cZ (sg q11 22 (q11.1 22)) x2 q2) tb3_60 tb3_62 tp_6 tb1_5 tb3_63 ⟨rfl, rfl⟩ (n := 2) (by decide +kernel) ⟨Nat.le_of_ble_eq_true rfl, Nat.le_of_ble_eq_true rfl⟩ (As := [.int x2, .int q2]) rfl (ci := 1) (q0 := 8) rfl rfl (st := []) rfl (Nat.le_of_ble_eq_true rfl) dX1_goOn_143 ⟨Nat.zero_le _, Nat.zero_le _⟩ ?_
                        generalize hq16 : (fX1_takeBranch (sg q11 22 (q11.1 22)) x2 q2) = q16
                        refine j_iinc h 3 (v := (x2 + (-1))) (lv' := [(2, .int (x2 + (-1))), (4, .int 4), (3, .int q2), (1, .int x1), (0, .ref (a 8))]) dX1_goOn_146 rfl (rfl) (by decide) rfl ?_
                        refine j_goto h dX1_goOn_149 (tgt := 12) (by decide) ?_
                        have hi := j_dec c1
                        have hl := j_toGe c1
                        subst hq2 hq9 hq11 hq14 hq16
                        have E : gfX1_goOn (n + 1) σ x1 x2 = gfX1_goOn n (fX1_takeBranch (sg (fX5_moveOnFrom σ x2) 22 ((fX5_moveOnFrom σ x2).1 22)) x2 (fX5_wordIn σ x2)) x1 (x2 + (-1)) := j_ig c1 (j_ig c3 (j_ig c6 (j_ip c10 (j_ig c12 (j_ip c13 (j_ig c15 rfl))))))
                        rw [E]
                        refine j_lv [3, 0, 4] rfl ?_
                        exact ih (fX1_takeBranch (sg (fX5_moveOnFrom σ x2) 22 ((fX5_moveOnFrom σ x2).1 22)) x2 (fX5_wordIn σ x2)) x1 (x2 + (-1)) (shp.fr (shp.fr (shp.fr hs (fr_fX5_moveOnFrom _ _)) (Fr.sg (by decide))) (fr_fX1_takeBranch _ _ _)) (by omega) (by omega)
                  ·
                    refine j_iconst h (v := 0) dX1_goOn_105 (by decide) ?_
                    refine j_goto h dX1_goOn_106 (tgt := 113) (by decide) ?_
                    refine j_put h iX1 tyX1 tyX1_ok nmX1 8 rfl rfl 13 (by decide) tb1_221 rfl rfl rfl rfl (Nat.le_of_ble_eq_true rfl) (w' := (fx a cI cZ (sg q11 22 0))) rfl dX1_goOn_113 ?_
                    refine j_iload_n h 3 dX1_goOn_116 rfl rfl ?_
                    refine j_aload_n h 4 dX1_goOn_117 rfl rfl ?_
                    refine j_get h iX1 8 rfl rfl 0 (by decide) tb1_202 rfl (v := .ref (a 1)) rfl dX1_goOn_118 ?_
                    refine j_get h iX4 1 rfl rfl 4 (by decide) tb1_50 rfl (v := .int (q11.1 4)) rfl dX1_goOn_121 ?_
                    refine j_icmp_ne h dX1_goOn_124 (tgt := 146) (by decide) (fun c17 => ?_) (fun c17 => ?_)
                    ·
                      refine j_iinc h 3 (v := (x2 + (-1))) (lv' := [(2, .int (x2 + (-1))), (4, .int 4), (3, .int q2), (1, .int x1), (0, .ref (a 8))]) dX1_goOn_146 rfl (rfl) (by decide) rfl ?_
                      refine j_goto h dX1_goOn_149 (tgt := 12) (by decide) ?_
                      have hi := j_dec c1
                      have hl := j_toGe c1
                      subst hq2 hq9 hq11
                      have E : gfX1_goOn (n + 1) σ x1 x2 = gfX1_goOn n (sg (fX5_moveOnFrom σ x2) 22 0) x1 (x2 + (-1)) := j_ig c1 (j_ig c3 (j_ig c6 (j_ip c10 (j_ip c12 (j_ig c17 rfl)))))
                      rw [E]
                      refine j_lv [3, 0, 4] rfl ?_
                      exact ih (sg (fX5_moveOnFrom σ x2) 22 0) x1 (x2 + (-1)) (shp.fr (shp.fr hs (fr_fX5_moveOnFrom _ _)) (Fr.sg (by decide))) (by omega) (by omega)
                    ·
                      refine j_aload_n h 4 dX1_goOn_127 rfl rfl ?_
                      refine j_get h iX1 8 rfl rfl 2 (by decide) tb1_204 rfl (v := .ref (a 9)) rfl dX1_goOn_128 ?_
                      refine j_iload_n h 3 dX1_goOn_131 rfl rfl ?_
                      refine j_iconst h (v := 1) dX1_goOn_132 (by decide) ?_
                      refine j_iadd h dX1_goOn_133 ?_
                      refine j_callVi h (kX5_isGoing l D a cI cZ (sg q11 22 0) (x2 + 1)) tb2_231 tb2_232 tb2_233 tb1_6 tb2_234 ⟨rfl, rfl⟩ (n := 1) (by decide +kernel) ⟨Nat.le_of_ble_eq_true rfl, Nat.le_of_ble_eq_true rfl⟩ (As := [.int (x2 + 1)]) rfl (ci := 5) (q0 := 9) rfl rfl (st := []) rfl (Nat.le_of_ble_eq_true rfl) dX1_goOn_134 ⟨Nat.zero_le _, Nat.zero_le _⟩ ?_
                      generalize hq18 : (fX5_isGoing (sg q11 22 0) (x2 + 1)) = q18
                      refine j_if_eq h dX1_goOn_137 (tgt := 146) (by decide) (fun c19 => ?_) (fun c19 => ?_)
                      ·
                        refine j_iinc h 3 (v := (x2 + (-1))) (lv' := [(2, .int (x2 + (-1))), (4, .int 4), (3, .int q2), (1, .int x1), (0, .ref (a 8))]) dX1_goOn_146 rfl (rfl) (by decide) rfl ?_
                        refine j_goto h dX1_goOn_149 (tgt := 12) (by decide) ?_
                        have hi := j_dec c1
                        have hl := j_toGe c1
                        subst hq2 hq9 hq11 hq18
                        have E : gfX1_goOn (n + 1) σ x1 x2 = gfX1_goOn n (sg (fX5_moveOnFrom σ x2) 22 0) x1 (x2 + (-1)) := j_ig c1 (j_ig c3 (j_ig c6 (j_ip c10 (j_ip c12 (j_ip c17 (j_ip c19 rfl))))))
                        rw [E]
                        refine j_lv [3, 0, 4] rfl ?_
                        exact ih (sg (fX5_moveOnFrom σ x2) 22 0) x1 (x2 + (-1)) (shp.fr (shp.fr hs (fr_fX5_moveOnFrom _ _)) (Fr.sg (by decide))) (by omega) (by omega)
                      ·
                        refine j_aload_n h 4 dX1_goOn_140 rfl rfl ?_
                        refine j_iload_n h 3 dX1_goOn_141 rfl rfl ?_
                        refine j_iload_n h 1 dX1_goOn_142 rfl rfl ?_
                        refine j_callVv h (kX1_takeBranch l D a cI cZ (sg q11 22 0) x2 q2) tb3_60 tb3_62 tp_6 tb1_5 tb3_63 ⟨rfl, rfl⟩ (n := 2) (by decide +kernel) ⟨Nat.le_of_ble_eq_true rfl, Nat.le_of_ble_eq_true rfl⟩ (As := [.int x2, .int q2]) rfl (ci := 1) (q0 := 8) rfl rfl (st := []) rfl (Nat.le_of_ble_eq_true rfl) dX1_goOn_143 ⟨Nat.zero_le _, Nat.zero_le _⟩ ?_
                        generalize hq20 : (fX1_takeBranch (sg q11 22 0) x2 q2) = q20
                        refine j_iinc h 3 (v := (x2 + (-1))) (lv' := [(2, .int (x2 + (-1))), (4, .int 4), (3, .int q2), (1, .int x1), (0, .ref (a 8))]) dX1_goOn_146 rfl (rfl) (by decide) rfl ?_
                        refine j_goto h dX1_goOn_149 (tgt := 12) (by decide) ?_
                        have hi := j_dec c1
                        have hl := j_toGe c1
                        subst hq2 hq9 hq11 hq18 hq20
                        have E : gfX1_goOn (n + 1) σ x1 x2 = gfX1_goOn n (fX1_takeBranch (sg (fX5_moveOnFrom σ x2) 22 0) x2 (fX5_wordIn σ x2)) x1 (x2 + (-1)) := j_ig c1 (j_ig c3 (j_ig c6 (j_ip c10 (j_ip c12 (j_ip c17 (j_ig c19 rfl))))))
                        rw [E]
                        refine j_lv [3, 0, 4] rfl ?_
                        exact ih (fX1_takeBranch (sg (fX5_moveOnFrom σ x2) 22 0) x2 (fX5_wordIn σ x2)) x1 (x2 + (-1)) (shp.fr (shp.fr (shp.fr hs (fr_fX5_moveOnFrom _ _)) (Fr.sg (by decide))) (fr_fX1_takeBranch _ _ _)) (by omega) (by omega)
            ·
              exact absurd c7 (by decide)
          ·
            refine j_aload_n h 3 dX1_goOn_41 rfl rfl ?_
            refine j_iload_n h 0 dX1_goOn_42 rfl rfl ?_
            refine j_callVi h (kX1_work l D a cI cZ σ q2 hs) tb3_69 tb3_71 tp_8 tb1_5 tb3_72 ⟨rfl, rfl⟩ (n := 1) (by decide +kernel) ⟨Nat.le_of_ble_eq_true rfl, Nat.le_of_ble_eq_true rfl⟩ (As := [.int q2]) rfl (ci := 1) (q0 := 8) rfl rfl (st := []) rfl (Nat.le_of_ble_eq_true rfl) dX1_goOn_43 ⟨Nat.zero_le _, Nat.zero_le _⟩ ?_
            generalize hq21 : (fX1_work σ q2) = q21
            refine j_goto h dX1_goOn_46 (tgt := 50) (by decide) ?_
            refine j_istore h (lv' := [(4, .int q21.1), (3, .int q2), (1, .int x1), (2, .int x2), (0, .ref (a 8))]) dX1_goOn_50 (by decide) rfl ?_
            refine j_iload h 0 dX1_goOn_52 rfl ?_
            refine j_iconst h (v := 4) dX1_goOn_54 (by decide) ?_
            refine j_icmp_eq h dX1_goOn_55 (tgt := 64) (by decide) (fun c22 => ?_) (fun c22 => ?_)
            ·
              refine j_iload_n h 1 dX1_goOn_64 rfl rfl ?_
              refine j_iconst h (v := (-1)) dX1_goOn_65 (by decide) ?_
              refine j_icmp_eq h dX1_goOn_66 (tgt := 146) (by decide) (fun c23 => ?_) (fun c23 => ?_)
              ·
                exact absurd c23 c3
              ·
                refine j_aload_n h 4 dX1_goOn_69 rfl rfl ?_
                refine j_get h iX1 8 rfl rfl 2 (by decide) tb1_204 rfl (v := .ref (a 9)) rfl dX1_goOn_70 ?_
                refine j_iload_n h 3 dX1_goOn_73 rfl rfl ?_
                refine j_iconst h (v := 1) dX1_goOn_74 (by decide) ?_
                refine j_iadd h dX1_goOn_75 ?_
                refine j_callVi h (kX5_wordIn l D a cI cZ q21.2 (x2 + 1)) tb2_227 tb2_228 tb2_229 tb1_6 tb2_230 ⟨rfl, rfl⟩ (n := 1) (by decide +kernel) ⟨Nat.le_of_ble_eq_true rfl, Nat.le_of_ble_eq_true rfl⟩ (As := [.int (x2 + 1)]) rfl (ci := 5) (q0 := 9) rfl rfl (st := []) rfl (Nat.le_of_ble_eq_true rfl) dX1_goOn_76 ⟨Nat.zero_le _, Nat.zero_le _⟩ ?_
                generalize hq24 : (fX5_wordIn q21.2 (x2 + 1)) = q24
                refine j_iconst h (v := (-1)) dX1_goOn_79 (by decide) ?_
                refine j_icmp_ne h dX1_goOn_80 (tgt := 146) (by decide) (fun c25 => ?_) (fun c25 => ?_)
                ·
                  refine j_iinc h 3 (v := (x2 + (-1))) (lv' := [(2, .int (x2 + (-1))), (4, .int q21.1), (3, .int q2), (1, .int x1), (0, .ref (a 8))]) dX1_goOn_146 rfl (rfl) (by decide) rfl ?_
                  refine j_goto h dX1_goOn_149 (tgt := 12) (by decide) ?_
                  have hi := j_dec c1
                  have hl := j_toGe c1
                  subst hq2 hq21 hq24
                  have E : gfX1_goOn (n + 1) σ x1 x2 = gfX1_goOn n (fX1_work σ (fX5_wordIn σ x2)).2 x1 (x2 + (-1)) := j_ig c1 (j_ig c3 (j_ip c6 (j_ip c22 (j_ig c25 rfl))))
                  rw [E]
                  refine j_lv [3, 0, 4] rfl ?_
                  exact ih ((fX1_work σ (fX5_wordIn σ x2)).2) x1 (x2 + (-1)) (shp.fr hs (fr_fX1_work _ _)) (by omega) (by omega)
                ·
                  refine j_aload_n h 4 dX1_goOn_83 rfl rfl ?_
                  refine j_get h iX1 8 rfl rfl 2 (by decide) tb1_204 rfl (v := .ref (a 9)) rfl dX1_goOn_84 ?_
                  refine j_iload_n h 3 dX1_goOn_87 rfl rfl ?_
                  refine j_callVv h (kX5_moveOnFrom l D a cI cZ q21.2 x2) tb3_92 tb3_93 tb3_94 tb1_6 tb3_95 ⟨rfl, rfl⟩ (n := 1) (by decide +kernel) ⟨Nat.le_of_ble_eq_true rfl, Nat.le_of_ble_eq_true rfl⟩ (As := [.int x2]) rfl (ci := 5) (q0 := 9) rfl rfl (st := []) rfl (Nat.le_of_ble_eq_true rfl) dX1_goOn_88 ⟨Nat.zero_le _, Nat.zero_le _⟩ ?_
                  generalize hq26 : (fX5_moveOnFrom q21.2 x2) = q26
                  refine j_aload_n h 4 dX1_goOn_91 rfl rfl ?_
                  refine j_iload_n h 3 dX1_goOn_92 rfl rfl ?_
                  refine j_iconst h (v := 1) dX1_goOn_93 (by decide) ?_
                  refine j_iadd h dX1_goOn_94 ?_
                  refine j_aload_n h 4 dX1_goOn_95 rfl rfl ?_
                  refine j_get h iX1 8 rfl rfl 0 (by decide) tb1_202 rfl (v := .ref (a 1)) rfl dX1_goOn_96 ?_
                  refine j_get h iX4 1 rfl rfl 1 (by decide) tb1_43 rfl (v := .int (q26.1 1)) rfl dX1_goOn_99 ?_
                  refine j_icmp_ne h dX1_goOn_102 (tgt := 109) (by decide) (fun c27 => ?_) (fun c27 => ?_)
                  ·
                    refine j_aload_n h 4 dX1_goOn_109 rfl rfl ?_
                    refine j_get h iX1 8 rfl rfl 13 (by decide) tb1_221 rfl (v := .int (q26.1 22)) rfl dX1_goOn_110 ?_
                    refine j_put h iX1 tyX1 tyX1_ok nmX1 8 rfl rfl 13 (by decide) tb1_221 rfl rfl rfl rfl (Nat.le_of_ble_eq_true rfl) (w' := (fx a cI cZ (sg q26 22 (q26.1 22)))) rfl dX1_goOn_113 ?_
                    refine j_iload_n h 3 dX1_goOn_116 rfl rfl ?_
                    refine j_aload_n h 4 dX1_goOn_117 rfl rfl ?_
                    refine j_get h iX1 8 rfl rfl 0 (by decide) tb1_202 rfl (v := .ref (a 1)) rfl dX1_goOn_118 ?_
                    refine j_get h iX4 1 rfl rfl 4 (by decide) tb1_50 rfl (v := .int (q26.1 4)) rfl dX1_goOn_121 ?_
                    refine j_icmp_ne h dX1_goOn_124 (tgt := 146) (by decide) (fun c28 => ?_) (fun c28 => ?_)
                    ·
                      refine j_iinc h 3 (v := (x2 + (-1))) (lv' := [(2, .int (x2 + (-1))), (4, .int q21.1), (3, .int q2), (1, .int x1), (0, .ref (a 8))]) dX1_goOn_146 rfl (rfl) (by decide) rfl ?_
                      refine j_goto h dX1_goOn_149 (tgt := 12) (by decide) ?_
                      have hi := j_dec c1
                      have hl := j_toGe c1
                      subst hq2 hq21 hq24 hq26
                      have E : gfX1_goOn (n + 1) σ x1 x2 = gfX1_goOn n (sg (fX5_moveOnFrom (fX1_work σ (fX5_wordIn σ x2)).2 x2) 22 ((fX5_moveOnFrom (fX1_work σ (fX5_wordIn σ x2)).2 x2).1 22)) x1 (x2 + (-1)) := j_ig c1 (j_ig c3 (j_ip c6 (j_ip c22 (j_ip c25 (j_ig c27 (j_ig c28 rfl))))))
                      rw [E]
                      refine j_lv [3, 0, 4] rfl ?_
                      exact ih (sg (fX5_moveOnFrom (fX1_work σ (fX5_wordIn σ x2)).2 x2) 22 ((fX5_moveOnFrom (fX1_work σ (fX5_wordIn σ x2)).2 x2).1 22)) x1 (x2 + (-1)) (shp.fr (shp.fr (shp.fr hs (fr_fX1_work _ _)) (fr_fX5_moveOnFrom _ _)) (Fr.sg (by decide))) (by omega) (by omega)
                    ·
                      refine j_aload_n h 4 dX1_goOn_127 rfl rfl ?_
                      refine j_get h iX1 8 rfl rfl 2 (by decide) tb1_204 rfl (v := .ref (a 9)) rfl dX1_goOn_128 ?_
                      refine j_iload_n h 3 dX1_goOn_131 rfl rfl ?_
                      refine j_iconst h (v := 1) dX1_goOn_132 (by decide) ?_
                      refine j_iadd h dX1_goOn_133 ?_
                      refine j_callVi h (kX5_isGoing l D a cI cZ (sg q26 22 (q26.1 22)) (x2 + 1)) tb2_231 tb2_232 tb2_233 tb1_6 tb2_234 ⟨rfl, rfl⟩ (n := 1) (by decide +kernel) ⟨Nat.le_of_ble_eq_true rfl, Nat.le_of_ble_eq_true rfl⟩ (As := [.int (x2 + 1)]) rfl (ci := 5) (q0 := 9) rfl rfl (st := []) rfl (Nat.le_of_ble_eq_true rfl) dX1_goOn_134 ⟨Nat.zero_le _, Nat.zero_le _⟩ ?_
                      generalize hq29 : (fX5_isGoing (sg q26 22 (q26.1 22)) (x2 + 1)) = q29
                      refine j_if_eq h dX1_goOn_137 (tgt := 146) (by decide) (fun c30 => ?_) (fun c30 => ?_)
                      ·
                        refine j_iinc h 3 (v := (x2 + (-1))) (lv' := [(2, .int (x2 + (-1))), (4, .int q21.1), (3, .int q2), (1, .int x1), (0, .ref (a 8))]) dX1_goOn_146 rfl (rfl) (by decide) rfl ?_
                        refine j_goto h dX1_goOn_149 (tgt := 12) (by decide) ?_
                        have hi := j_dec c1
                        have hl := j_toGe c1
                        subst hq2 hq21 hq24 hq26 hq29
                        have E : gfX1_goOn (n + 1) σ x1 x2 = gfX1_goOn n (sg (fX5_moveOnFrom (fX1_work σ (fX5_wordIn σ x2)).2 x2) 22 ((fX5_moveOnFrom (fX1_work σ (fX5_wordIn σ x2)).2 x2).1 22)) x1 (x2 + (-1)) := j_ig c1 (j_ig c3 (j_ip c6 (j_ip c22 (j_ip c25 (j_ig c27 (j_ip c28 (j_ip c30 rfl)))))))
                        rw [E]
                        refine j_lv [3, 0, 4] rfl ?_
                        exact ih (sg (fX5_moveOnFrom (fX1_work σ (fX5_wordIn σ x2)).2 x2) 22 ((fX5_moveOnFrom (fX1_work σ (fX5_wordIn σ x2)).2 x2).1 22)) x1 (x2 + (-1)) (shp.fr (shp.fr (shp.fr hs (fr_fX1_work _ _)) (fr_fX5_moveOnFrom _ _)) (Fr.sg (by decide))) (by omega) (by omega)
                      ·
                        refine j_aload_n h 4 dX1_goOn_140 rfl rfl ?_
                        refine j_iload_n h 3 dX1_goOn_141 rfl rfl ?_
                        refine j_iload_n h 1 dX1_goOn_142 rfl rfl ?_
                        refine j_callVv h (kX1_takeBranch l D a cI cZ (sg q26 22 (q26.1 22)) x2 q2) tb3_60 tb3_62 tp_6 tb1_5 tb3_63 ⟨rfl, rfl⟩ (n := 2) (by decide +kernel) ⟨Nat.le_of_ble_eq_true rfl, Nat.le_of_ble_eq_true rfl⟩ (As := [.int x2, .int q2]) rfl (ci := 1) (q0 := 8) rfl rfl (st := []) rfl (Nat.le_of_ble_eq_true rfl) dX1_goOn_143 ⟨Nat.zero_le _, Nat.zero_le _⟩ ?_
                        generalize hq31 : (fX1_takeBranch (sg q26 22 (q26.1 22)) x2 q2) = q31
                        refine j_iinc h 3 (v := (x2 + (-1))) (lv' := [(2, .int (x2 + (-1))), (4, .int q21.1), (3, .int q2), (1, .int x1), (0, .ref (a 8))]) dX1_goOn_146 rfl (rfl) (by decide) rfl ?_
                        refine j_goto h dX1_goOn_149 (tgt := 12) (by decide) ?_
                        have hi := j_dec c1
                        have hl := j_toGe c1
                        subst hq2 hq21 hq24 hq26 hq29 hq31
                        have E : gfX1_goOn (n + 1) σ x1 x2 = gfX1_goOn n (fX1_takeBranch (sg (fX5_moveOnFrom (fX1_work σ (fX5_wordIn σ x2)).2 x2) 22 ((fX5_moveOnFrom (fX1_work σ (fX5_wordIn σ x2)).2 x2).1 22)) x2 (fX5_wordIn σ x2)) x1 (x2 + (-1)) := j_ig c1 (j_ig c3 (j_ip c6 (j_ip c22 (j_ip c25 (j_ig c27 (j_ip c28 (j_ig c30 rfl)))))))
                        rw [E]
                        refine j_lv [3, 0, 4] rfl ?_
                        exact ih (fX1_takeBranch (sg (fX5_moveOnFrom (fX1_work σ (fX5_wordIn σ x2)).2 x2) 22 ((fX5_moveOnFrom (fX1_work σ (fX5_wordIn σ x2)).2 x2).1 22)) x2 (fX5_wordIn σ x2)) x1 (x2 + (-1)) (shp.fr (shp.fr (shp.fr (shp.fr hs (fr_fX1_work _ _)) (fr_fX5_moveOnFrom _ _)) (Fr.sg (by decide))) (fr_fX1_takeBranch _ _ _)) (by omega) (by omega)
                  ·
                    refine j_iconst h (v := 0) dX1_goOn_105 (by decide) ?_
                    refine j_goto h dX1_goOn_106 (tgt := 113) (by decide) ?_
                    refine j_put h iX1 tyX1 tyX1_ok nmX1 8 rfl rfl 13 (by decide) tb1_221 rfl rfl rfl rfl (Nat.le_of_ble_eq_true rfl) (w' := (fx a cI cZ (sg q26 22 0))) rfl dX1_goOn_113 ?_
                    refine j_iload_n h 3 dX1_goOn_116 rfl rfl ?_
                    refine j_aload_n h 4 dX1_goOn_117 rfl rfl ?_
                    refine j_get h iX1 8 rfl rfl 0 (by decide) tb1_202 rfl (v := .ref (a 1)) rfl dX1_goOn_118 ?_
                    refine j_get h iX4 1 rfl rfl 4 (by decide) tb1_50 rfl (v := .int (q26.1 4)) rfl dX1_goOn_121 ?_
                    refine j_icmp_ne h dX1_goOn_124 (tgt := 146) (by decide) (fun c32 => ?_) (fun c32 => ?_)
                    ·
                      refine j_iinc h 3 (v := (x2 + (-1))) (lv' := [(2, .int (x2 + (-1))), (4, .int q21.1), (3, .int q2), (1, .int x1), (0, .ref (a 8))]) dX1_goOn_146 rfl (rfl) (by decide) rfl ?_
                      refine j_goto h dX1_goOn_149 (tgt := 12) (by decide) ?_
                      have hi := j_dec c1
                      have hl := j_toGe c1
                      subst hq2 hq21 hq24 hq26
                      have E : gfX1_goOn (n + 1) σ x1 x2 = gfX1_goOn n (sg (fX5_moveOnFrom (fX1_work σ (fX5_wordIn σ x2)).2 x2) 22 0) x1 (x2 + (-1)) := j_ig c1 (j_ig c3 (j_ip c6 (j_ip c22 (j_ip c25 (j_ip c27 (j_ig c32 rfl))))))
                      rw [E]
                      refine j_lv [3, 0, 4] rfl ?_
                      exact ih (sg (fX5_moveOnFrom (fX1_work σ (fX5_wordIn σ x2)).2 x2) 22 0) x1 (x2 + (-1)) (shp.fr (shp.fr (shp.fr hs (fr_fX1_work _ _)) (fr_fX5_moveOnFrom _ _)) (Fr.sg (by decide))) (by omega) (by omega)
                    ·
                      refine j_aload_n h 4 dX1_goOn_127 rfl rfl ?_
                      refine j_get h iX1 8 rfl rfl 2 (by decide) tb1_204 rfl (v := .ref (a 9)) rfl dX1_goOn_128 ?_
                      refine j_iload_n h 3 dX1_goOn_131 rfl rfl ?_
                      refine j_iconst h (v := 1) dX1_goOn_132 (by decide) ?_
                      refine j_iadd h dX1_goOn_133 ?_
                      refine j_callVi h (kX5_isGoing l D a cI cZ (sg q26 22 0) (x2 + 1)) tb2_231 tb2_232 tb2_233 tb1_6 tb2_234 ⟨rfl, rfl⟩ (n := 1) (by decide +kernel) ⟨Nat.le_of_ble_eq_true rfl, Nat.le_of_ble_eq_true rfl⟩ (As := [.int (x2 + 1)]) rfl (ci := 5) (q0 := 9) rfl rfl (st := []) rfl (Nat.le_of_ble_eq_true rfl) dX1_goOn_134 ⟨Nat.zero_le _, Nat.zero_le _⟩ ?_
                      generalize hq33 : (fX5_isGoing (sg q26 22 0) (x2 + 1)) = q33
                      refine j_if_eq h dX1_goOn_137 (tgt := 146) (by decide) (fun c34 => ?_) (fun c34 => ?_)
                      ·
                        refine j_iinc h 3 (v := (x2 + (-1))) (lv' := [(2, .int (x2 + (-1))), (4, .int q21.1), (3, .int q2), (1, .int x1), (0, .ref (a 8))]) dX1_goOn_146 rfl (rfl) (by decide) rfl ?_
                        refine j_goto h dX1_goOn_149 (tgt := 12) (by decide) ?_
                        have hi := j_dec c1
                        have hl := j_toGe c1
                        subst hq2 hq21 hq24 hq26 hq33
                        have E : gfX1_goOn (n + 1) σ x1 x2 = gfX1_goOn n (sg (fX5_moveOnFrom (fX1_work σ (fX5_wordIn σ x2)).2 x2) 22 0) x1 (x2 + (-1)) := j_ig c1 (j_ig c3 (j_ip c6 (j_ip c22 (j_ip c25 (j_ip c27 (j_ip c32 (j_ip c34 rfl)))))))
                        rw [E]
                        refine j_lv [3, 0, 4] rfl ?_
                        exact ih (sg (fX5_moveOnFrom (fX1_work σ (fX5_wordIn σ x2)).2 x2) 22 0) x1 (x2 + (-1)) (shp.fr (shp.fr (shp.fr hs (fr_fX1_work _ _)) (fr_fX5_moveOnFrom _ _)) (Fr.sg (by decide))) (by omega) (by omega)
                      ·
                        refine j_aload_n h 4 dX1_goOn_140 rfl rfl ?_
                        refine j_iload_n h 3 dX1_goOn_141 rfl rfl ?_
                        refine j_iload_n h 1 dX1_goOn_142 rfl rfl ?_
                        refine j_callVv h (kX1_takeBranch l D a cI cZ (sg q26 22 0) x2 q2) tb3_60 tb3_62 tp_6 tb1_5 tb3_63 ⟨rfl, rfl⟩ (n := 2) (by decide +kernel) ⟨Nat.le_of_ble_eq_true rfl, Nat.le_of_ble_eq_true rfl⟩ (As := [.int x2, .int q2]) rfl (ci := 1) (q0 := 8) rfl rfl (st := []) rfl (Nat.le_of_ble_eq_true rfl) dX1_goOn_143 ⟨Nat.zero_le _, Nat.zero_le _⟩ ?_
                        generalize hq35 : (fX1_takeBranch (sg q26 22 0) x2 q2) = q35
                        refine j_iinc h 3 (v := (x2 + (-1))) (lv' := [(2, .int (x2 + (-1))), (4, .int q21.1), (3, .int q2), (1, .int x1), (0, .ref (a 8))]) dX1_goOn_146 rfl (rfl) (by decide) rfl ?_
                        refine j_goto h dX1_goOn_149 (tgt := 12) (by decide) ?_
                        have hi := j_dec c1
                        have hl := j_toGe c1
                        subst hq2 hq21 hq24 hq26 hq33 hq35
                        have E : gfX1_goOn (n + 1) σ x1 x2 = gfX1_goOn n (fX1_takeBranch (sg (fX5_moveOnFrom (fX1_work σ (fX5_wordIn σ x2)).2 x2) 22 0) x2 (fX5_wordIn σ x2)) x1 (x2 + (-1)) := j_ig c1 (j_ig c3 (j_ip c6 (j_ip c22 (j_ip c25 (j_ip c27 (j_ip c32 (j_ig c34 rfl)))))))
                        rw [E]
                        refine j_lv [3, 0, 4] rfl ?_
                        exact ih (fX1_takeBranch (sg (fX5_moveOnFrom (fX1_work σ (fX5_wordIn σ x2)).2 x2) 22 0) x2 (fX5_wordIn σ x2)) x1 (x2 + (-1)) (shp.fr (shp.fr (shp.fr (shp.fr hs (fr_fX1_work _ _)) (fr_fX5_moveOnFrom _ _)) (Fr.sg (by decide))) (fr_fX1_takeBranch _ _ _)) (by omega) (by omega)
            ·
              refine j_iload h 0 dX1_goOn_58 rfl ?_
              refine j_istore_n h (lv' := [(1, .int q21.1), (4, .int q21.1), (3, .int q2), (2, .int x2), (0, .ref (a 8))]) dX1_goOn_60 rfl (by decide) rfl ?_
              refine j_goto h dX1_goOn_61 (tgt := 146) (by decide) ?_
              refine j_iinc h 3 (v := (x2 + (-1))) (lv' := [(2, .int (x2 + (-1))), (1, .int q21.1), (4, .int q21.1), (3, .int q2), (0, .ref (a 8))]) dX1_goOn_146 rfl (rfl) (by decide) rfl ?_
              refine j_goto h dX1_goOn_149 (tgt := 12) (by decide) ?_
              have hi := j_dec c1
              have hl := j_toGe c1
              subst hq2 hq21
              have E : gfX1_goOn (n + 1) σ x1 x2 = gfX1_goOn n (fX1_work σ (fX5_wordIn σ x2)).2 (fX1_work σ (fX5_wordIn σ x2)).1 (x2 + (-1)) := j_ig c1 (j_ig c3 (j_ip c6 (j_ig c22 rfl)))
              rw [E]
              refine j_lv [1, 0, 4] rfl ?_
              exact ih ((fX1_work σ (fX5_wordIn σ x2)).2) ((fX1_work σ (fX5_wordIn σ x2)).1) (x2 + (-1)) (shp.fr hs (fr_fX1_work _ _)) (by omega) (by omega)
  refine j_iconst h (v := 4) dX1_goOn_0 (by decide) ?_
  refine j_istore_n h (lv' := [(1, .int 4), (0, .ref (a 8))]) dX1_goOn_1 rfl (by decide) rfl ?_
  refine j_aload_n h 1 dX1_goOn_2 rfl rfl ?_
  refine j_get h iX1 8 rfl rfl 0 (by decide) tb1_202 rfl (v := .ref (a 1)) rfl dX1_goOn_3 ?_
  refine j_callVi h (kX4_last l D a cI cZ σ) tb2_223 tb2_224 tb2_225 tb1_2 tb2_226 ⟨rfl, rfl⟩ (n := 0) (by decide +kernel) ⟨Nat.le_of_ble_eq_true rfl, Nat.le_of_ble_eq_true rfl⟩ (As := []) rfl (ci := 4) (q0 := 1) rfl rfl (st := []) rfl (Nat.le_of_ble_eq_true rfl) dX1_goOn_6 ⟨Nat.zero_le _, Nat.zero_le _⟩ ?_
  generalize hq101 : (fX4_last σ) = q101
  refine j_iconst h (v := 1) dX1_goOn_9 (by decide) ?_
  refine j_isub h dX1_goOn_10 ?_
  refine j_istore_n h (lv' := [(2, .int (q101 - 1)), (1, .int 4), (0, .ref (a 8))]) dX1_goOn_11 rfl (by decide) rfl ?_
  subst hq101
  have E : fX1_goOn σ = gfX1_goOn 9 σ 4 ((fX4_last σ) - 1) := rfl
  rw [E]
  refine j_lv [1, 0, 2] rfl ?_
  exact loop 9 σ 4 ((fX4_last σ) - 1) hs hs.last.1 hs.last.2
theorem fr_gfX1_goOn : ∀ (n : Nat) (σ : St) (x1 x2 : Int32), Fr (gfX1_goOn n σ x1 x2).2 σ := by
  intro n
  induction n with
  | zero => intro σ x1 x2; exact Fr.rf _
  | succ n ih =>
    intro σ x1 x2
    by_cases c0 : x2 < 0
    ·
      have E : gfX1_goOn (n + 1) σ x1 x2 = (x1, σ) := j_ip c0 rfl
      rw [E]
      exact (Fr.rf _)
    ·
      by_cases c1 : (fX5_wordIn σ x2) = (-1)
      ·
        have E : gfX1_goOn (n + 1) σ x1 x2 = gfX1_goOn n σ x1 (x2 + (-1)) := j_ig c0 (j_ip c1 rfl)
        rw [E]
        exact (Fr.tr (ih _ _ _) (Fr.rf _))
      ·
        by_cases c2 : x2 = (σ.1 1)
        ·
          by_cases c3 : (fX1_work σ (fX5_wordIn σ x2)).1 = 4
          ·
            by_cases c4 : (fX5_wordIn (fX1_work σ (fX5_wordIn σ x2)).2 (x2 + 1)) = (-1)
            ·
              by_cases c5 : (x2 + 1) = ((fX5_moveOnFrom (fX1_work σ (fX5_wordIn σ x2)).2 x2).1 1)
              ·
                by_cases c6 : x2 = ((fX5_moveOnFrom (fX1_work σ (fX5_wordIn σ x2)).2 x2).1 4)
                ·
                  by_cases c7 : (fX5_isGoing (sg (fX5_moveOnFrom (fX1_work σ (fX5_wordIn σ x2)).2 x2) 22 0) (x2 + 1)) = 0
                  ·
                    have E : gfX1_goOn (n + 1) σ x1 x2 = gfX1_goOn n (sg (fX5_moveOnFrom (fX1_work σ (fX5_wordIn σ x2)).2 x2) 22 0) x1 (x2 + (-1)) := j_ig c0 (j_ig c1 (j_ip c2 (j_ip c3 (j_ip c4 (j_ip c5 (j_ip c6 (j_ip c7 rfl)))))))
                    rw [E]
                    exact (Fr.tr (ih _ _ _) (Fr.tr (Fr.sg (by decide)) (Fr.tr (fr_fX5_moveOnFrom _ _) (Fr.tr (fr_fX1_work _ _) (Fr.rf _)))))
                  ·
                    have E : gfX1_goOn (n + 1) σ x1 x2 = gfX1_goOn n (fX1_takeBranch (sg (fX5_moveOnFrom (fX1_work σ (fX5_wordIn σ x2)).2 x2) 22 0) x2 (fX5_wordIn σ x2)) x1 (x2 + (-1)) := j_ig c0 (j_ig c1 (j_ip c2 (j_ip c3 (j_ip c4 (j_ip c5 (j_ip c6 (j_ig c7 rfl)))))))
                    rw [E]
                    exact (Fr.tr (ih _ _ _) (Fr.tr (fr_fX1_takeBranch _ _ _) (Fr.tr (Fr.sg (by decide)) (Fr.tr (fr_fX5_moveOnFrom _ _) (Fr.tr (fr_fX1_work _ _) (Fr.rf _))))))
                ·
                  have E : gfX1_goOn (n + 1) σ x1 x2 = gfX1_goOn n (sg (fX5_moveOnFrom (fX1_work σ (fX5_wordIn σ x2)).2 x2) 22 0) x1 (x2 + (-1)) := j_ig c0 (j_ig c1 (j_ip c2 (j_ip c3 (j_ip c4 (j_ip c5 (j_ig c6 rfl))))))
                  rw [E]
                  exact (Fr.tr (ih _ _ _) (Fr.tr (Fr.sg (by decide)) (Fr.tr (fr_fX5_moveOnFrom _ _) (Fr.tr (fr_fX1_work _ _) (Fr.rf _)))))
              ·
                by_cases c6 : x2 = ((fX5_moveOnFrom (fX1_work σ (fX5_wordIn σ x2)).2 x2).1 4)
                ·
                  by_cases c7 : (fX5_isGoing (sg (fX5_moveOnFrom (fX1_work σ (fX5_wordIn σ x2)).2 x2) 22 ((fX5_moveOnFrom (fX1_work σ (fX5_wordIn σ x2)).2 x2).1 22)) (x2 + 1)) = 0
                  ·
                    have E : gfX1_goOn (n + 1) σ x1 x2 = gfX1_goOn n (sg (fX5_moveOnFrom (fX1_work σ (fX5_wordIn σ x2)).2 x2) 22 ((fX5_moveOnFrom (fX1_work σ (fX5_wordIn σ x2)).2 x2).1 22)) x1 (x2 + (-1)) := j_ig c0 (j_ig c1 (j_ip c2 (j_ip c3 (j_ip c4 (j_ig c5 (j_ip c6 (j_ip c7 rfl)))))))
                    rw [E]
                    exact (Fr.tr (ih _ _ _) (Fr.tr (Fr.sg (by decide)) (Fr.tr (fr_fX5_moveOnFrom _ _) (Fr.tr (fr_fX1_work _ _) (Fr.rf _)))))
                  ·
                    have E : gfX1_goOn (n + 1) σ x1 x2 = gfX1_goOn n (fX1_takeBranch (sg (fX5_moveOnFrom (fX1_work σ (fX5_wordIn σ x2)).2 x2) 22 ((fX5_moveOnFrom (fX1_work σ (fX5_wordIn σ x2)).2 x2).1 22)) x2 (fX5_wordIn σ x2)) x1 (x2 + (-1)) := j_ig c0 (j_ig c1 (j_ip c2 (j_ip c3 (j_ip c4 (j_ig c5 (j_ip c6 (j_ig c7 rfl)))))))
                    rw [E]
                    exact (Fr.tr (ih _ _ _) (Fr.tr (fr_fX1_takeBranch _ _ _) (Fr.tr (Fr.sg (by decide)) (Fr.tr (fr_fX5_moveOnFrom _ _) (Fr.tr (fr_fX1_work _ _) (Fr.rf _))))))
                ·
                  have E : gfX1_goOn (n + 1) σ x1 x2 = gfX1_goOn n (sg (fX5_moveOnFrom (fX1_work σ (fX5_wordIn σ x2)).2 x2) 22 ((fX5_moveOnFrom (fX1_work σ (fX5_wordIn σ x2)).2 x2).1 22)) x1 (x2 + (-1)) := j_ig c0 (j_ig c1 (j_ip c2 (j_ip c3 (j_ip c4 (j_ig c5 (j_ig c6 rfl))))))
                  rw [E]
                  exact (Fr.tr (ih _ _ _) (Fr.tr (Fr.sg (by decide)) (Fr.tr (fr_fX5_moveOnFrom _ _) (Fr.tr (fr_fX1_work _ _) (Fr.rf _)))))
            ·
              have E : gfX1_goOn (n + 1) σ x1 x2 = gfX1_goOn n (fX1_work σ (fX5_wordIn σ x2)).2 x1 (x2 + (-1)) := j_ig c0 (j_ig c1 (j_ip c2 (j_ip c3 (j_ig c4 rfl))))
              rw [E]
              exact (Fr.tr (ih _ _ _) (Fr.tr (fr_fX1_work _ _) (Fr.rf _)))
          ·
            have E : gfX1_goOn (n + 1) σ x1 x2 = gfX1_goOn n (fX1_work σ (fX5_wordIn σ x2)).2 (fX1_work σ (fX5_wordIn σ x2)).1 (x2 + (-1)) := j_ig c0 (j_ig c1 (j_ip c2 (j_ig c3 rfl)))
            rw [E]
            exact (Fr.tr (ih _ _ _) (Fr.tr (fr_fX1_work _ _) (Fr.rf _)))
        ·
          by_cases c3 : (fX5_wordIn σ (x2 + 1)) = (-1)
          ·
            by_cases c4 : (x2 + 1) = ((fX5_moveOnFrom σ x2).1 1)
            ·
              by_cases c5 : x2 = ((fX5_moveOnFrom σ x2).1 4)
              ·
                by_cases c6 : (fX5_isGoing (sg (fX5_moveOnFrom σ x2) 22 0) (x2 + 1)) = 0
                ·
                  have E : gfX1_goOn (n + 1) σ x1 x2 = gfX1_goOn n (sg (fX5_moveOnFrom σ x2) 22 0) x1 (x2 + (-1)) := j_ig c0 (j_ig c1 (j_ig c2 (j_ip c3 (j_ip c4 (j_ip c5 (j_ip c6 rfl))))))
                  rw [E]
                  exact (Fr.tr (ih _ _ _) (Fr.tr (Fr.sg (by decide)) (Fr.tr (fr_fX5_moveOnFrom _ _) (Fr.rf _))))
                ·
                  have E : gfX1_goOn (n + 1) σ x1 x2 = gfX1_goOn n (fX1_takeBranch (sg (fX5_moveOnFrom σ x2) 22 0) x2 (fX5_wordIn σ x2)) x1 (x2 + (-1)) := j_ig c0 (j_ig c1 (j_ig c2 (j_ip c3 (j_ip c4 (j_ip c5 (j_ig c6 rfl))))))
                  rw [E]
                  exact (Fr.tr (ih _ _ _) (Fr.tr (fr_fX1_takeBranch _ _ _) (Fr.tr (Fr.sg (by decide)) (Fr.tr (fr_fX5_moveOnFrom _ _) (Fr.rf _)))))
              ·
                have E : gfX1_goOn (n + 1) σ x1 x2 = gfX1_goOn n (sg (fX5_moveOnFrom σ x2) 22 0) x1 (x2 + (-1)) := j_ig c0 (j_ig c1 (j_ig c2 (j_ip c3 (j_ip c4 (j_ig c5 rfl)))))
                rw [E]
                exact (Fr.tr (ih _ _ _) (Fr.tr (Fr.sg (by decide)) (Fr.tr (fr_fX5_moveOnFrom _ _) (Fr.rf _))))
            ·
              by_cases c5 : x2 = ((fX5_moveOnFrom σ x2).1 4)
              ·
                by_cases c6 : (fX5_isGoing (sg (fX5_moveOnFrom σ x2) 22 ((fX5_moveOnFrom σ x2).1 22)) (x2 + 1)) = 0
                ·
                  have E : gfX1_goOn (n + 1) σ x1 x2 = gfX1_goOn n (sg (fX5_moveOnFrom σ x2) 22 ((fX5_moveOnFrom σ x2).1 22)) x1 (x2 + (-1)) := j_ig c0 (j_ig c1 (j_ig c2 (j_ip c3 (j_ig c4 (j_ip c5 (j_ip c6 rfl))))))
                  rw [E]
                  exact (Fr.tr (ih _ _ _) (Fr.tr (Fr.sg (by decide)) (Fr.tr (fr_fX5_moveOnFrom _ _) (Fr.rf _))))
                ·
                  have E : gfX1_goOn (n + 1) σ x1 x2 = gfX1_goOn n (fX1_takeBranch (sg (fX5_moveOnFrom σ x2) 22 ((fX5_moveOnFrom σ x2).1 22)) x2 (fX5_wordIn σ x2)) x1 (x2 + (-1)) := j_ig c0 (j_ig c1 (j_ig c2 (j_ip c3 (j_ig c4 (j_ip c5 (j_ig c6 rfl))))))
                  rw [E]
                  exact (Fr.tr (ih _ _ _) (Fr.tr (fr_fX1_takeBranch _ _ _) (Fr.tr (Fr.sg (by decide)) (Fr.tr (fr_fX5_moveOnFrom _ _) (Fr.rf _)))))
              ·
                have E : gfX1_goOn (n + 1) σ x1 x2 = gfX1_goOn n (sg (fX5_moveOnFrom σ x2) 22 ((fX5_moveOnFrom σ x2).1 22)) x1 (x2 + (-1)) := j_ig c0 (j_ig c1 (j_ig c2 (j_ip c3 (j_ig c4 (j_ig c5 rfl)))))
                rw [E]
                exact (Fr.tr (ih _ _ _) (Fr.tr (Fr.sg (by decide)) (Fr.tr (fr_fX5_moveOnFrom _ _) (Fr.rf _))))
          ·
            have E : gfX1_goOn (n + 1) σ x1 x2 = gfX1_goOn n σ x1 (x2 + (-1)) := j_ig c0 (j_ig c1 (j_ig c2 (j_ig c3 rfl)))
            rw [E]
            exact (Fr.tr (ih _ _ _) (Fr.rf _))
theorem fr_fX1_goOn (σ : St) : Fr (fX1_goOn σ).2 σ := by
  have E : fX1_goOn σ = gfX1_goOn 9 σ 4 ((fX4_last σ) - 1) := rfl
  rw [E]
  exact (Fr.tr (fr_gfX1_goOn _ _ _ _) (Fr.rf _))
def fX1_fetch (σ : St) : St := (if (σ.1 21) = 0 then (if (σ.1 20) = 0 then (let q3 := (fX5_wordIn σ 0); (if q3 = (-1) then (if (σ.1 19) = 0 then (let q11 := (fX2_goesA σ (σ.1 18)); (if q11 = 0 then (let q13 := (fX5_put σ 0 (σ.1 18) 1 0); (let q14 := (fX3_behind (sg q13 11 ((q13.1 11) + 1)) (σ.1 18)); (let q16 := (fX2_performA (sg (sg q13 11 ((q13.1 11) + 1)) 18 q14) (σ.1 18)); (let q17 := (fX3_kindOf q16.2 (σ.1 18)); (if q17 = 5 then (if q17 = 6 then (sg (sg q16.2 19 1) 20 1) else (sg (sg q16.2 19 1) 20 0)) else (if q17 = 6 then (sg (sg q16.2 19 0) 20 1) else (sg (sg q16.2 19 0) 20 0))))))) else (let q22 := (fX5_put σ 0 (σ.1 18) 1 1); (let q23 := (fX3_behind (sg q22 11 ((q22.1 11) + 1)) (σ.1 18)); (let q25 := (fX2_performA (sg (sg q22 11 ((q22.1 11) + 1)) 18 q23) (σ.1 18)); (let q26 := (fX3_kindOf q25.2 (σ.1 18)); (if q26 = 6 then (sg (sg q25.2 19 1) 20 1) else (sg (sg q25.2 19 1) 20 0)))))))) else (let q7 := (fX5_put σ 0 (σ.1 18) 0 0); (let q8 := (fX3_behind (sg q7 11 ((q7.1 11) + 1)) (σ.1 18)); (sg (sg q7 11 ((q7.1 11) + 1)) 18 q8)))) else σ)) else σ) else σ)
def rmX1_fetch : Room := { frames := 3, cells := 0, slots := 0, locals := 69 }
set_option maxRecDepth 100000 in
set_option maxHeartbeats 4000000 in
theorem kX1_fetch (l : Launch) (D : va_G) (a : Nat → Nat) (cI cZ : ClassId) (σ : St) : Cv l yX1_fetch cX1_fetch 5 none TB rmX1_fetch D vwCl [(cI, .int), (cZ, .boolean)] [.ref (a 8)] (fx a cI cZ σ) (fun _ => (fx a cI cZ (fX1_fetch σ))) 0 0 := by
  refine Cv_of (cc := cX1_fetch) (maxL := 5) (ret := none) (by decide +kernel) TBg (Nat.le_of_ble_eq_true rfl) ?_
  intro p e s m args below meth c A h hr hname
  refine j_aload_n h 0 dX1_fetch_0 rfl rfl ?_
  refine j_get h iX1 8 rfl rfl 12 (by decide) tb1_220 rfl (v := .int (σ.1 21)) rfl dX1_fetch_1 ?_
  refine j_if_ne h dX1_fetch_4 (tgt := 26) (by decide) (fun c1 => ?_) (fun c1 => ?_)
  ·
    have E : fX1_fetch σ = σ := j_ig c1 rfl
    exact j_vreturn h hr (fun _ => 0) (congrArg (fx a cI cZ) E).symm dX1_fetch_26
  ·
    refine j_aload_n h 0 dX1_fetch_7 rfl rfl ?_
    refine j_get h iX1 8 rfl rfl 11 (by decide) tb1_219 rfl (v := .int (σ.1 20)) rfl dX1_fetch_8 ?_
    refine j_if_ne h dX1_fetch_11 (tgt := 26) (by decide) (fun c2 => ?_) (fun c2 => ?_)
    ·
      have E : fX1_fetch σ = σ := j_ip c1 (j_ig c2 rfl)
      exact j_vreturn h hr (fun _ => 0) (congrArg (fx a cI cZ) E).symm dX1_fetch_26
    ·
      refine j_aload_n h 0 dX1_fetch_14 rfl rfl ?_
      refine j_get h iX1 8 rfl rfl 2 (by decide) tb1_204 rfl (v := .ref (a 9)) rfl dX1_fetch_15 ?_
      refine j_iconst h (v := 0) dX1_fetch_18 (by decide) ?_
      refine j_callVi h (kX5_wordIn l D a cI cZ σ 0) tb2_227 tb2_228 tb2_229 tb1_6 tb2_230 ⟨rfl, rfl⟩ (n := 1) (by decide +kernel) ⟨Nat.le_of_ble_eq_true rfl, Nat.le_of_ble_eq_true rfl⟩ (As := [.int 0]) rfl (ci := 5) (q0 := 9) rfl rfl (st := []) rfl (Nat.le_of_ble_eq_true rfl) dX1_fetch_19 ⟨Nat.zero_le _, Nat.zero_le _⟩ ?_
      generalize hq3 : (fX5_wordIn σ 0) = q3
      refine j_iconst h (v := (-1)) dX1_fetch_22 (by decide) ?_
      refine j_icmp_eq h dX1_fetch_23 (tgt := 27) (by decide) (fun c4 => ?_) (fun c4 => ?_)
      ·
        refine j_aload_n h 0 dX1_fetch_27 rfl rfl ?_
        refine j_get h iX1 8 rfl rfl 9 (by decide) tb1_217 rfl (v := .int (σ.1 18)) rfl dX1_fetch_28 ?_
        refine j_istore_n h (lv' := [(1, .int (σ.1 18)), (0, .ref (a 8))]) dX1_fetch_31 rfl (by decide) rfl ?_
        refine j_aload_n h 1 dX1_fetch_32 rfl rfl ?_
        refine j_get h iX1 8 rfl rfl 10 (by decide) tb1_218 rfl (v := .int (σ.1 19)) rfl dX1_fetch_33 ?_
        refine j_if_ne h dX1_fetch_36 (tgt := 43) (by decide) (fun c5 => ?_) (fun c5 => ?_)
        ·
          refine j_iconst h (v := 0) dX1_fetch_43 (by decide) ?_
          refine j_istore_n h (lv' := [(2, .int 0), (1, .int (σ.1 18)), (0, .ref (a 8))]) dX1_fetch_44 rfl (by decide) rfl ?_
          refine j_iload_n h 0 dX1_fetch_45 rfl rfl ?_
          refine j_if_eq h dX1_fetch_46 (tgt := 64) (by decide) (fun c6 => ?_) (fun c6 => ?_)
          ·
            refine j_iconst h (v := 0) dX1_fetch_64 (by decide) ?_
            refine j_istore_n h (lv' := [(3, .int 0), (2, .int 0), (1, .int (σ.1 18)), (0, .ref (a 8))]) dX1_fetch_65 rfl (by decide) rfl ?_
            refine j_aload_n h 3 dX1_fetch_66 rfl rfl ?_
            refine j_get h iX1 8 rfl rfl 2 (by decide) tb1_204 rfl (v := .ref (a 9)) rfl dX1_fetch_67 ?_
            refine j_iconst h (v := 0) dX1_fetch_70 (by decide) ?_
            refine j_iload_n h 2 dX1_fetch_71 rfl rfl ?_
            refine j_iload_n h 1 dX1_fetch_72 rfl rfl ?_
            refine j_iload_n h 0 dX1_fetch_73 rfl rfl ?_
            refine j_callVv h (kX5_put l D a cI cZ σ 0 (σ.1 18) 0 0) tb3_111 tb2_42 tb2_43 tb1_6 tb2_44 ⟨rfl, rfl⟩ (n := 4) (by decide +kernel) ⟨Nat.le_of_ble_eq_true rfl, Nat.le_of_ble_eq_true rfl⟩ (As := [.int 0, .int (σ.1 18), .int 0, .int 0]) rfl (ci := 5) (q0 := 9) rfl rfl (st := []) rfl (Nat.le_of_ble_eq_true rfl) dX1_fetch_74 ⟨Nat.zero_le _, Nat.zero_le _⟩ ?_
            generalize hq7 : (fX5_put σ 0 (σ.1 18) 0 0) = q7
            refine j_aload_n h 3 dX1_fetch_77 rfl rfl ?_
            refine j_get h iX1 8 rfl rfl 4 (by decide) tb1_208 rfl (v := .ref (a 17)) rfl dX1_fetch_78 ?_
            refine j_dup h dX1_fetch_81 rfl ?_
            refine j_get h iX6 17 rfl rfl 3 (by decide) tb1_156 rfl (v := .int (q7.1 11)) rfl dX1_fetch_82 ?_
            refine j_iconst h (v := 1) dX1_fetch_85 (by decide) ?_
            refine j_iadd h dX1_fetch_86 ?_
            refine j_put h iX6 tyX6 tyX6_ok nmX6 17 rfl rfl 3 (by decide) tb1_156 rfl rfl rfl rfl (Nat.le_of_ble_eq_true rfl) (w' := (fx a cI cZ (sg q7 11 ((q7.1 11) + 1)))) rfl dX1_fetch_87 ?_
            refine j_aload_n h 3 dX1_fetch_90 rfl rfl ?_
            refine j_aload_n h 3 dX1_fetch_91 rfl rfl ?_
            refine j_get h iX1 8 rfl rfl 1 (by decide) tb1_203 rfl (v := .ref (a 2)) rfl dX1_fetch_92 ?_
            refine j_iload_n h 2 dX1_fetch_95 rfl rfl ?_
            refine j_callVi h (kX3_behind l D a cI cZ (sg q7 11 ((q7.1 11) + 1)) (σ.1 18)) tb3_112 tb3_113 tb3_114 tb1_4 tb3_115 ⟨rfl, rfl⟩ (n := 1) (by decide +kernel) ⟨Nat.le_of_ble_eq_true rfl, Nat.le_of_ble_eq_true rfl⟩ (As := [.int (σ.1 18)]) rfl (ci := 3) (q0 := 2) rfl rfl (st := [.ref (a 8)]) rfl (Nat.le_of_ble_eq_true rfl) dX1_fetch_96 ⟨Nat.zero_le _, Nat.zero_le _⟩ ?_
            generalize hq8 : (fX3_behind (sg q7 11 ((q7.1 11) + 1)) (σ.1 18)) = q8
            refine j_put h iX1 tyX1 tyX1_ok nmX1 8 rfl rfl 9 (by decide) tb1_217 rfl rfl rfl rfl (Nat.le_of_ble_eq_true rfl) (w' := (fx a cI cZ (sg (sg q7 11 ((q7.1 11) + 1)) 18 q8))) rfl dX1_fetch_99 ?_
            refine j_iload_n h 1 dX1_fetch_102 rfl rfl ?_
            refine j_if_eq h dX1_fetch_103 (tgt := 160) (by decide) (fun c9 => ?_) (fun c9 => ?_)
            ·
              subst hq3 hq7 hq8
              have E : fX1_fetch σ = (sg (sg (fX5_put σ 0 (σ.1 18) 0 0) 11 (((fX5_put σ 0 (σ.1 18) 0 0).1 11) + 1)) 18 (fX3_behind (sg (fX5_put σ 0 (σ.1 18) 0 0) 11 (((fX5_put σ 0 (σ.1 18) 0 0).1 11) + 1)) (σ.1 18))) := j_ip c1 (j_ip c2 (j_ip c4 (j_ig c5 rfl)))
              exact j_vreturn h hr (fun _ => 0) (congrArg (fx a cI cZ) E).symm dX1_fetch_160
            ·
              exact absurd c9 (by decide)
          ·
            exact absurd c6 (by decide)
        ·
          refine j_iconst h (v := 1) dX1_fetch_39 (by decide) ?_
          refine j_goto h dX1_fetch_40 (tgt := 44) (by decide) ?_
          refine j_istore_n h (lv' := [(2, .int 1), (1, .int (σ.1 18)), (0, .ref (a 8))]) dX1_fetch_44 rfl (by decide) rfl ?_
          refine j_iload_n h 0 dX1_fetch_45 rfl rfl ?_
          refine j_if_eq h dX1_fetch_46 (tgt := 64) (by decide) (fun c10 => ?_) (fun c10 => ?_)
          ·
            exact absurd c10 (by decide)
          ·
            refine j_aload_n h 2 dX1_fetch_49 rfl rfl ?_
            refine j_get h iX1 8 rfl rfl 5 (by decide) tb1_210 rfl (v := .ref (a 19)) rfl dX1_fetch_50 ?_
            refine j_iload_n h 1 dX1_fetch_53 rfl rfl ?_
            refine j_callVi h (kX2_goesA l D a cI cZ σ (σ.1 18)) tb3_107 tb3_108 tb3_109 tb1_10 tb3_110 ⟨rfl, rfl⟩ (n := 1) (by decide +kernel) ⟨Nat.le_of_ble_eq_true rfl, Nat.le_of_ble_eq_true rfl⟩ (As := [.int (σ.1 18)]) rfl (ci := 2) (q0 := 19) rfl rfl (st := []) rfl (Nat.le_of_ble_eq_true rfl) dX1_fetch_54 ⟨Nat.zero_le _, Nat.zero_le _⟩ ?_
            generalize hq11 : (fX2_goesA σ (σ.1 18)) = q11
            refine j_if_eq h dX1_fetch_57 (tgt := 64) (by decide) (fun c12 => ?_) (fun c12 => ?_)
            ·
              refine j_iconst h (v := 0) dX1_fetch_64 (by decide) ?_
              refine j_istore_n h (lv' := [(3, .int 0), (2, .int 1), (1, .int (σ.1 18)), (0, .ref (a 8))]) dX1_fetch_65 rfl (by decide) rfl ?_
              refine j_aload_n h 3 dX1_fetch_66 rfl rfl ?_
              refine j_get h iX1 8 rfl rfl 2 (by decide) tb1_204 rfl (v := .ref (a 9)) rfl dX1_fetch_67 ?_
              refine j_iconst h (v := 0) dX1_fetch_70 (by decide) ?_
              refine j_iload_n h 2 dX1_fetch_71 rfl rfl ?_
              refine j_iload_n h 1 dX1_fetch_72 rfl rfl ?_
              refine j_iload_n h 0 dX1_fetch_73 rfl rfl ?_
              refine j_callVv h (kX5_put l D a cI cZ σ 0 (σ.1 18) 1 0) tb3_111 tb2_42 tb2_43 tb1_6 tb2_44 ⟨rfl, rfl⟩ (n := 4) (by decide +kernel) ⟨Nat.le_of_ble_eq_true rfl, Nat.le_of_ble_eq_true rfl⟩ (As := [.int 0, .int (σ.1 18), .int 1, .int 0]) rfl (ci := 5) (q0 := 9) rfl rfl (st := []) rfl (Nat.le_of_ble_eq_true rfl) dX1_fetch_74 ⟨Nat.zero_le _, Nat.zero_le _⟩ ?_
              generalize hq13 : (fX5_put σ 0 (σ.1 18) 1 0) = q13
              refine j_aload_n h 3 dX1_fetch_77 rfl rfl ?_
              refine j_get h iX1 8 rfl rfl 4 (by decide) tb1_208 rfl (v := .ref (a 17)) rfl dX1_fetch_78 ?_
              refine j_dup h dX1_fetch_81 rfl ?_
              refine j_get h iX6 17 rfl rfl 3 (by decide) tb1_156 rfl (v := .int (q13.1 11)) rfl dX1_fetch_82 ?_
              refine j_iconst h (v := 1) dX1_fetch_85 (by decide) ?_
              refine j_iadd h dX1_fetch_86 ?_
              refine j_put h iX6 tyX6 tyX6_ok nmX6 17 rfl rfl 3 (by decide) tb1_156 rfl rfl rfl rfl (Nat.le_of_ble_eq_true rfl) (w' := (fx a cI cZ (sg q13 11 ((q13.1 11) + 1)))) rfl dX1_fetch_87 ?_
              refine j_aload_n h 3 dX1_fetch_90 rfl rfl ?_
              refine j_aload_n h 3 dX1_fetch_91 rfl rfl ?_
              refine j_get h iX1 8 rfl rfl 1 (by decide) tb1_203 rfl (v := .ref (a 2)) rfl dX1_fetch_92 ?_
              refine j_iload_n h 2 dX1_fetch_95 rfl rfl ?_
              refine j_callVi h (kX3_behind l D a cI cZ (sg q13 11 ((q13.1 11) + 1)) (σ.1 18)) tb3_112 tb3_113 tb3_114 tb1_4 tb3_115 ⟨rfl, rfl⟩ (n := 1) (by decide +kernel) ⟨Nat.le_of_ble_eq_true rfl, Nat.le_of_ble_eq_true rfl⟩ (As := [.int (σ.1 18)]) rfl (ci := 3) (q0 := 2) rfl rfl (st := [.ref (a 8)]) rfl (Nat.le_of_ble_eq_true rfl) dX1_fetch_96 ⟨Nat.zero_le _, Nat.zero_le _⟩ ?_
              generalize hq14 : (fX3_behind (sg q13 11 ((q13.1 11) + 1)) (σ.1 18)) = q14
              refine j_put h iX1 tyX1 tyX1_ok nmX1 8 rfl rfl 9 (by decide) tb1_217 rfl rfl rfl rfl (Nat.le_of_ble_eq_true rfl) (w' := (fx a cI cZ (sg (sg q13 11 ((q13.1 11) + 1)) 18 q14))) rfl dX1_fetch_99 ?_
              refine j_iload_n h 1 dX1_fetch_102 rfl rfl ?_
              refine j_if_eq h dX1_fetch_103 (tgt := 160) (by decide) (fun c15 => ?_) (fun c15 => ?_)
              ·
                exact absurd c15 (by decide)
              ·
                refine j_aload_n h 3 dX1_fetch_106 rfl rfl ?_
                refine j_get h iX1 8 rfl rfl 5 (by decide) tb1_210 rfl (v := .ref (a 19)) rfl dX1_fetch_107 ?_
                refine j_iload_n h 2 dX1_fetch_110 rfl rfl ?_
                refine j_callVi h (kX2_performA l D a cI cZ (sg (sg q13 11 ((q13.1 11) + 1)) 18 q14) (σ.1 18)) tb3_17 tb3_18 tb3_19 tb1_10 tb3_20 ⟨rfl, rfl⟩ (n := 1) (by decide +kernel) ⟨Nat.le_of_ble_eq_true rfl, Nat.le_of_ble_eq_true rfl⟩ (As := [.int (σ.1 18)]) rfl (ci := 2) (q0 := 19) rfl rfl (st := []) rfl (Nat.le_of_ble_eq_true rfl) dX1_fetch_111 ⟨Nat.zero_le _, Nat.zero_le _⟩ ?_
                generalize hq16 : (fX2_performA (sg (sg q13 11 ((q13.1 11) + 1)) 18 q14) (σ.1 18)) = q16
                refine j_pop h dX1_fetch_114 rfl ?_
                refine j_aload_n h 3 dX1_fetch_115 rfl rfl ?_
                refine j_get h iX1 8 rfl rfl 1 (by decide) tb1_203 rfl (v := .ref (a 2)) rfl dX1_fetch_116 ?_
                refine j_iload_n h 2 dX1_fetch_119 rfl rfl ?_
                refine j_callVi h (kX3_kindOf l D a cI cZ q16.2 (σ.1 18)) tb2_239 tb3_0 tb3_1 tb1_4 tb3_2 ⟨rfl, rfl⟩ (n := 1) (by decide +kernel) ⟨Nat.le_of_ble_eq_true rfl, Nat.le_of_ble_eq_true rfl⟩ (As := [.int (σ.1 18)]) rfl (ci := 3) (q0 := 2) rfl rfl (st := []) rfl (Nat.le_of_ble_eq_true rfl) dX1_fetch_120 ⟨Nat.zero_le _, Nat.zero_le _⟩ ?_
                generalize hq17 : (fX3_kindOf q16.2 (σ.1 18)) = q17
                refine j_istore h (lv' := [(4, .int q17), (3, .int 0), (2, .int 1), (1, .int (σ.1 18)), (0, .ref (a 8))]) dX1_fetch_123 (by decide) rfl ?_
                refine j_aload_n h 4 dX1_fetch_125 rfl rfl ?_
                refine j_iload_n h 1 dX1_fetch_126 rfl rfl ?_
                refine j_if_ne h dX1_fetch_127 (tgt := 136) (by decide) (fun c18 => ?_) (fun c18 => ?_)
                ·
                  exact absurd c18 (by decide)
                ·
                  refine j_iload h 0 dX1_fetch_130 rfl ?_
                  refine j_iconst h (v := 5) dX1_fetch_132 (by decide) ?_
                  refine j_icmp_ne h dX1_fetch_133 (tgt := 140) (by decide) (fun c19 => ?_) (fun c19 => ?_)
                  ·
                    refine j_iconst h (v := 0) dX1_fetch_140 (by decide) ?_
                    refine j_put h iX1 tyX1 tyX1_ok nmX1 8 rfl rfl 10 (by decide) tb1_218 rfl rfl rfl rfl (Nat.le_of_ble_eq_true rfl) (w' := (fx a cI cZ (sg q16.2 19 0))) rfl dX1_fetch_141 ?_
                    refine j_aload_n h 4 dX1_fetch_144 rfl rfl ?_
                    refine j_iload h 0 dX1_fetch_145 rfl ?_
                    refine j_bipush h (v := 6) dX1_fetch_147 (by decide) ?_
                    refine j_icmp_ne h dX1_fetch_149 (tgt := 156) (by decide) (fun c20 => ?_) (fun c20 => ?_)
                    ·
                      refine j_iconst h (v := 0) dX1_fetch_156 (by decide) ?_
                      refine j_put h iX1 tyX1 tyX1_ok nmX1 8 rfl rfl 11 (by decide) tb1_219 rfl rfl rfl rfl (Nat.le_of_ble_eq_true rfl) (w' := (fx a cI cZ (sg (sg q16.2 19 0) 20 0))) rfl dX1_fetch_157 ?_
                      subst hq3 hq11 hq13 hq14 hq16 hq17
                      have E : fX1_fetch σ = (sg (sg (fX2_performA (sg (sg (fX5_put σ 0 (σ.1 18) 1 0) 11 (((fX5_put σ 0 (σ.1 18) 1 0).1 11) + 1)) 18 (fX3_behind (sg (fX5_put σ 0 (σ.1 18) 1 0) 11 (((fX5_put σ 0 (σ.1 18) 1 0).1 11) + 1)) (σ.1 18))) (σ.1 18)).2 19 0) 20 0) := j_ip c1 (j_ip c2 (j_ip c4 (j_ip c5 (j_ip c12 (j_ig c19 (j_ig c20 rfl))))))
                      exact j_vreturn h hr (fun _ => 0) (congrArg (fx a cI cZ) E).symm dX1_fetch_160
                    ·
                      refine j_iconst h (v := 1) dX1_fetch_152 (by decide) ?_
                      refine j_goto h dX1_fetch_153 (tgt := 157) (by decide) ?_
                      refine j_put h iX1 tyX1 tyX1_ok nmX1 8 rfl rfl 11 (by decide) tb1_219 rfl rfl rfl rfl (Nat.le_of_ble_eq_true rfl) (w' := (fx a cI cZ (sg (sg q16.2 19 0) 20 1))) rfl dX1_fetch_157 ?_
                      subst hq3 hq11 hq13 hq14 hq16 hq17
                      have E : fX1_fetch σ = (sg (sg (fX2_performA (sg (sg (fX5_put σ 0 (σ.1 18) 1 0) 11 (((fX5_put σ 0 (σ.1 18) 1 0).1 11) + 1)) 18 (fX3_behind (sg (fX5_put σ 0 (σ.1 18) 1 0) 11 (((fX5_put σ 0 (σ.1 18) 1 0).1 11) + 1)) (σ.1 18))) (σ.1 18)).2 19 0) 20 1) := j_ip c1 (j_ip c2 (j_ip c4 (j_ip c5 (j_ip c12 (j_ig c19 (j_ip c20 rfl))))))
                      exact j_vreturn h hr (fun _ => 0) (congrArg (fx a cI cZ) E).symm dX1_fetch_160
                  ·
                    refine j_iconst h (v := 1) dX1_fetch_136 (by decide) ?_
                    refine j_goto h dX1_fetch_137 (tgt := 141) (by decide) ?_
                    refine j_put h iX1 tyX1 tyX1_ok nmX1 8 rfl rfl 10 (by decide) tb1_218 rfl rfl rfl rfl (Nat.le_of_ble_eq_true rfl) (w' := (fx a cI cZ (sg q16.2 19 1))) rfl dX1_fetch_141 ?_
                    refine j_aload_n h 4 dX1_fetch_144 rfl rfl ?_
                    refine j_iload h 0 dX1_fetch_145 rfl ?_
                    refine j_bipush h (v := 6) dX1_fetch_147 (by decide) ?_
                    refine j_icmp_ne h dX1_fetch_149 (tgt := 156) (by decide) (fun c21 => ?_) (fun c21 => ?_)
                    ·
                      refine j_iconst h (v := 0) dX1_fetch_156 (by decide) ?_
                      refine j_put h iX1 tyX1 tyX1_ok nmX1 8 rfl rfl 11 (by decide) tb1_219 rfl rfl rfl rfl (Nat.le_of_ble_eq_true rfl) (w' := (fx a cI cZ (sg (sg q16.2 19 1) 20 0))) rfl dX1_fetch_157 ?_
                      subst hq3 hq11 hq13 hq14 hq16 hq17
                      have E : fX1_fetch σ = (sg (sg (fX2_performA (sg (sg (fX5_put σ 0 (σ.1 18) 1 0) 11 (((fX5_put σ 0 (σ.1 18) 1 0).1 11) + 1)) 18 (fX3_behind (sg (fX5_put σ 0 (σ.1 18) 1 0) 11 (((fX5_put σ 0 (σ.1 18) 1 0).1 11) + 1)) (σ.1 18))) (σ.1 18)).2 19 1) 20 0) := j_ip c1 (j_ip c2 (j_ip c4 (j_ip c5 (j_ip c12 (j_ip c19 (j_ig c21 rfl))))))
                      exact j_vreturn h hr (fun _ => 0) (congrArg (fx a cI cZ) E).symm dX1_fetch_160
                    ·
                      refine j_iconst h (v := 1) dX1_fetch_152 (by decide) ?_
                      refine j_goto h dX1_fetch_153 (tgt := 157) (by decide) ?_
                      refine j_put h iX1 tyX1 tyX1_ok nmX1 8 rfl rfl 11 (by decide) tb1_219 rfl rfl rfl rfl (Nat.le_of_ble_eq_true rfl) (w' := (fx a cI cZ (sg (sg q16.2 19 1) 20 1))) rfl dX1_fetch_157 ?_
                      subst hq3 hq11 hq13 hq14 hq16 hq17
                      have E : fX1_fetch σ = (sg (sg (fX2_performA (sg (sg (fX5_put σ 0 (σ.1 18) 1 0) 11 (((fX5_put σ 0 (σ.1 18) 1 0).1 11) + 1)) 18 (fX3_behind (sg (fX5_put σ 0 (σ.1 18) 1 0) 11 (((fX5_put σ 0 (σ.1 18) 1 0).1 11) + 1)) (σ.1 18))) (σ.1 18)).2 19 1) 20 1) := j_ip c1 (j_ip c2 (j_ip c4 (j_ip c5 (j_ip c12 (j_ip c19 (j_ip c21 rfl))))))
                      exact j_vreturn h hr (fun _ => 0) (congrArg (fx a cI cZ) E).symm dX1_fetch_160
            ·
              refine j_iconst h (v := 1) dX1_fetch_60 (by decide) ?_
              refine j_goto h dX1_fetch_61 (tgt := 65) (by decide) ?_
              refine j_istore_n h (lv' := [(3, .int 1), (2, .int 1), (1, .int (σ.1 18)), (0, .ref (a 8))]) dX1_fetch_65 rfl (by decide) rfl ?_
              refine j_aload_n h 3 dX1_fetch_66 rfl rfl ?_
              refine j_get h iX1 8 rfl rfl 2 (by decide) tb1_204 rfl (v := .ref (a 9)) rfl dX1_fetch_67 ?_
              refine j_iconst h (v := 0) dX1_fetch_70 (by decide) ?_
              refine j_iload_n h 2 dX1_fetch_71 rfl rfl ?_
              refine j_iload_n h 1 dX1_fetch_72 rfl rfl ?_
              refine j_iload_n h 0 dX1_fetch_73 rfl rfl ?_
              refine j_callVv h (kX5_put l D a cI cZ σ 0 (σ.1 18) 1 1) tb3_111 tb2_42 tb2_43 tb1_6 tb2_44 ⟨rfl, rfl⟩ (n := 4) (by decide +kernel) ⟨Nat.le_of_ble_eq_true rfl, Nat.le_of_ble_eq_true rfl⟩ (As := [.int 0, .int (σ.1 18), .int 1, .int 1]) rfl (ci := 5) (q0 := 9) rfl rfl (st := []) rfl (Nat.le_of_ble_eq_true rfl) dX1_fetch_74 ⟨Nat.zero_le _, Nat.zero_le _⟩ ?_
              generalize hq22 : (fX5_put σ 0 (σ.1 18) 1 1) = q22
              refine j_aload_n h 3 dX1_fetch_77 rfl rfl ?_
              refine j_get h iX1 8 rfl rfl 4 (by decide) tb1_208 rfl (v := .ref (a 17)) rfl dX1_fetch_78 ?_
              refine j_dup h dX1_fetch_81 rfl ?_
              refine j_get h iX6 17 rfl rfl 3 (by decide) tb1_156 rfl (v := .int (q22.1 11)) rfl dX1_fetch_82 ?_
              refine j_iconst h (v := 1) dX1_fetch_85 (by decide) ?_
              refine j_iadd h dX1_fetch_86 ?_
              refine j_put h iX6 tyX6 tyX6_ok nmX6 17 rfl rfl 3 (by decide) tb1_156 rfl rfl rfl rfl (Nat.le_of_ble_eq_true rfl) (w' := (fx a cI cZ (sg q22 11 ((q22.1 11) + 1)))) rfl dX1_fetch_87 ?_
              refine j_aload_n h 3 dX1_fetch_90 rfl rfl ?_
              refine j_aload_n h 3 dX1_fetch_91 rfl rfl ?_
              refine j_get h iX1 8 rfl rfl 1 (by decide) tb1_203 rfl (v := .ref (a 2)) rfl dX1_fetch_92 ?_
              refine j_iload_n h 2 dX1_fetch_95 rfl rfl ?_
              refine j_callVi h (kX3_behind l D a cI cZ (sg q22 11 ((q22.1 11) + 1)) (σ.1 18)) tb3_112 tb3_113 tb3_114 tb1_4 tb3_115 ⟨rfl, rfl⟩ (n := 1) (by decide +kernel) ⟨Nat.le_of_ble_eq_true rfl, Nat.le_of_ble_eq_true rfl⟩ (As := [.int (σ.1 18)]) rfl (ci := 3) (q0 := 2) rfl rfl (st := [.ref (a 8)]) rfl (Nat.le_of_ble_eq_true rfl) dX1_fetch_96 ⟨Nat.zero_le _, Nat.zero_le _⟩ ?_
              generalize hq23 : (fX3_behind (sg q22 11 ((q22.1 11) + 1)) (σ.1 18)) = q23
              refine j_put h iX1 tyX1 tyX1_ok nmX1 8 rfl rfl 9 (by decide) tb1_217 rfl rfl rfl rfl (Nat.le_of_ble_eq_true rfl) (w' := (fx a cI cZ (sg (sg q22 11 ((q22.1 11) + 1)) 18 q23))) rfl dX1_fetch_99 ?_
              refine j_iload_n h 1 dX1_fetch_102 rfl rfl ?_
              refine j_if_eq h dX1_fetch_103 (tgt := 160) (by decide) (fun c24 => ?_) (fun c24 => ?_)
              ·
                exact absurd c24 (by decide)
              ·
                refine j_aload_n h 3 dX1_fetch_106 rfl rfl ?_
                refine j_get h iX1 8 rfl rfl 5 (by decide) tb1_210 rfl (v := .ref (a 19)) rfl dX1_fetch_107 ?_
                refine j_iload_n h 2 dX1_fetch_110 rfl rfl ?_
                refine j_callVi h (kX2_performA l D a cI cZ (sg (sg q22 11 ((q22.1 11) + 1)) 18 q23) (σ.1 18)) tb3_17 tb3_18 tb3_19 tb1_10 tb3_20 ⟨rfl, rfl⟩ (n := 1) (by decide +kernel) ⟨Nat.le_of_ble_eq_true rfl, Nat.le_of_ble_eq_true rfl⟩ (As := [.int (σ.1 18)]) rfl (ci := 2) (q0 := 19) rfl rfl (st := []) rfl (Nat.le_of_ble_eq_true rfl) dX1_fetch_111 ⟨Nat.zero_le _, Nat.zero_le _⟩ ?_
                generalize hq25 : (fX2_performA (sg (sg q22 11 ((q22.1 11) + 1)) 18 q23) (σ.1 18)) = q25
                refine j_pop h dX1_fetch_114 rfl ?_
                refine j_aload_n h 3 dX1_fetch_115 rfl rfl ?_
                refine j_get h iX1 8 rfl rfl 1 (by decide) tb1_203 rfl (v := .ref (a 2)) rfl dX1_fetch_116 ?_
                refine j_iload_n h 2 dX1_fetch_119 rfl rfl ?_
                refine j_callVi h (kX3_kindOf l D a cI cZ q25.2 (σ.1 18)) tb2_239 tb3_0 tb3_1 tb1_4 tb3_2 ⟨rfl, rfl⟩ (n := 1) (by decide +kernel) ⟨Nat.le_of_ble_eq_true rfl, Nat.le_of_ble_eq_true rfl⟩ (As := [.int (σ.1 18)]) rfl (ci := 3) (q0 := 2) rfl rfl (st := []) rfl (Nat.le_of_ble_eq_true rfl) dX1_fetch_120 ⟨Nat.zero_le _, Nat.zero_le _⟩ ?_
                generalize hq26 : (fX3_kindOf q25.2 (σ.1 18)) = q26
                refine j_istore h (lv' := [(4, .int q26), (3, .int 1), (2, .int 1), (1, .int (σ.1 18)), (0, .ref (a 8))]) dX1_fetch_123 (by decide) rfl ?_
                refine j_aload_n h 4 dX1_fetch_125 rfl rfl ?_
                refine j_iload_n h 1 dX1_fetch_126 rfl rfl ?_
                refine j_if_ne h dX1_fetch_127 (tgt := 136) (by decide) (fun c27 => ?_) (fun c27 => ?_)
                ·
                  refine j_iconst h (v := 1) dX1_fetch_136 (by decide) ?_
                  refine j_goto h dX1_fetch_137 (tgt := 141) (by decide) ?_
                  refine j_put h iX1 tyX1 tyX1_ok nmX1 8 rfl rfl 10 (by decide) tb1_218 rfl rfl rfl rfl (Nat.le_of_ble_eq_true rfl) (w' := (fx a cI cZ (sg q25.2 19 1))) rfl dX1_fetch_141 ?_
                  refine j_aload_n h 4 dX1_fetch_144 rfl rfl ?_
                  refine j_iload h 0 dX1_fetch_145 rfl ?_
                  refine j_bipush h (v := 6) dX1_fetch_147 (by decide) ?_
                  refine j_icmp_ne h dX1_fetch_149 (tgt := 156) (by decide) (fun c28 => ?_) (fun c28 => ?_)
                  ·
                    refine j_iconst h (v := 0) dX1_fetch_156 (by decide) ?_
                    refine j_put h iX1 tyX1 tyX1_ok nmX1 8 rfl rfl 11 (by decide) tb1_219 rfl rfl rfl rfl (Nat.le_of_ble_eq_true rfl) (w' := (fx a cI cZ (sg (sg q25.2 19 1) 20 0))) rfl dX1_fetch_157 ?_
                    subst hq3 hq11 hq22 hq23 hq25 hq26
                    have E : fX1_fetch σ = (sg (sg (fX2_performA (sg (sg (fX5_put σ 0 (σ.1 18) 1 1) 11 (((fX5_put σ 0 (σ.1 18) 1 1).1 11) + 1)) 18 (fX3_behind (sg (fX5_put σ 0 (σ.1 18) 1 1) 11 (((fX5_put σ 0 (σ.1 18) 1 1).1 11) + 1)) (σ.1 18))) (σ.1 18)).2 19 1) 20 0) := j_ip c1 (j_ip c2 (j_ip c4 (j_ip c5 (j_ig c12 (j_ig c28 rfl)))))
                    exact j_vreturn h hr (fun _ => 0) (congrArg (fx a cI cZ) E).symm dX1_fetch_160
                  ·
                    refine j_iconst h (v := 1) dX1_fetch_152 (by decide) ?_
                    refine j_goto h dX1_fetch_153 (tgt := 157) (by decide) ?_
                    refine j_put h iX1 tyX1 tyX1_ok nmX1 8 rfl rfl 11 (by decide) tb1_219 rfl rfl rfl rfl (Nat.le_of_ble_eq_true rfl) (w' := (fx a cI cZ (sg (sg q25.2 19 1) 20 1))) rfl dX1_fetch_157 ?_
                    subst hq3 hq11 hq22 hq23 hq25 hq26
                    have E : fX1_fetch σ = (sg (sg (fX2_performA (sg (sg (fX5_put σ 0 (σ.1 18) 1 1) 11 (((fX5_put σ 0 (σ.1 18) 1 1).1 11) + 1)) 18 (fX3_behind (sg (fX5_put σ 0 (σ.1 18) 1 1) 11 (((fX5_put σ 0 (σ.1 18) 1 1).1 11) + 1)) (σ.1 18))) (σ.1 18)).2 19 1) 20 1) := j_ip c1 (j_ip c2 (j_ip c4 (j_ip c5 (j_ig c12 (j_ip c28 rfl)))))
                    exact j_vreturn h hr (fun _ => 0) (congrArg (fx a cI cZ) E).symm dX1_fetch_160
                ·
                  exact absurd c27 (by decide)
      ·
        subst hq3
        have E : fX1_fetch σ = σ := j_ip c1 (j_ip c2 (j_ig c4 rfl))
        exact j_vreturn h hr (fun _ => 0) (congrArg (fx a cI cZ) E).symm dX1_fetch_26
theorem fr_fX1_fetch (σ : St) : Fr (fX1_fetch σ) σ := by
  by_cases c0 : (σ.1 21) = 0
  ·
    by_cases c1 : (σ.1 20) = 0
    ·
      by_cases c2 : (fX5_wordIn σ 0) = (-1)
      ·
        by_cases c3 : (σ.1 19) = 0
        ·
          by_cases c4 : (fX2_goesA σ (σ.1 18)) = 0
          ·
            by_cases c5 : (fX3_kindOf (fX2_performA (sg (sg (fX5_put σ 0 (σ.1 18) 1 0) 11 (((fX5_put σ 0 (σ.1 18) 1 0).1 11) + 1)) 18 (fX3_behind (sg (fX5_put σ 0 (σ.1 18) 1 0) 11 (((fX5_put σ 0 (σ.1 18) 1 0).1 11) + 1)) (σ.1 18))) (σ.1 18)).2 (σ.1 18)) = 5
            ·
              by_cases c6 : (fX3_kindOf (fX2_performA (sg (sg (fX5_put σ 0 (σ.1 18) 1 0) 11 (((fX5_put σ 0 (σ.1 18) 1 0).1 11) + 1)) 18 (fX3_behind (sg (fX5_put σ 0 (σ.1 18) 1 0) 11 (((fX5_put σ 0 (σ.1 18) 1 0).1 11) + 1)) (σ.1 18))) (σ.1 18)).2 (σ.1 18)) = 6
              ·
                have E : fX1_fetch σ = (sg (sg (fX2_performA (sg (sg (fX5_put σ 0 (σ.1 18) 1 0) 11 (((fX5_put σ 0 (σ.1 18) 1 0).1 11) + 1)) 18 (fX3_behind (sg (fX5_put σ 0 (σ.1 18) 1 0) 11 (((fX5_put σ 0 (σ.1 18) 1 0).1 11) + 1)) (σ.1 18))) (σ.1 18)).2 19 1) 20 1) := j_ip c0 (j_ip c1 (j_ip c2 (j_ip c3 (j_ip c4 (j_ip c5 (j_ip c6 rfl))))))
                rw [E]
                exact (Fr.tr (Fr.sg (by decide)) (Fr.tr (Fr.sg (by decide)) (Fr.tr (fr_fX2_performA _ _) (Fr.tr (Fr.sg (by decide)) (Fr.tr (Fr.sg (by decide)) (Fr.tr (fr_fX5_put _ _ _ _ _) (Fr.rf _)))))))
              ·
                have E : fX1_fetch σ = (sg (sg (fX2_performA (sg (sg (fX5_put σ 0 (σ.1 18) 1 0) 11 (((fX5_put σ 0 (σ.1 18) 1 0).1 11) + 1)) 18 (fX3_behind (sg (fX5_put σ 0 (σ.1 18) 1 0) 11 (((fX5_put σ 0 (σ.1 18) 1 0).1 11) + 1)) (σ.1 18))) (σ.1 18)).2 19 1) 20 0) := j_ip c0 (j_ip c1 (j_ip c2 (j_ip c3 (j_ip c4 (j_ip c5 (j_ig c6 rfl))))))
                rw [E]
                exact (Fr.tr (Fr.sg (by decide)) (Fr.tr (Fr.sg (by decide)) (Fr.tr (fr_fX2_performA _ _) (Fr.tr (Fr.sg (by decide)) (Fr.tr (Fr.sg (by decide)) (Fr.tr (fr_fX5_put _ _ _ _ _) (Fr.rf _)))))))
            ·
              by_cases c6 : (fX3_kindOf (fX2_performA (sg (sg (fX5_put σ 0 (σ.1 18) 1 0) 11 (((fX5_put σ 0 (σ.1 18) 1 0).1 11) + 1)) 18 (fX3_behind (sg (fX5_put σ 0 (σ.1 18) 1 0) 11 (((fX5_put σ 0 (σ.1 18) 1 0).1 11) + 1)) (σ.1 18))) (σ.1 18)).2 (σ.1 18)) = 6
              ·
                have E : fX1_fetch σ = (sg (sg (fX2_performA (sg (sg (fX5_put σ 0 (σ.1 18) 1 0) 11 (((fX5_put σ 0 (σ.1 18) 1 0).1 11) + 1)) 18 (fX3_behind (sg (fX5_put σ 0 (σ.1 18) 1 0) 11 (((fX5_put σ 0 (σ.1 18) 1 0).1 11) + 1)) (σ.1 18))) (σ.1 18)).2 19 0) 20 1) := j_ip c0 (j_ip c1 (j_ip c2 (j_ip c3 (j_ip c4 (j_ig c5 (j_ip c6 rfl))))))
                rw [E]
                exact (Fr.tr (Fr.sg (by decide)) (Fr.tr (Fr.sg (by decide)) (Fr.tr (fr_fX2_performA _ _) (Fr.tr (Fr.sg (by decide)) (Fr.tr (Fr.sg (by decide)) (Fr.tr (fr_fX5_put _ _ _ _ _) (Fr.rf _)))))))
              ·
                have E : fX1_fetch σ = (sg (sg (fX2_performA (sg (sg (fX5_put σ 0 (σ.1 18) 1 0) 11 (((fX5_put σ 0 (σ.1 18) 1 0).1 11) + 1)) 18 (fX3_behind (sg (fX5_put σ 0 (σ.1 18) 1 0) 11 (((fX5_put σ 0 (σ.1 18) 1 0).1 11) + 1)) (σ.1 18))) (σ.1 18)).2 19 0) 20 0) := j_ip c0 (j_ip c1 (j_ip c2 (j_ip c3 (j_ip c4 (j_ig c5 (j_ig c6 rfl))))))
                rw [E]
                exact (Fr.tr (Fr.sg (by decide)) (Fr.tr (Fr.sg (by decide)) (Fr.tr (fr_fX2_performA _ _) (Fr.tr (Fr.sg (by decide)) (Fr.tr (Fr.sg (by decide)) (Fr.tr (fr_fX5_put _ _ _ _ _) (Fr.rf _)))))))
          ·
            by_cases c5 : (fX3_kindOf (fX2_performA (sg (sg (fX5_put σ 0 (σ.1 18) 1 1) 11 (((fX5_put σ 0 (σ.1 18) 1 1).1 11) + 1)) 18 (fX3_behind (sg (fX5_put σ 0 (σ.1 18) 1 1) 11 (((fX5_put σ 0 (σ.1 18) 1 1).1 11) + 1)) (σ.1 18))) (σ.1 18)).2 (σ.1 18)) = 6
            ·
              have E : fX1_fetch σ = (sg (sg (fX2_performA (sg (sg (fX5_put σ 0 (σ.1 18) 1 1) 11 (((fX5_put σ 0 (σ.1 18) 1 1).1 11) + 1)) 18 (fX3_behind (sg (fX5_put σ 0 (σ.1 18) 1 1) 11 (((fX5_put σ 0 (σ.1 18) 1 1).1 11) + 1)) (σ.1 18))) (σ.1 18)).2 19 1) 20 1) := j_ip c0 (j_ip c1 (j_ip c2 (j_ip c3 (j_ig c4 (j_ip c5 rfl)))))
              rw [E]
              exact (Fr.tr (Fr.sg (by decide)) (Fr.tr (Fr.sg (by decide)) (Fr.tr (fr_fX2_performA _ _) (Fr.tr (Fr.sg (by decide)) (Fr.tr (Fr.sg (by decide)) (Fr.tr (fr_fX5_put _ _ _ _ _) (Fr.rf _)))))))
            ·
              have E : fX1_fetch σ = (sg (sg (fX2_performA (sg (sg (fX5_put σ 0 (σ.1 18) 1 1) 11 (((fX5_put σ 0 (σ.1 18) 1 1).1 11) + 1)) 18 (fX3_behind (sg (fX5_put σ 0 (σ.1 18) 1 1) 11 (((fX5_put σ 0 (σ.1 18) 1 1).1 11) + 1)) (σ.1 18))) (σ.1 18)).2 19 1) 20 0) := j_ip c0 (j_ip c1 (j_ip c2 (j_ip c3 (j_ig c4 (j_ig c5 rfl)))))
              rw [E]
              exact (Fr.tr (Fr.sg (by decide)) (Fr.tr (Fr.sg (by decide)) (Fr.tr (fr_fX2_performA _ _) (Fr.tr (Fr.sg (by decide)) (Fr.tr (Fr.sg (by decide)) (Fr.tr (fr_fX5_put _ _ _ _ _) (Fr.rf _)))))))
        ·
          have E : fX1_fetch σ = (sg (sg (fX5_put σ 0 (σ.1 18) 0 0) 11 (((fX5_put σ 0 (σ.1 18) 0 0).1 11) + 1)) 18 (fX3_behind (sg (fX5_put σ 0 (σ.1 18) 0 0) 11 (((fX5_put σ 0 (σ.1 18) 0 0).1 11) + 1)) (σ.1 18))) := j_ip c0 (j_ip c1 (j_ip c2 (j_ig c3 rfl)))
          rw [E]
          exact (Fr.tr (Fr.sg (by decide)) (Fr.tr (Fr.sg (by decide)) (Fr.tr (fr_fX5_put _ _ _ _ _) (Fr.rf _))))
      ·
        have E : fX1_fetch σ = σ := j_ip c0 (j_ip c1 (j_ig c2 rfl))
        rw [E]
        exact (Fr.rf _)
    ·
      have E : fX1_fetch σ = σ := j_ip c0 (j_ig c1 rfl)
      rw [E]
      exact (Fr.rf _)
  ·
    have E : fX1_fetch σ = σ := j_ig c0 rfl
    rw [E]
    exact (Fr.rf _)
def fX1_doCycle (σ : St) : St := (let q1 := (fX1_leave (sg (sg σ 9 ((σ.1 9) + 1)) 21 0)); (if (q1.2.1 15) = 0 then (let q4 := (fX1_goOn q1.2); (if q1.1 = 4 then (let q8 := (fX1_fetch q4.2); (let q9 := (fX6_addCause q8 q4.1); q9)) else (let q6 := (fX1_fetch q4.2); (let q7 := (fX6_addCause q6 q1.1); q7)))) else (let q3 := (fX6_addCause q1.2 q1.1); q3)))
def rmX1_doCycle : Room := { frames := 5, cells := 0, slots := 0, locals := 115 }
set_option maxRecDepth 100000 in
set_option maxHeartbeats 4000000 in
theorem kX1_doCycle (l : Launch) (D : va_G) (a : Nat → Nat) (cI cZ : ClassId) (σ : St) (hs : shp σ) : Cv l yX1_doCycle cX1_doCycle 3 none TB rmX1_doCycle D vwCl [(cI, .int), (cZ, .boolean)] [.ref (a 8)] (fx a cI cZ σ) (fun _ => (fx a cI cZ (fX1_doCycle σ))) 0 0 := by
  refine Cv_of (cc := cX1_doCycle) (maxL := 3) (ret := none) (by decide +kernel) TBg (Nat.le_of_ble_eq_true rfl) ?_
  intro p e s m args below meth c A h hr hname
  refine j_aload_n h 0 dX1_doCycle_0 rfl rfl ?_
  refine j_get h iX1 8 rfl rfl 4 (by decide) tb1_208 rfl (v := .ref (a 17)) rfl dX1_doCycle_1 ?_
  refine j_dup h dX1_doCycle_4 rfl ?_
  refine j_get h iX6 17 rfl rfl 1 (by decide) tb1_150 rfl (v := .int (σ.1 9)) rfl dX1_doCycle_5 ?_
  refine j_iconst h (v := 1) dX1_doCycle_8 (by decide) ?_
  refine j_iadd h dX1_doCycle_9 ?_
  refine j_put h iX6 tyX6 tyX6_ok nmX6 17 rfl rfl 1 (by decide) tb1_150 rfl rfl rfl rfl (Nat.le_of_ble_eq_true rfl) (w' := (fx a cI cZ (sg σ 9 ((σ.1 9) + 1)))) rfl dX1_doCycle_10 ?_
  refine j_aload_n h 0 dX1_doCycle_13 rfl rfl ?_
  refine j_iconst h (v := 0) dX1_doCycle_14 (by decide) ?_
  refine j_put h iX1 tyX1 tyX1_ok nmX1 8 rfl rfl 12 (by decide) tb1_220 rfl rfl rfl rfl (Nat.le_of_ble_eq_true rfl) (w' := (fx a cI cZ (sg (sg σ 9 ((σ.1 9) + 1)) 21 0))) rfl dX1_doCycle_15 ?_
  refine j_aload_n h 0 dX1_doCycle_18 rfl rfl ?_
  refine j_callVi h (kX1_leave l D a cI cZ (sg (sg σ 9 ((σ.1 9) + 1)) 21 0)) tb2_219 tb2_221 tp_1 tb1_5 tb2_222 ⟨rfl, rfl⟩ (n := 0) (by decide +kernel) ⟨Nat.le_of_ble_eq_true rfl, Nat.le_of_ble_eq_true rfl⟩ (As := []) rfl (ci := 1) (q0 := 8) rfl rfl (st := []) rfl (Nat.le_of_ble_eq_true rfl) dX1_doCycle_19 ⟨Nat.zero_le _, Nat.zero_le _⟩ ?_
  generalize hq1 : (fX1_leave (sg (sg σ 9 ((σ.1 9) + 1)) 21 0)) = q1
  refine j_istore_n h (lv' := [(1, .int q1.1), (0, .ref (a 8))]) dX1_doCycle_22 rfl (by decide) rfl ?_
  refine j_aload_n h 1 dX1_doCycle_23 rfl rfl ?_
  refine j_get h iX1 8 rfl rfl 4 (by decide) tb1_208 rfl (v := .ref (a 17)) rfl dX1_doCycle_24 ?_
  refine j_get h iX6 17 rfl rfl 7 (by decide) tb1_167 rfl (v := .int (q1.2.1 15)) rfl dX1_doCycle_27 ?_
  refine j_if_ne h dX1_doCycle_30 (tgt := 53) (by decide) (fun c2 => ?_) (fun c2 => ?_)
  ·
    refine j_aload_n h 1 dX1_doCycle_53 rfl rfl ?_
    refine j_get h iX1 8 rfl rfl 4 (by decide) tb1_208 rfl (v := .ref (a 17)) rfl dX1_doCycle_54 ?_
    refine j_iload_n h 0 dX1_doCycle_57 rfl rfl ?_
    refine j_callVv h (kX6_addCause l D a cI cZ q1.2 q1.1) tb3_116 tb3_117 tb3_118 tb1_9 tb3_119 ⟨rfl, rfl⟩ (n := 1) (by decide +kernel) ⟨Nat.le_of_ble_eq_true rfl, Nat.le_of_ble_eq_true rfl⟩ (As := [.int q1.1]) rfl (ci := 6) (q0 := 17) rfl rfl (st := []) rfl (Nat.le_of_ble_eq_true rfl) dX1_doCycle_58 ⟨Nat.zero_le _, Nat.zero_le _⟩ ?_
    generalize hq3 : (fX6_addCause q1.2 q1.1) = q3
    subst hq1 hq3
    have E : fX1_doCycle σ = (fX6_addCause (fX1_leave (sg (sg σ 9 ((σ.1 9) + 1)) 21 0)).2 (fX1_leave (sg (sg σ 9 ((σ.1 9) + 1)) 21 0)).1) := j_ig c2 rfl
    exact j_vreturn h hr (fun _ => 0) (congrArg (fx a cI cZ) E).symm dX1_doCycle_61
  ·
    refine j_aload_n h 1 dX1_doCycle_33 rfl rfl ?_
    refine j_callVi h (kX1_goOn l D a cI cZ q1.2 (by rw [← hq1]; exact (shp.fr (shp.fr (shp.fr hs (Fr.sg (by decide))) (Fr.sg (by decide))) (fr_fX1_leave _)))) tb3_65 tb3_67 tp_7 tb1_5 tb3_68 ⟨rfl, rfl⟩ (n := 0) (by decide +kernel) ⟨Nat.le_of_ble_eq_true rfl, Nat.le_of_ble_eq_true rfl⟩ (As := []) rfl (ci := 1) (q0 := 8) rfl rfl (st := []) rfl (Nat.le_of_ble_eq_true rfl) dX1_doCycle_34 ⟨Nat.zero_le _, Nat.zero_le _⟩ ?_
    generalize hq4 : (fX1_goOn q1.2) = q4
    refine j_istore_n h (lv' := [(2, .int q4.1), (1, .int q1.1), (0, .ref (a 8))]) dX1_doCycle_37 rfl (by decide) rfl ?_
    refine j_iload_n h 1 dX1_doCycle_38 rfl rfl ?_
    refine j_iconst h (v := 4) dX1_doCycle_39 (by decide) ?_
    refine j_icmp_ne h dX1_doCycle_40 (tgt := 47) (by decide) (fun c5 => ?_) (fun c5 => ?_)
    ·
      refine j_iload_n h 1 dX1_doCycle_47 rfl rfl ?_
      refine j_istore_n h (lv' := [(1, .int q1.1), (2, .int q4.1), (0, .ref (a 8))]) dX1_doCycle_48 rfl (by decide) rfl ?_
      refine j_aload_n h 2 dX1_doCycle_49 rfl rfl ?_
      refine j_callVv h (kX1_fetch l D a cI cZ q4.2) tb3_103 tb3_105 tp_11 tb1_5 tb3_106 ⟨rfl, rfl⟩ (n := 0) (by decide +kernel) ⟨Nat.le_of_ble_eq_true rfl, Nat.le_of_ble_eq_true rfl⟩ (As := []) rfl (ci := 1) (q0 := 8) rfl rfl (st := []) rfl (Nat.le_of_ble_eq_true rfl) dX1_doCycle_50 ⟨Nat.zero_le _, Nat.zero_le _⟩ ?_
      generalize hq6 : (fX1_fetch q4.2) = q6
      refine j_aload_n h 2 dX1_doCycle_53 rfl rfl ?_
      refine j_get h iX1 8 rfl rfl 4 (by decide) tb1_208 rfl (v := .ref (a 17)) rfl dX1_doCycle_54 ?_
      refine j_iload_n h 0 dX1_doCycle_57 rfl rfl ?_
      refine j_callVv h (kX6_addCause l D a cI cZ q6 q1.1) tb3_116 tb3_117 tb3_118 tb1_9 tb3_119 ⟨rfl, rfl⟩ (n := 1) (by decide +kernel) ⟨Nat.le_of_ble_eq_true rfl, Nat.le_of_ble_eq_true rfl⟩ (As := [.int q1.1]) rfl (ci := 6) (q0 := 17) rfl rfl (st := []) rfl (Nat.le_of_ble_eq_true rfl) dX1_doCycle_58 ⟨Nat.zero_le _, Nat.zero_le _⟩ ?_
      generalize hq7 : (fX6_addCause q6 q1.1) = q7
      subst hq1 hq4 hq6 hq7
      have E : fX1_doCycle σ = (fX6_addCause (fX1_fetch (fX1_goOn (fX1_leave (sg (sg σ 9 ((σ.1 9) + 1)) 21 0)).2).2) (fX1_leave (sg (sg σ 9 ((σ.1 9) + 1)) 21 0)).1) := j_ip c2 (j_ig c5 rfl)
      exact j_vreturn h hr (fun _ => 0) (congrArg (fx a cI cZ) E).symm dX1_doCycle_61
    ·
      refine j_iload_n h 0 dX1_doCycle_43 rfl rfl ?_
      refine j_goto h dX1_doCycle_44 (tgt := 48) (by decide) ?_
      refine j_istore_n h (lv' := [(1, .int q4.1), (2, .int q4.1), (0, .ref (a 8))]) dX1_doCycle_48 rfl (by decide) rfl ?_
      refine j_aload_n h 2 dX1_doCycle_49 rfl rfl ?_
      refine j_callVv h (kX1_fetch l D a cI cZ q4.2) tb3_103 tb3_105 tp_11 tb1_5 tb3_106 ⟨rfl, rfl⟩ (n := 0) (by decide +kernel) ⟨Nat.le_of_ble_eq_true rfl, Nat.le_of_ble_eq_true rfl⟩ (As := []) rfl (ci := 1) (q0 := 8) rfl rfl (st := []) rfl (Nat.le_of_ble_eq_true rfl) dX1_doCycle_50 ⟨Nat.zero_le _, Nat.zero_le _⟩ ?_
      generalize hq8 : (fX1_fetch q4.2) = q8
      refine j_aload_n h 2 dX1_doCycle_53 rfl rfl ?_
      refine j_get h iX1 8 rfl rfl 4 (by decide) tb1_208 rfl (v := .ref (a 17)) rfl dX1_doCycle_54 ?_
      refine j_iload_n h 0 dX1_doCycle_57 rfl rfl ?_
      refine j_callVv h (kX6_addCause l D a cI cZ q8 q4.1) tb3_116 tb3_117 tb3_118 tb1_9 tb3_119 ⟨rfl, rfl⟩ (n := 1) (by decide +kernel) ⟨Nat.le_of_ble_eq_true rfl, Nat.le_of_ble_eq_true rfl⟩ (As := [.int q4.1]) rfl (ci := 6) (q0 := 17) rfl rfl (st := []) rfl (Nat.le_of_ble_eq_true rfl) dX1_doCycle_58 ⟨Nat.zero_le _, Nat.zero_le _⟩ ?_
      generalize hq9 : (fX6_addCause q8 q4.1) = q9
      subst hq1 hq4 hq8 hq9
      have E : fX1_doCycle σ = (fX6_addCause (fX1_fetch (fX1_goOn (fX1_leave (sg (sg σ 9 ((σ.1 9) + 1)) 21 0)).2).2) (fX1_goOn (fX1_leave (sg (sg σ 9 ((σ.1 9) + 1)) 21 0)).2).1) := j_ip c2 (j_ip c5 rfl)
      exact j_vreturn h hr (fun _ => 0) (congrArg (fx a cI cZ) E).symm dX1_doCycle_61
theorem fr_fX1_doCycle (σ : St) : Fr (fX1_doCycle σ) σ := by
  by_cases c0 : ((fX1_leave (sg (sg σ 9 ((σ.1 9) + 1)) 21 0)).2.1 15) = 0
  ·
    by_cases c1 : (fX1_leave (sg (sg σ 9 ((σ.1 9) + 1)) 21 0)).1 = 4
    ·
      have E : fX1_doCycle σ = (fX6_addCause (fX1_fetch (fX1_goOn (fX1_leave (sg (sg σ 9 ((σ.1 9) + 1)) 21 0)).2).2) (fX1_goOn (fX1_leave (sg (sg σ 9 ((σ.1 9) + 1)) 21 0)).2).1) := j_ip c0 (j_ip c1 rfl)
      rw [E]
      exact (Fr.tr (fr_fX6_addCause _ _) (Fr.tr (fr_fX1_fetch _) (Fr.tr (fr_fX1_goOn _) (Fr.tr (fr_fX1_leave _) (Fr.tr (Fr.sg (by decide)) (Fr.tr (Fr.sg (by decide)) (Fr.rf _)))))))
    ·
      have E : fX1_doCycle σ = (fX6_addCause (fX1_fetch (fX1_goOn (fX1_leave (sg (sg σ 9 ((σ.1 9) + 1)) 21 0)).2).2) (fX1_leave (sg (sg σ 9 ((σ.1 9) + 1)) 21 0)).1) := j_ip c0 (j_ig c1 rfl)
      rw [E]
      exact (Fr.tr (fr_fX6_addCause _ _) (Fr.tr (fr_fX1_fetch _) (Fr.tr (fr_fX1_goOn _) (Fr.tr (fr_fX1_leave _) (Fr.tr (Fr.sg (by decide)) (Fr.tr (Fr.sg (by decide)) (Fr.rf _)))))))
  ·
    have E : fX1_doCycle σ = (fX6_addCause (fX1_leave (sg (sg σ 9 ((σ.1 9) + 1)) 21 0)).2 (fX1_leave (sg (sg σ 9 ((σ.1 9) + 1)) 21 0)).1) := j_ig c0 rfl
    rw [E]
    exact (Fr.tr (fr_fX6_addCause _ _) (Fr.tr (fr_fX1_leave _) (Fr.tr (Fr.sg (by decide)) (Fr.tr (Fr.sg (by decide)) (Fr.rf _)))))
end
