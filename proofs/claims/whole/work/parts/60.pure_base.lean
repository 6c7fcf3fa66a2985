/-! the pure side: what the two functions do to numbers and arrays, a place at a time -/
theorem q1 (σ : St) (k : Nat) (x : Int32) (j : Nat) : (sg σ k x).1 j = if j = k then x else σ.1 j := rfl
theorem q2 (σ : St) (k : Nat) (x : Int32) : (sg σ k x).2 = σ.2 := rfl
theorem q3 (σ : St) (k : Nat) (f : Nat → Int32) : (ar σ k f).1 = σ.1 := rfl
theorem q4 (σ : St) (k : Nat) (f : Nat → Int32) (j : Nat) : (ar σ k f).2 j = if j = k then f else σ.2 j := rfl
theorem q5 (f : Nat → Int32) (k : Nat) (x : Int32) (j : Nat) : upd f k x j = if j = k then x else f j := rfl
theorem nar0 : vp_nar .boolean 0 = 0 := by decide
theorem nar1 : vp_nar .boolean 1 = 1 := by decide
theorem n_m1 {s : Nat} : nI (s + 1) + (-1) = nI s := by
  rw [← Int32.sub_eq_add_neg]; exact nI_pred s
theorem n_z1 : nI 0 + (-1) = -1 := by decide
theorem n_lt0 {s : Nat} (h : s < 2 ^ 31) : ¬ nI s < 0 := nI_pos h
theorem n_ge8 {s : Nat} (h : s < 8) : ¬ (8 : Int32) ≤ nI s := nI_ge (b := 8) h (by decide)
theorem n_ge64 {s : Nat} (h : s < 64) : ¬ (64 : Int32) ≤ nI s := nI_ge (b := 64) h (by decide)
theorem n_cl {s : Nat} (h : s < 2 ^ 31) : (nI s).toNatClampNeg = s := nI_clamp h
theorem n_cl0 : (0 : Int32).toNatClampNeg = 0 := by decide
theorem n_inj {a b : Nat} (ha : a < 2 ^ 31) (hb : b < 2 ^ 31) (h : nI a = nI b) : a = b := (nI_eq ha hb).mp h
theorem n_nm1 {s : Nat} (h : s < 2 ^ 31) : ¬ nI s = -1 := fun z => by
  have h1 := congrArg Int32.toInt z
  rw [nI_toInt h] at h1
  have h2 : (-1 : Int32).toInt = -1 := by decide
  omega
theorem n_le0 {s : Nat} (h : s < 2 ^ 31) : (0 : Int32) ≤ nI s := nI_pos' h
/-- a slot's word: none, or a number below 64 -/
def wok (x : Int32) : Prop := x = -1 ∨ ∃ i : Nat, i < 64 ∧ x = nI i
theorem wok.lt {x : Int32} (h : wok x) : x < 0 ↔ x = -1 := by
  rcases h with h | ⟨i, hi, h⟩
  · subst h; decide
  · subst h
    exact ⟨fun z => absurd z (n_lt0 (by omega)), fun z => absurd z (n_nm1 (by omega))⟩
theorem wok.ge {x : Int32} (h : wok x) : 0 ≤ x ↔ ¬ x = -1 := by
  rcases h with h | ⟨i, hi, h⟩
  · subst h; decide
  · subst h
    exact ⟨fun _ => n_nm1 (by omega), fun _ => n_le0 (by omega)⟩
theorem wok.idx {x : Int32} (h : wok x) (hn : ¬ x = -1) : x = nI x.toNatClampNeg ∧ x.toNatClampNeg < 64 := by
  rcases h with h | ⟨i, hi, h⟩
  · exact absurd h hn
  · subst h
    rw [n_cl (by omega)]
    exact ⟨rfl, hi⟩
theorem wok_m1 : wok (-1) := Or.inl rfl
/-- how many of the n slots from i on are taken -/
def cn (f : Nat → Int32) : Nat → Nat → Int32
  | _, 0 => 0
  | i, n + 1 => (if f i = -1 then 0 else 1) + cn f (i + 1) n
theorem cn_cg {f g : Nat → Int32} : ∀ (n i : Nat), (∀ j, i ≤ j → j < i + n → f j = g j) → cn f i n = cn g i n
  | 0, _, _ => rfl
  | n + 1, i, h => by
    show (if f i = -1 then 0 else 1) + cn f (i + 1) n = (if g i = -1 then 0 else 1) + cn g (i + 1) n
    rw [h i (Nat.le_refl _) (by omega), cn_cg n (i + 1) (fun j h1 h2 => h j (by omega) (by omega))]
/-! the class's slots -/
theorem c_word {σ : St} {s : Nat} (h : s < 8) : fX5_wordIn σ (nI s) = σ.2 5 s := by
  unfold fX5_wordIn
  rw [if_neg (n_lt0 (by omega)), if_neg (n_ge8 h), n_cl (by omega)]
theorem c_word8 {σ : St} : fX5_wordIn σ (nI 8) = -1 := by
  unfold fX5_wordIn
  rw [if_neg (n_lt0 (by decide)), if_pos (by decide)]
theorem c_on {σ : St} {s : Nat} (h : s < 8) : fX5_isOnTheWay σ (nI s) = if σ.2 6 s = 0 then 0 else 1 := by
  unfold fX5_isOnTheWay
  rw [if_neg (n_lt0 (by omega)), if_neg (n_ge8 h), n_cl (by omega)]
theorem c_go {σ : St} {s : Nat} (h : s < 8) : fX5_isGoing σ (nI s) = if σ.2 7 s = 0 then 0 else 1 := by
  unfold fX5_isGoing
  rw [if_neg (n_lt0 (by omega)), if_neg (n_ge8 h), n_cl (by omega)]
theorem c_put {σ : St} {s : Nat} (h : s < 8) (a b c : Int32) : fX5_put σ (nI s) a b c = ar (ar (ar σ 5 (upd (σ.2 5) s a)) 6 (upd (σ.2 6) s (vp_nar .boolean b))) 7 (upd (σ.2 7) s (vp_nar .boolean c)) := by
  unfold fX5_put
  rw [if_neg (n_lt0 (by omega)), if_neg (n_ge8 h), n_cl (by omega)]
theorem c_kind {σ : St} {i : Nat} (h : i < 64) : fX3_kindOf σ (nI i) = σ.2 0 i := by
  unfold fX3_kindOf
  rw [if_neg (n_lt0 (by omega)), if_neg (n_ge64 h), n_cl (by omega)]
theorem c_writ {σ : St} {i : Nat} (h : i < 64) : fX3_written σ (nI i) = σ.2 1 i := by
  unfold fX3_written
  rw [if_neg (n_lt0 (by omega)), if_neg (n_ge64 h), n_cl (by omega)]
theorem c_fst {σ : St} {i : Nat} (h : i < 64) : fX3_firstRead σ (nI i) = σ.2 2 i := by
  unfold fX3_firstRead
  rw [if_neg (n_lt0 (by omega)), if_neg (n_ge64 h), n_cl (by omega)]
theorem c_snd {σ : St} {i : Nat} (h : i < 64) : fX3_secondRead σ (nI i) = σ.2 3 i := by
  unfold fX3_secondRead
  rw [if_neg (n_lt0 (by omega)), if_neg (n_ge64 h), n_cl (by omega)]
theorem c_num {σ : St} {i : Nat} (h : i < 64) : fX3_number σ (nI i) = σ.2 4 i := by
  unfold fX3_number
  rw [if_neg (n_lt0 (by omega)), if_neg (n_ge64 h), n_cl (by omega)]
theorem c_writN {σ : St} : fX3_written σ (-1) = -1 := by
  unfold fX3_written
  rw [if_pos (by decide)]
/-! squash: the class -/
theorem c_sq : ∀ (n i : Nat) (σ : St) (s : Nat) (c : Int32), i ≤ s → s ≤ 8 → s < i + n →
    (gfX5_squashBelow n σ (nI s) c (nI i)).1 = c + cn (σ.2 5) i (s - i) ∧ (gfX5_squashBelow n σ (nI s) c (nI i)).2.1 = σ.1 ∧ (∀ k, k ≠ 5 → k ≠ 6 → k ≠ 7 → (gfX5_squashBelow n σ (nI s) c (nI i)).2.2 k = σ.2 k) ∧
    (∀ j, (gfX5_squashBelow n σ (nI s) c (nI i)).2.2 5 j = if i ≤ j ∧ j < s then -1 else σ.2 5 j) ∧ (∀ j, (gfX5_squashBelow n σ (nI s) c (nI i)).2.2 6 j = if i ≤ j ∧ j < s then 0 else σ.2 6 j) ∧ (∀ j, (gfX5_squashBelow n σ (nI s) c (nI i)).2.2 7 j = if i ≤ j ∧ j < s then 0 else σ.2 7 j) := by
  intro n
  induction n with
  | zero => intro i σ s c h1 h2 h3; omega
  | succ n ih =>
    intro i σ s c h1 h2 h3
    by_cases he : i = s
    · subst he
      have e : gfX5_squashBelow (n + 1) σ (nI i) c (nI i) = (c, σ) := by
        simp only [gfX5_squashBelow]
        by_cases h8 : (8 : Int32) ≤ nI i
        · rw [if_pos h8]
        · rw [if_neg h8, if_pos (nI_le (Nat.le_refl _) (by omega))]
      rw [e, Nat.sub_self]
      refine ⟨by show c = c + 0; rw [Int32.add_zero], rfl, fun _ _ _ _ => rfl, fun j => ?_, fun j => ?_, fun j => ?_⟩ <;> rw [if_neg (by omega)]
    · have hlt : i < s := by omega
      have e : gfX5_squashBelow (n + 1) σ (nI s) c (nI i) = gfX5_squashBelow n (fX5_put σ (nI i) (-1) 0 0) (nI s) (c + (if σ.2 5 i = -1 then 0 else 1)) (nI (i + 1)) := by
        simp only [gfX5_squashBelow]
        rw [if_neg (n_ge8 (by omega)), if_neg (nI_ge hlt (by omega)), n_cl (by omega), nI_1]
        by_cases h5 : σ.2 5 i = -1
        · rw [if_pos h5, if_pos h5, Int32.add_zero]
        · rw [if_neg h5, if_neg h5]
      rw [e]
      obtain ⟨a1, a2, a3, a4, a5, a6⟩ := ih (i + 1) (fX5_put σ (nI i) (-1) 0 0) s (c + (if σ.2 5 i = -1 then 0 else 1)) (by omega) h2 (by omega)
      rw [c_put (by omega)] at a1 a2 a3 a4 a5 a6 ⊢
      refine ⟨?_, ?_, fun k h5 h6 h7 => ?_, fun j => ?_, fun j => ?_, fun j => ?_⟩
      · rw [a1, show s - i = (s - (i + 1)) + 1 by omega]
        show _ = c + ((if σ.2 5 i = -1 then 0 else 1) + cn (σ.2 5) (i + 1) (s - (i + 1)))
        rw [← Int32.add_assoc]
        congr 1
        refine cn_cg _ _ (fun j hj1 hj2 => ?_)
        simp [q4, q5]
        omega
      · rw [a2]; rfl
      · rw [a3 k h5 h6 h7]
        simp only [q4]
        rw [if_neg h7, if_neg h6, if_neg h5]
      · rw [a4 j]
        simp [q4, q5, nar0]
        grind
      · rw [a5 j]
        simp [q4, q5, nar0]
        grind
      · rw [a6 j]
        simp [q4, q5, nar0]
        grind
/-! squash: the reference -/
theorem m_sq : ∀ (n i : Nat) (τ : St) (s : Nat) (x : Int32), (∀ j, j < 8 → wok (τ.2 5 j)) → i ≤ s → s ≤ 8 → s < i + n →
    (∀ k, k ≠ 12 → k ≠ 18 → k ≠ 19 → k ≠ 21 → (gfX8_squash n τ (nI s) x (nI i)).1 k = τ.1 k) ∧ (gfX8_squash n τ (nI s) x (nI i)).1 12 = τ.1 12 + cn (τ.2 5) i (s - i) ∧ (gfX8_squash n τ (nI s) x (nI i)).1 18 = x - x / τ.1 6 * τ.1 6 ∧ (gfX8_squash n τ (nI s) x (nI i)).1 19 = 0 ∧ (gfX8_squash n τ (nI s) x (nI i)).1 21 = 0 ∧
    (∀ k, k ≠ 5 → (gfX8_squash n τ (nI s) x (nI i)).2 k = τ.2 k) ∧ (∀ j, (gfX8_squash n τ (nI s) x (nI i)).2 5 j = if i ≤ j ∧ j < s then -1 else τ.2 5 j) := by
  intro n
  induction n with
  | zero => intro i τ s x hw h1 h2 h3; omega
  | succ n ih =>
    intro i τ s x hw h1 h2 h3
    by_cases he : i = s
    · subst he
      have e : gfX8_squash (n + 1) τ (nI i) x (nI i) = sg (sg (sg τ 18 (x - x / τ.1 6 * τ.1 6)) 19 0) 21 0 := by
        simp only [gfX8_squash]
        rw [if_pos (nI_le (Nat.le_refl _) (by omega))]
      rw [e, Nat.sub_self]
      refine ⟨fun k a b c d => ?_, ?_, ?_, ?_, ?_, fun _ _ => rfl, fun j => ?_⟩
      · simp only [q1]; rw [if_neg d, if_neg c, if_neg b]
      · show _ = τ.1 12 + 0; rw [Int32.add_zero]; rfl
      · rfl
      · rfl
      · rfl
      · rw [if_neg (by omega)]; rfl
    · have hlt : i < s := by omega
      have e : gfX8_squash (n + 1) τ (nI s) x (nI i) = gfX8_squash n (ar (sg τ 12 (τ.1 12 + (if τ.2 5 i = -1 then 0 else 1))) 5 (upd (τ.2 5) i (-1))) (nI s) x (nI (i + 1)) := by
        simp only [gfX8_squash]
        rw [if_neg (nI_ge hlt (by omega)), n_cl (by omega), nI_1]
        by_cases h5 : τ.2 5 i = -1
        · rw [if_pos ((hw i (by omega)).lt.mpr h5), if_pos h5]
        · rw [if_neg (fun z => h5 ((hw i (by omega)).lt.mp z)), if_neg h5]
      rw [e]
      obtain ⟨a1, a2, a3, a4, a5, a6, a7⟩ := ih (i + 1) (ar (sg τ 12 (τ.1 12 + (if τ.2 5 i = -1 then 0 else 1))) 5 (upd (τ.2 5) i (-1))) s x (fun j hj => by
        by_cases hji : j = i
        · simp [q4, q5, hji]; exact wok_m1
        · simp [q4, q5, hji]; exact hw j hj) (by omega) h2 (by omega)
      refine ⟨fun k b1 b2 b3 b4 => ?_, ?_, ?_, a4, a5, fun k hk => ?_, fun j => ?_⟩
      · rw [a1 k b1 b2 b3 b4]; simp only [q3, q1]; rw [if_neg b1]
      · rw [a2, show s - i = (s - (i + 1)) + 1 by omega]
        show _ = τ.1 12 + ((if τ.2 5 i = -1 then 0 else 1) + cn (τ.2 5) (i + 1) (s - (i + 1)))
        rw [← Int32.add_assoc]
        congr 1
        refine cn_cg _ _ (fun j hj1 hj2 => ?_)
        simp [q4, q5]
        omega
      · rw [a3]; rfl
      · rw [a6 k hk]; simp only [q4]; rw [if_neg hk]; rfl
      · rw [a7 j]
        simp [q4, q5, nar0]
        grind
