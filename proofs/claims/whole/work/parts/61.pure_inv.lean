/-! what holds between the stages: predicates over the slots' arrays; how each move keeps them -/
abbrev RM : Type := (Nat → Int32) × (Nat → Int32)
def pX (π : St) (g : RM) (i : Nat) : Int32 := g.1 (π.2 2 i).toNatClampNeg
def pY (π : St) (g : RM) (i : Nat) : Int32 := g.1 (π.2 3 i).toNatClampNeg
def pP (π : St) (g : RM) (i : Nat) : Int32 := fX8_modulo (pX π g i) 64
def pV (π : St) (g : RM) (i : Nat) : Int32 := if π.2 0 i = 0 then pX π g i + pY π g i + π.2 4 i else if π.2 0 i = 1 then g.2 (pP π g i).toNatClampNeg else if π.2 0 i = 2 then pY π g i else if π.2 0 i = 3 then pX π g i * pY π g i else if π.2 0 i = 7 then π.2 4 i else 0
def pE (π : St) (g : RM) (i : Nat) : Int32 := if π.2 0 i = 4 ∧ ¬ pX π g i = 0 then fX8_modulo (π.2 4 i) (π.1 6) else -1
def pS (π : St) (g : RM) (i : Nat) : RM := (if fX3_hasTarget (π.2 0 i) = 0 then g.1 else upd g.1 (π.2 1 i).toNatClampNeg (pV π g i), if π.2 0 i = 2 then upd g.2 (pP π g i).toNatClampNeg (pV π g i) else g.2)
def due (M : Nat) (k : Int32) : Nat := if k = 3 then M else 1
def SlM (N R M : Nat) (π : St) (cyc : Nat) (w o b v : Nat → Int32) (wk : Int32) : Prop :=
  (∀ s, s < 8 → wok (w s)) ∧ (∀ s, N ≤ s → s < 8 → w s = -1) ∧ (∀ s, s < 8 → ¬ w s = -1 → o s = 0 ∨ o s = 1) ∧ (∀ s, s < R → ¬ w s = -1 → b s = 0 ∧ v s = 0) ∧ (¬ w R = -1 → ∃ z : Nat, z ≤ cyc ∧ v R = nI z ∧ b R = (if z = 0 then 0 else 1) ∧ wk = nI (min z (due M (π.2 0 (w R).toNatClampNeg))))
theorem SlM.move {N R M : Nat} {π : St} {cyc : Nat} {w o b v : Nat → Int32} {wk : Int32} {s : Nat} (h : SlM N R M π cyc w o b v wk) (hs : s + 1 < N) (hN : N ≤ 8) (h1 : ¬ w s = -1) (h2 : w (s + 1) = -1) (hR : R < N) :
    SlM N R M π cyc (upd (upd w (s + 1) (w s)) s (-1)) (upd o (s + 1) (o s)) (upd b (s + 1) (b s)) (upd v (s + 1) (v s)) (if s + 1 = R then 0 else wk) := by
  obtain ⟨a1, a2, a3, a4, a5⟩ := h
  refine ⟨fun j hj => ?_, fun j h3 h4 => ?_, fun j hj => ?_, fun j hj => ?_, ?_⟩
  · by_cases e1 : j = s
    · simp [q5, e1]; exact wok_m1
    · by_cases e2 : j = s + 1
      · subst e2; simp [q5]; exact a1 s (by omega)
      · simp [q5, e1, e2]; exact a1 j hj
  · have := a2 j h3 h4
    grind [q5]
  · have := a3 j hj
    have := a3 s (by omega)
    grind [q5]
  · have := a4 j hj
    have := a4 s
    grind [q5]
  · by_cases e : s + 1 = R
    · subst e
      obtain ⟨b1, b2⟩ := a4 s (by omega) h1
      intro _
      refine ⟨0, Nat.zero_le _, ?_, ?_, ?_⟩
      · simp [q5, b2, nI_0]
      · simp [q5, b1]
      · simp [nI_0]
    · by_cases e2 : s = R
      · subst e2; intro z; exact absurd (by simp [q5]) z
      · intro z
        have e3 : ¬ R = s + 1 := by omega
        have e4 : ¬ R = s := by omega
        simp only [q5, e3, e4, if_false] at z ⊢
        rw [if_neg e]
        exact a5 z
theorem SlM.squash {N R M : Nat} {π : St} {cyc : Nat} {w w' o b v : Nat → Int32} {wk : Int32} {s : Nat} (h : SlM N R M π cyc w o b v wk) (hw : ∀ j, w' j = if j < s then -1 else w j) : SlM N R M π cyc w' o b v wk := by
  obtain ⟨a1, a2, a3, a4, a5⟩ := h
  refine ⟨fun j hj => ?_, fun j h3 h4 => ?_, fun j hj => ?_, fun j hj => ?_, ?_⟩
  · rw [hw j]
    by_cases e : j < s
    · rw [if_pos e]; exact wok_m1
    · rw [if_neg e]; exact a1 j hj
  · have := a2 j h3 h4
    grind
  · have := a3 j hj
    grind
  · have := a4 j hj
    grind
  · rw [hw R]
    by_cases e : R < s
    · rw [if_pos e]; intro z; exact absurd rfl z
    · rw [if_neg e]; exact a5
theorem SlM.gone {N R M : Nat} {π : St} {cyc : Nat} {w o b v : Nat → Int32} {wk : Int32} {s : Nat} (h : SlM N R M π cyc w o b v wk) (hR : R < s) : SlM N R M π cyc (upd w s (-1)) o b v wk := by
  obtain ⟨a1, a2, a3, a4, a5⟩ := h
  refine ⟨fun j hj => ?_, fun j h3 h4 => ?_, fun j hj => ?_, fun j hj => ?_, ?_⟩
  · by_cases e1 : j = s
    · simp [q5, e1]; exact wok_m1
    · simp [q5, e1]; exact a1 j hj
  · have := a2 j h3 h4
    grind [q5]
  · have := a3 j hj
    grind [q5]
  · have := a4 j hj
    grind [q5]
  · have e : ¬ R = s := by omega
    simp only [q5, e, if_false]
    exact a5
theorem SlM.fetch {N R M : Nat} {π : St} {cyc : Nat} {w o b v : Nat → Int32} {wk x : Int32} {i : Nat} (h : SlM N R M π cyc w o b v wk) (hR : 1 ≤ R) (hN : 0 < N) (hi : i < 64) (hx : x = 0 ∨ x = 1) : SlM N R M π cyc (upd w 0 (nI i)) (upd o 0 x) (upd b 0 0) (upd v 0 0) wk := by
  obtain ⟨a1, a2, a3, a4, a5⟩ := h
  refine ⟨fun j hj => ?_, fun j h3 h4 => ?_, fun j hj => ?_, fun j hj => ?_, ?_⟩
  · by_cases e1 : j = 0
    · simp [q5, e1]; exact Or.inr ⟨i, hi, rfl⟩
    · simp [q5, e1]; exact a1 j hj
  · have := a2 j h3 h4
    grind [q5]
  · have := a3 j hj
    grind [q5]
  · have := a4 j hj
    grind [q5]
  · have e : ¬ R = 0 := by omega
    simp only [q5, e, if_false]
    exact a5
theorem SlM.more {N R M : Nat} {π : St} {cyc c2 : Nat} {w o b v : Nat → Int32} {wk : Int32} (h : SlM N R M π cyc w o b v wk) (hc : cyc ≤ c2) : SlM N R M π c2 w o b v wk := by
  obtain ⟨a1, a2, a3, a4, a5⟩ := h
  exact ⟨a1, a2, a3, a4, fun z => by obtain ⟨x, b1, b2⟩ := a5 z; exact ⟨x, by omega, b2⟩⟩
/-- the class's marks beside the reference's -/
def SlC (π : St) (w o el f5 f6 f7 : Nat → Int32) : Prop :=
  f5 = w ∧ (∀ s, s < 8 → f6 s = (if w s = -1 then 0 else o s)) ∧ ∀ s, s < 8 → f7 s = (if ¬ w s = -1 ∧ o s = 1 ∧ π.2 0 (w s).toNatClampNeg = 4 ∧ 0 ≤ el s then 1 else 0)
theorem SlC.move {π : St} {w o el f5 f6 f7 : Nat → Int32} {s : Nat} (h : SlC π w o el f5 f6 f7) (hs : s + 1 < 8) (h1 : ¬ w s = -1) : SlC π (upd (upd w (s + 1) (w s)) s (-1)) (upd o (s + 1) (o s)) (upd el (s + 1) (el s)) (upd (upd f5 (s + 1) (f5 s)) s (-1)) (upd (upd f6 (s + 1) (f6 s)) s 0) (upd (upd f7 (s + 1) (f7 s)) s 0) := by
  obtain ⟨rfl, a2, a3⟩ := h
  refine ⟨rfl, fun j hj => ?_, fun j hj => ?_⟩
  · have b1 := a2 j hj
    have b2 := a2 s (by omega)
    grind [q5]
  · have b1 := a3 j hj
    have b2 := a3 s (by omega)
    by_cases e1 : j = s
    · subst e1; simp [q5]
    · by_cases e2 : j = s + 1
      · subst e2; simp only [q5]; simp [b2]
      · simp only [q5, e1, e2, if_false]; exact b1
theorem SlC.squash {π : St} {w w' o el f5 f6 f7 f5' f6' f7' : Nat → Int32} {s : Nat} (h : SlC π w o el f5 f6 f7) (hw : ∀ j, w' j = if j < s then -1 else w j) (h5 : ∀ j, f5' j = if j < s then -1 else f5 j) (h6 : ∀ j, f6' j = if j < s then 0 else f6 j) (h7 : ∀ j, f7' j = if j < s then 0 else f7 j) : SlC π w' o el f5' f6' f7' := by
  obtain ⟨rfl, a2, a3⟩ := h
  refine ⟨funext fun j => by rw [h5, hw], fun j hj => ?_, fun j hj => ?_⟩
  · have b1 := a2 j hj
    grind
  · rw [h7 j, hw j]
    by_cases e : j < s
    · rw [if_pos e, if_pos e, if_neg (fun z => z.1 rfl)]
    · rw [if_neg e, if_neg e]; exact a3 j hj
theorem SlC.gone {π : St} {w o el f5 f6 f7 : Nat → Int32} {s : Nat} (h : SlC π w o el f5 f6 f7) : SlC π (upd w s (-1)) o el (upd f5 s (-1)) (upd f6 s 0) (upd f7 s 0) := by
  obtain ⟨rfl, a2, a3⟩ := h
  refine ⟨rfl, fun j hj => ?_, fun j hj => ?_⟩
  · have b1 := a2 j hj
    grind [q5]
  · have b1 := a3 j hj
    by_cases e1 : j = s
    · subst e1; simp [q5]
    · simp only [q5, e1, if_false]; exact b1
/-- registers and memory between the stages -/
def Gh (π : St) (w o vl pl el : Nat → Int32) (L A : RM) : Prop :=
  ∃ g : Nat → RM, g 8 = L ∧ g 0 = A ∧ ∀ s, s < 8 → ((¬ w s = -1 ∧ o s = 1) → g s = pS π (g (s + 1)) (w s).toNatClampNeg ∧ vl s = pV π (g (s + 1)) (w s).toNatClampNeg ∧ pl s = pP π (g (s + 1)) (w s).toNatClampNeg ∧ el s = pE π (g (s + 1)) (w s).toNatClampNeg) ∧ (¬ (¬ w s = -1 ∧ o s = 1) → g s = g (s + 1))
theorem Gh.move {π : St} {w o vl pl el : Nat → Int32} {L A : RM} {s : Nat} (h : Gh π w o vl pl el L A) (hs : s + 1 < 8) (h2 : w (s + 1) = -1) : Gh π (upd (upd w (s + 1) (w s)) s (-1)) (upd o (s + 1) (o s)) (upd vl (s + 1) (vl s)) (upd pl (s + 1) (pl s)) (upd el (s + 1) (el s)) L A := by
  obtain ⟨g, g8, g0, hg⟩ := h
  have e1 : g (s + 1) = g (s + 2) := (hg (s + 1) hs).2 (fun z => z.1 h2)
  refine ⟨fun j => if j = s + 1 then g s else g j, ?_, ?_, fun j hj => ?_⟩
  · show (if 8 = s + 1 then g s else g 8) = L; rw [if_neg (by omega)]; exact g8
  · show (if 0 = s + 1 then g s else g 0) = A; rw [if_neg (by omega)]; exact g0
  · by_cases c1 : j = s
    · subst c1
      refine ⟨fun z => absurd (by simp [q5]) z.1, fun _ => ?_⟩
      show (if j = j + 1 then g j else g j) = (if j + 1 = j + 1 then g j else g (j + 1))
      rw [if_neg (by omega), if_pos rfl]
    · by_cases c2 : j = s + 1
      · subst c2
        have q := hg s (by omega)
        have a1 : (if s + 1 = s + 1 then g s else g (s + 1)) = g s := if_pos rfl
        have a2 : (if s + 1 + 1 = s + 1 then g s else g (s + 1 + 1)) = g (s + 2) := if_neg (by omega)
        have b1 : upd (upd w (s + 1) (w s)) s (-1) (s + 1) = w s := by simp [q5]
        have b2 : ∀ f : Nat → Int32, upd f (s + 1) (f s) (s + 1) = f s := fun f => by simp [q5]
        simp only [b1, b2, a1, a2]
        rw [← e1]
        exact q
      · have q := hg j hj
        have a1 : (if j = s + 1 then g s else g j) = g j := if_neg c2
        have a2 : (if j + 1 = s + 1 then g s else g (j + 1)) = g (j + 1) := if_neg (by omega)
        have b1 : upd (upd w (s + 1) (w s)) s (-1) j = w j := by simp [q5, c1, c2]
        have b2 : ∀ f : Nat → Int32, upd f (s + 1) (f s) j = f j := fun f => by simp [q5, c2]
        simp only [b1, b2, a1, a2]
        exact q
theorem Gh.squash {π : St} {w w' o vl pl el : Nat → Int32} {L A : RM} {s : Nat} (h : Gh π w o vl pl el L A) (hw : ∀ j, w' j = if j < s then -1 else w j) (ha : ∀ j, j < s → j < 8 → ¬ w j = -1 → ¬ o j = 1) : Gh π w' o vl pl el L A := by
  obtain ⟨g, g8, g0, hg⟩ := h
  refine ⟨g, g8, g0, fun j hj => ?_⟩
  have q := hg j hj
  by_cases c : j < s
  · rw [hw j, if_pos c]
    exact ⟨fun z => absurd rfl z.1, fun _ => q.2 (fun z => ha j c hj z.1 z.2)⟩
  · rw [hw j, if_neg c]; exact q
/-- the last word leaves: what is behind takes its step -/
theorem Gh.leave {π : St} {w o vl pl el : Nat → Int32} {L A : RM} {s : Nat} (h : Gh π w o vl pl el L A) (hs : s < 8) (hw : ¬ w s = -1) (ho : o s = 1) (hup : ∀ j, s < j → j < 8 → w j = -1) :
    vl s = pV π L (w s).toNatClampNeg ∧ pl s = pP π L (w s).toNatClampNeg ∧ el s = pE π L (w s).toNatClampNeg ∧ Gh π (upd w s (-1)) o vl pl el (pS π L (w s).toNatClampNeg) A := by
  obtain ⟨g, g8, g0, hg⟩ := h
  have up : ∀ d, d ≤ 7 - s → g (8 - d) = L := by
    intro d
    induction d with
    | zero => intro _; exact g8
    | succ d ih =>
      intro hd
      have q := (hg (8 - (d + 1)) (by omega)).2 (fun z => z.1 (hup _ (by omega) (by omega)))
      rw [q, show 8 - (d + 1) + 1 = 8 - d by omega]
      exact ih (by omega)
  have e1 : g (s + 1) = L := by
    have := up (7 - s) (Nat.le_refl _)
    rwa [show 8 - (7 - s) = s + 1 by omega] at this
  obtain ⟨q1', q2', q3', q4'⟩ := (hg s hs).1 ⟨hw, ho⟩
  rw [e1] at q1' q2' q3' q4'
  refine ⟨q2', q3', q4', fun j => if s < j then pS π L (w s).toNatClampNeg else g j, ?_, ?_, fun j hj => ?_⟩
  · show (if s < 8 then _ else _) = _; rw [if_pos hs]
  · show (if s < 0 then _ else g 0) = A; rw [if_neg (by omega)]; exact g0
  · by_cases c1 : j = s
    · subst c1
      refine ⟨fun z => absurd (by simp [q5]) z.1, fun _ => ?_⟩
      show (if j < j then _ else g j) = (if j < j + 1 then _ else _)
      rw [if_neg (by omega), if_pos (by omega)]
      exact q1'
    · by_cases c2 : s < j
      · have b1 : upd w s (-1) j = -1 := by simp [q5, c1]; exact hup j c2 hj
        refine ⟨fun z => absurd b1 z.1, fun _ => ?_⟩
        show (if s < j then _ else g j) = (if s < j + 1 then _ else _)
        rw [if_pos c2, if_pos (by omega)]
      · have q := hg j hj
        have a1 : (if s < j then pS π L (w s).toNatClampNeg else g j) = g j := if_neg c2
        have a2 : (if s < j + 1 then pS π L (w s).toNatClampNeg else g (j + 1)) = g (j + 1) := if_neg (by omega)
        have b1 : upd w s (-1) j = w j := by simp [q5, c1]
        simp only [b1, a1, a2]
        exact q
theorem Gh.gone {π : St} {w o vl pl el : Nat → Int32} {L A : RM} {s : Nat} (h : Gh π w o vl pl el L A) (hs : s < 8) (he : ¬ w s = -1 → o s = 1 → ∀ g : RM, pS π g (w s).toNatClampNeg = g) : Gh π (upd w s (-1)) o vl pl el L A := by
  obtain ⟨g, g8, g0, hg⟩ := h
  refine ⟨g, g8, g0, fun j hj => ?_⟩
  have q := hg j hj
  by_cases c : j = s
  · subst c
    refine ⟨fun z => absurd (by simp [q5]) z.1, fun _ => ?_⟩
    by_cases c2 : ¬ w j = -1 ∧ o j = 1
    · rw [(q.1 c2).1, he c2.1 c2.2]
    · exact q.2 c2
  · have b1 : upd w s (-1) j = w j := by simp [q5, c]
    simp only [b1]
    exact q
theorem Gh.fetch1 {π : St} {w o vl pl el vl' pl' el' : Nat → Int32} {L A : RM} {i : Nat} (h : Gh π w o vl pl el L A) (h0 : w 0 = -1) (hi : i < 64) (hv : ∀ j, vl' j = if j = 0 then pV π A i else vl j) (hp : ∀ j, pl' j = if j = 0 then pP π A i else pl j) (he : ∀ j, el' j = if j = 0 then pE π A i else el j) : Gh π (upd w 0 (nI i)) (upd o 0 1) vl' pl' el' L (pS π A i) := by
  obtain ⟨g, g8, g0, hg⟩ := h
  have e1 : g 1 = A := by rw [← g0]; exact ((hg 0 (by decide)).2 (fun z => z.1 h0)).symm
  refine ⟨fun j => if j = 0 then pS π A i else g j, ?_, ?_, fun j hj => ?_⟩
  · show (if 8 = 0 then _ else g 8) = L; rw [if_neg (by decide)]; exact g8
  · show (if 0 = 0 then _ else _) = _; rw [if_pos rfl]
  · by_cases c : j = 0
    · subst c
      have b1 : (upd w 0 (nI i) 0).toNatClampNeg = i := by simp only [q5, if_pos]; exact n_cl (by omega)
      rw [b1, hv, hp, he]
      have b2 : (if 0 + 1 = 0 then pS π A i else g (0 + 1)) = A := by rw [if_neg (by decide)]; exact e1
      simp only [b2]
      refine ⟨fun _ => ⟨by simp, by simp, by simp, by simp⟩, fun z => absurd ⟨by simp [q5]; exact n_nm1 (by omega), by simp [q5]⟩ z⟩
    · have q := hg j hj
      have a1 : (if j = 0 then pS π A i else g j) = g j := if_neg c
      have a2 : (if j + 1 = 0 then pS π A i else g (j + 1)) = g (j + 1) := if_neg (by omega)
      have b1 : ∀ (f : Nat → Int32) (x : Int32), upd f 0 x j = f j := fun f x => by simp [q5, c]
      rw [b1, b1, hv, hp, he, if_neg c, if_neg c, if_neg c]
      simp only [a1, a2]
      exact q
theorem Gh.fetch0 {π : St} {w o vl pl el : Nat → Int32} {L A : RM} {i : Nat} (h : Gh π w o vl pl el L A) (h0 : w 0 = -1) : Gh π (upd w 0 (nI i)) (upd o 0 0) vl pl el L A := by
  obtain ⟨g, g8, g0, hg⟩ := h
  refine ⟨g, g8, g0, fun j hj => ?_⟩
  have q := hg j hj
  by_cases c : j = 0
  · subst c
    refine ⟨fun z => absurd z.2 (by simp [q5]), fun _ => q.2 (fun z => z.1 h0)⟩
  · have b1 : ∀ (f : Nat → Int32) (x : Int32), upd f 0 x j = f j := fun f x => by simp [q5, c]
    rw [b1, b1]
    exact q
/-- who sends the ones behind astray -/
def dvv (π : St) (B : Nat) (w o el : Nat → Int32) (t : Nat) : Prop := ¬ w t = -1 ∧ o t = 1 ∧ (π.2 0 (w t).toNatClampNeg = 5 ∨ (π.2 0 (w t).toNatClampNeg = 4 ∧ 0 ≤ el t ∧ t ≤ B))
def Dv (π : St) (B : Nat) (w o el : Nat → Int32) (fl : Int32) : Prop := (∀ s, s < 8 → ¬ w s = -1 → (o s = 0 ↔ ∃ t, s < t ∧ t < 8 ∧ dvv π B w o el t)) ∧ (fl = 0 ∨ fl = 1) ∧ (fl = 1 ↔ ∃ t, t < 8 ∧ dvv π B w o el t)
theorem Dv.move {π : St} {B : Nat} {w o el : Nat → Int32} {fl : Int32} {s : Nat} (h : Dv π B w o el fl) (hs : s + 1 < 8) (h1 : ¬ w s = -1) (h2 : w (s + 1) = -1) (hnb : ¬ (s = B ∧ o s = 1 ∧ π.2 0 (w s).toNatClampNeg = 4 ∧ 0 ≤ el s)) : Dv π B (upd (upd w (s + 1) (w s)) s (-1)) (upd o (s + 1) (o s)) (upd el (s + 1) (el s)) fl := by
  obtain ⟨a1, a2, a3⟩ := h
  have k1 : ¬ dvv π B (upd (upd w (s + 1) (w s)) s (-1)) (upd o (s + 1) (o s)) (upd el (s + 1) (el s)) s := fun z => z.1 (by simp [q5])
  have k2 : dvv π B (upd (upd w (s + 1) (w s)) s (-1)) (upd o (s + 1) (o s)) (upd el (s + 1) (el s)) (s + 1) ↔ dvv π B w o el s := by
    unfold dvv
    have b1 : upd (upd w (s + 1) (w s)) s (-1) (s + 1) = w s := by simp [q5]
    have b2 : ∀ f : Nat → Int32, upd f (s + 1) (f s) (s + 1) = f s := fun f => by simp [q5]
    rw [b1, b2, b2]
    constructor
    · rintro ⟨c1, c2, c3 | ⟨c3, c4, c5⟩⟩
      · exact ⟨c1, c2, Or.inl c3⟩
      · exact ⟨c1, c2, Or.inr ⟨c3, c4, by omega⟩⟩
    · rintro ⟨c1, c2, c3 | ⟨c3, c4, c5⟩⟩
      · exact ⟨c1, c2, Or.inl c3⟩
      · refine ⟨c1, c2, Or.inr ⟨c3, c4, ?_⟩⟩
        by_cases e : s = B
        · exact absurd ⟨e, c2, c3, c4⟩ hnb
        · omega
  have k3 : ∀ t, t ≠ s → t ≠ s + 1 → (dvv π B (upd (upd w (s + 1) (w s)) s (-1)) (upd o (s + 1) (o s)) (upd el (s + 1) (el s)) t ↔ dvv π B w o el t) := by
    intro t e1 e2
    unfold dvv
    have b1 : upd (upd w (s + 1) (w s)) s (-1) t = w t := by simp [q5, e1, e2]
    have b2 : ∀ f : Nat → Int32, upd f (s + 1) (f s) t = f t := fun f => by simp [q5, e2]
    rw [b1, b2, b2]
  have k4 : ¬ dvv π B w o el (s + 1) := fun z => z.1 h2
  have ex : ∀ P : Nat → Prop, (P s ↔ P (s + 1)) → ((∃ t, P t ∧ t < 8 ∧ dvv π B (upd (upd w (s + 1) (w s)) s (-1)) (upd o (s + 1) (o s)) (upd el (s + 1) (el s)) t) ↔ ∃ t, P t ∧ t < 8 ∧ dvv π B w o el t) := by
    intro P hP
    constructor
    · rintro ⟨t, p1, p2, p3⟩
      by_cases e1 : t = s
      · subst e1; exact absurd p3 k1
      · by_cases e2 : t = s + 1
        · subst e2; exact ⟨s, hP.mpr p1, by omega, k2.mp p3⟩
        · exact ⟨t, p1, p2, (k3 t e1 e2).mp p3⟩
    · rintro ⟨t, p1, p2, p3⟩
      by_cases e1 : t = s
      · subst e1; exact ⟨t + 1, hP.mp p1, by omega, k2.mpr p3⟩
      · by_cases e2 : t = s + 1
        · subst e2; exact absurd p3 k4
        · exact ⟨t, p1, p2, (k3 t e1 e2).mpr p3⟩
  refine ⟨fun j hj hw => ?_, a2, ?_⟩
  · by_cases e1 : j = s
    · subst e1; exact absurd (by simp [q5]) hw
    · by_cases e2 : j = s + 1
      · subst e2
        have b2 : upd o (s + 1) (o s) (s + 1) = o s := by simp [q5]
        rw [b2, a1 s (by omega) h1]
        constructor
        · rintro ⟨t, p1, p2, p3⟩
          have e3 : t ≠ s + 1 := fun z => by subst z; exact k4 p3
          exact ⟨t, by omega, p2, (k3 t (by omega) e3).mpr p3⟩
        · rintro ⟨t, p1, p2, p3⟩
          exact ⟨t, by omega, p2, (k3 t (by omega) (by omega)).mp p3⟩
      · have b1 : upd (upd w (s + 1) (w s)) s (-1) j = w j := by simp [q5, e1, e2]
        have b2 : upd o (s + 1) (o s) j = o j := by simp [q5, e2]
        rw [b1] at hw
        rw [b2, a1 j hj hw]
        exact (ex (fun t => j < t) (by show j < s ↔ j < s + 1; omega)).symm
  · rw [a3]
    have := ex (fun _ => True) Iff.rfl
    simpa using this.symm
/-- below one that sends astray all are astray -/
theorem Dv.below {π : St} {B : Nat} {w o el : Nat → Int32} {fl : Int32} {s : Nat} (h : Dv π B w o el fl) (hs : s < 8) (hd : dvv π B w o el s) : (∀ j, j < s → j < 8 → ¬ w j = -1 → ¬ o j = 1) ∧ ∀ t, s < t → t < 8 → ¬ dvv π B w o el t := by
  obtain ⟨a1, a2, a3⟩ := h
  refine ⟨fun j hj hj8 hw z => ?_, fun t ht h8 z => ?_⟩
  · have := (a1 j hj8 hw).mpr ⟨s, hj, hs, hd⟩
    rw [this] at z
    exact absurd z (by decide)
  · have := (a1 s hs hd.1).mpr ⟨t, ht, h8, z⟩
    rw [hd.2.1] at this
    exact absurd this (by decide)
/-- squashed below s; at s or above there is none (left) that sends astray -/
theorem Dv.squash {π : St} {B : Nat} {w w' o el : Nat → Int32} {fl : Int32} {s : Nat} (h : Dv π B w o el fl) (hw : ∀ j, w' j = if j < s then -1 else w j) (hn : ∀ t, s ≤ t → t < 8 → ¬ dvv π B w o el t) : Dv π B w' o el 0 := by
  obtain ⟨a1, a2, a3⟩ := h
  have k : ∀ t, t < 8 → ¬ dvv π B w' o el t := by
    intro t ht z
    by_cases c : t < s
    · exact z.1 (by rw [hw, if_pos c])
    · apply hn t (by omega) ht
      unfold dvv at z ⊢
      rw [hw t, if_neg c] at z
      exact z
  refine ⟨fun j hj hwj => ?_, Or.inl rfl, ?_⟩
  · rw [hw j] at hwj
    by_cases c : j < s
    · rw [if_pos c] at hwj; exact absurd rfl hwj
    · rw [if_neg c] at hwj
      rw [a1 j hj hwj]
      constructor
      · rintro ⟨t, p1, p2, p3⟩; exact absurd p3 (hn t (by omega) p2)
      · rintro ⟨t, p1, p2, p3⟩; exact absurd p3 (k t p2)
  · constructor
    · intro z; exact absurd z (by decide)
    · rintro ⟨t, p2, p3⟩; exact absurd p3 (k t p2)
theorem Dv.gone {π : St} {B : Nat} {w o el : Nat → Int32} {fl : Int32} {s : Nat} (h : Dv π B w o el fl) (hn : ¬ dvv π B w o el s) : Dv π B (upd w s (-1)) o el fl := by
  obtain ⟨a1, a2, a3⟩ := h
  have k : ∀ t, dvv π B (upd w s (-1)) o el t ↔ dvv π B w o el t := by
    intro t
    by_cases c : t = s
    · subst c; exact ⟨fun z => absurd (by simp [q5]) z.1, fun z => absurd z hn⟩
    · unfold dvv
      have b1 : upd w s (-1) t = w t := by simp [q5, c]
      rw [b1]
  refine ⟨fun j hj hw => ?_, a2, ?_⟩
  · by_cases c : j = s
    · subst c; exact absurd (by simp [q5]) hw
    · have b1 : upd w s (-1) j = w j := by simp [q5, c]
      rw [b1] at hw
      rw [a1 j hj hw]
      simp only [k]
  · rw [a3]; simp only [k]
theorem Dv.fetch {π : St} {B : Nat} {w o el el' : Nat → Int32} {fl fl' : Int32} {i : Nat} (h : Dv π B w o el fl) (h0 : w 0 = -1) (hi : i < 64) (he : ∀ j, ¬ j = 0 → el' j = el j) (hf : fl = 0 → (fl' = 0 ∨ fl' = 1) ∧ (fl' = 1 ↔ (π.2 0 i = 5 ∨ (π.2 0 i = 4 ∧ 0 ≤ el' 0)))) (hf1 : fl = 1 → fl' = 1) :
    Dv π B (upd w 0 (nI i)) (upd o 0 (if fl = 0 then 1 else 0)) el' fl' := by
  obtain ⟨a1, a2, a3⟩ := h
  have n0 : ¬ dvv π B w o el 0 := fun z => z.1 h0
  have b1 : (upd w 0 (nI i) 0).toNatClampNeg = i := by simp only [q5, if_pos]; exact n_cl (by omega)
  have k0 : dvv π B (upd w 0 (nI i)) (upd o 0 (if fl = 0 then 1 else 0)) el' 0 ↔ (fl = 0 ∧ (π.2 0 i = 5 ∨ (π.2 0 i = 4 ∧ 0 ≤ el' 0))) := by
    unfold dvv
    rw [b1]
    have b2 : ¬ upd w 0 (nI i) 0 = -1 := by simp [q5]; exact n_nm1 (by omega)
    have b3 : (upd o 0 (if fl = 0 then 1 else 0) 0 = 1) ↔ fl = 0 := by
      simp only [q5, if_pos]
      by_cases c : fl = 0
      · simp [c]
      · simp [c]
    rw [b3]
    constructor
    · rintro ⟨-, c2, c3 | ⟨c3, c4, -⟩⟩
      · exact ⟨c2, Or.inl c3⟩
      · exact ⟨c2, Or.inr ⟨c3, c4⟩⟩
    · rintro ⟨c2, c3 | ⟨c3, c4⟩⟩
      · exact ⟨b2, c2, Or.inl c3⟩
      · exact ⟨b2, c2, Or.inr ⟨c3, c4, Nat.zero_le _⟩⟩
  have k : ∀ t, ¬ t = 0 → (dvv π B (upd w 0 (nI i)) (upd o 0 (if fl = 0 then 1 else 0)) el' t ↔ dvv π B w o el t) := by
    intro t c
    unfold dvv
    have b1 : ∀ (f : Nat → Int32) (x : Int32), upd f 0 x t = f t := fun f x => by simp [q5, c]
    rw [b1, b1, he t c]
  have ex : ∀ j, (∃ t, j < t ∧ t < 8 ∧ dvv π B (upd w 0 (nI i)) (upd o 0 (if fl = 0 then 1 else 0)) el' t) ↔ (∃ t, j < t ∧ t < 8 ∧ dvv π B w o el t) := by
    intro j
    constructor
    · rintro ⟨t, p1, p2, p3⟩; exact ⟨t, p1, p2, (k t (by omega)).mp p3⟩
    · rintro ⟨t, p1, p2, p3⟩; exact ⟨t, p1, p2, (k t (by omega)).mpr p3⟩
  have e0 : (∃ t, 0 < t ∧ t < 8 ∧ dvv π B w o el t) ↔ fl = 1 := by
    rw [a3]
    constructor
    · rintro ⟨t, p1, p2, p3⟩; exact ⟨t, p2, p3⟩
    · rintro ⟨t, p2, p3⟩
      refine ⟨t, Nat.pos_of_ne_zero (fun z => ?_), p2, p3⟩
      subst z; exact n0 p3
  refine ⟨fun j hj hw => ?_, ?_, ?_⟩
  · rw [ex j]
    by_cases c : j = 0
    · subst c
      rw [e0]
      simp only [q5, if_pos]
      rcases a2 with z | z <;> subst z <;> decide
    · have b1 : ∀ (f : Nat → Int32) (x : Int32), upd f 0 x j = f j := fun f x => by simp [q5, c]
      rw [b1] at hw ⊢
      exact a1 j hj hw
  · rcases a2 with z | z
    · exact (hf z).1
    · exact Or.inr (hf1 z)
  · rcases a2 with z | z
    · rw [(hf z).2]
      constructor
      · intro y; exact ⟨0, by decide, k0.mpr ⟨z, y⟩⟩
      · rintro ⟨t, p2, p3⟩
        by_cases c : t = 0
        · subst c; exact (k0.mp p3).2
        · have := a3.mpr ⟨t, p2, (k t c).mp p3⟩
          rw [z] at this
          exact absurd this (by decide)
    · constructor
      · intro _
        obtain ⟨t, p1, p2, p3⟩ := e0.mpr z
        exact ⟨t, p2, (k t (by omega)).mpr p3⟩
      · intro _; exact hf1 z
