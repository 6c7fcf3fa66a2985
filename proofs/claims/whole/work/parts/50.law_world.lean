/-! the law's world and what stays through its body -/
abbrev LX (a bm : Nat → Nat) (cI cZ cL : ClassId) (σ τ : St) (o : Nat) (f : Nat → Int64) : va_W := fx a cI cZ σ ++ (mx bm cI cZ τ ++ [(o, .inl (cL, 1, .inr (.inl f)))])
def lwC (p : Program) (s : State) (m : MethodId) (meth : Method) (c : Code) (b L : Nat) (xs : Nat → Int32) (D : va_G) (cI cZ cL : ClassId) : Prop :=
  jC p s m #[Value.ref b] meth c code 7 R_law TB D vwCl [(cI, .int), (cZ, .boolean), (cL, .long)] (fun q => s.heap.size ≤ q) ∧ (∀ (H : Heap) (locs : List Loc), va_S (fun q => s.heap.size ≤ q) s.heap H locs → jZ (fun q => s.heap.size ≤ q) s H) ∧ va_X b L xs s s.heap ∧ b < s.heap.size ∧ meth.sig.returnType = ret
abbrev JL (p : Program) (l : Launch) (e : Env) (s : State) (m : MethodId) (b : Nat) (below : List Frame) (meth : Method) (c : Code) (D : va_G) (cells slots : Nat) (w : va_W) (pc : Nat) (lv : List (Nat × Value)) (st : List Value) : Prop :=
  J p l e room_1 s m #[Value.ref b] below meth c D vwCl (fun q => s.heap.size ≤ q) 7 cells slots (lw_Z below #[Value.ref b] s) w pc lv st
section LXS
set_option maxRecDepth 100000 in
theorem LX_hC (a bm : Nat → Nat) (cI cZ cL : ClassId) (σ τ : St) (o : Nat) (f : Nat → Int64) : [0, 1, 2, 3, 4, 5, 6, 7, 8, 9, 10, 11, 12, 13, 14, 15, 16, 17, 18, 19, 20, 21, 22, 23, 24, 46].map (fun i => (LX a bm cI cZ cL σ τ o f)[i]?) = ((fx a cI cZ σ ++ [(o, .inl (cL, 1, .inr (.inl f)))] : va_W)).map some := rfl
set_option maxRecDepth 100000 in
theorem LX_hR (a bm : Nat → Nat) (cI cZ cL : ClassId) (σ τ : St) (o : Nat) (f : Nat → Int64) : [25, 26, 27, 28, 29, 30, 31, 32, 33, 34, 35, 36, 37, 38, 39, 40, 41, 42, 43, 44, 45].map (fun i => (LX a bm cI cZ cL σ τ o f)[i]?) = (mx bm cI cZ τ).map some := rfl
set_option maxRecDepth 100000 in
theorem LX_hF (a bm : Nat → Nat) (cI cZ cL : ClassId) (σ τ : St) (o : Nat) (f : Nat → Int64) : [21, 22, 23, 24, 25, 26, 27, 28, 29, 30, 31, 32, 33, 34, 35, 36, 37, 38, 39, 40, 41, 42, 43, 44, 45, 0, 1, 2, 3, 4, 5, 6, 7, 8, 9, 10, 11, 12, 13, 14, 15, 16, 17, 18, 19, 20, 46].map (fun i => (mx bm cI cZ τ ++ (fx a cI cZ σ ++ [(o, .inl (cL, 1, .inr (.inl f)))]))[i]?) = (LX a bm cI cZ cL σ τ o f).map some := rfl
set_option maxRecDepth 100000 in
theorem LX_mR (a bm : Nat → Nat) (cI cZ cL : ClassId) (σ τ : St) (o : Nat) (f : Nat → Int64) : [0, 1, 2, 3, 4, 5, 6, 7, 8, 9, 10, 11, 12, 13, 14, 15, 16, 17, 18, 19, 20, 21, 22, 23, 24, 46].map (fun i => (LX a bm cI cZ cL σ τ o f)[i]?) = ((fx a cI cZ σ ++ [(o, .inl (cL, 1, .inr (.inl f)))] : va_W)).map some := rfl
set_option maxRecDepth 100000 in
theorem LX_mF (a bm : Nat → Nat) (cI cZ cL : ClassId) (σ τ : St) (o : Nat) (f : Nat → Int64) : [0, 1, 2, 3, 4, 5, 6, 7, 8, 9, 10, 11, 12, 13, 14, 15, 16, 17, 18, 19, 20, 21, 22, 23, 24, 26, 27, 28, 29, 30, 31, 32, 33, 34, 35, 36, 37, 38, 39, 40, 41, 42, 43, 44, 45, 46, 25].map (fun i => ((fx a cI cZ σ ++ [(o, .inl (cL, 1, .inr (.inl f)))]) ++ mx bm cI cZ τ)[i]?) = (LX a bm cI cZ cL σ τ o f).map some := rfl
set_option maxRecDepth 100000 in
theorem LX_cC (a bm : Nat → Nat) (cI cZ cL : ClassId) (σ τ : St) (o : Nat) (f : Nat → Int64) : [0, 1, 2, 3, 4, 5, 6, 7, 8, 9, 10, 11, 12, 13, 14, 15, 16, 17, 18, 19, 20, 21, 22, 23, 24].map (fun i => (LX a bm cI cZ cL σ τ o f)[i]?) = (fx a cI cZ σ).map some := rfl
set_option maxRecDepth 100000 in
theorem LX_cR (a bm : Nat → Nat) (cI cZ cL : ClassId) (σ τ : St) (o : Nat) (f : Nat → Int64) : [25, 26, 27, 28, 29, 30, 31, 32, 33, 34, 35, 36, 37, 38, 39, 40, 41, 42, 43, 44, 45, 46].map (fun i => (LX a bm cI cZ cL σ τ o f)[i]?) = ((mx bm cI cZ τ ++ [(o, .inl (cL, 1, .inr (.inl f)))] : va_W)).map some := rfl
set_option maxRecDepth 100000 in
theorem LX_cF (a bm : Nat → Nat) (cI cZ cL : ClassId) (σ τ : St) (o : Nat) (f : Nat → Int64) : [22, 23, 24, 25, 26, 27, 28, 29, 30, 31, 32, 33, 34, 35, 36, 37, 38, 39, 40, 41, 42, 43, 44, 45, 46, 0, 1, 2, 3, 4, 5, 6, 7, 8, 9, 10, 11, 12, 13, 14, 15, 16, 17, 18, 19, 20, 21].map (fun i => ((mx bm cI cZ τ ++ [(o, .inl (cL, 1, .inr (.inl f)))]) ++ fx a cI cZ σ)[i]?) = (LX a bm cI cZ cL σ τ o f).map some := rfl
end LXS
theorem lw_cmp {code v r : Int32} {f : Nat → Int64} (h : code = 0) (E : v = r) : lg_cmp ((if code = 0 then vp_updL f 0 v.toInt64 else f) (0 : Int32).toNatClampNeg) r.toInt64 = 0 := by
  rw [if_pos h, E]
  show lg_cmp (vp_updL f 0 r.toInt64 0) r.toInt64 = 0
  simp [vp_updL, lg_cmp]
theorem lw_cmpz {code v : Int32} {f : Nat → Int64} {t : Int64} (h : code = 0) (E : (if v = 0 then (0 : Int64) else 1) = t) : lg_cmp ((if code = 0 then vp_updL f 0 (if v = 0 then (0 : Int64) else 1) else f) (0 : Int32).toNatClampNeg) t = 0 := by
  rw [if_pos h, E]
  show lg_cmp (vp_updL f 0 t 0) t = 0
  simp [vp_updL, lg_cmp]
theorem lw_out {v : Int32} (h0 : ¬ v = 0) (h1 : ¬ v = 1) (h2 : ¬ v = 2) (h3 : ¬ v = 3) (h4 : ¬ v = 4) (h5 : ¬ v = 5) (h6 : ¬ v = 6) (h7 : ¬ v = 7) (h8 : ¬ v = 8) (h9 : ¬ v = 9) : v.toInt < 0 ∨ 9 < v.toInt := by
  rw [← Int32.toInt_inj] at h0 h1 h2 h3 h4 h5 h6 h7 h8 h9
  rw [show (0 : Int32).toInt = 0 by decide] at h0
  rw [show (1 : Int32).toInt = 1 by decide] at h1
  rw [show (2 : Int32).toInt = 2 by decide] at h2
  rw [show (3 : Int32).toInt = 3 by decide] at h3
  rw [show (4 : Int32).toInt = 4 by decide] at h4
  rw [show (5 : Int32).toInt = 5 by decide] at h5
  rw [show (6 : Int32).toInt = 6 by decide] at h6
  rw [show (7 : Int32).toInt = 7 by decide] at h7
  rw [show (8 : Int32).toInt = 8 by decide] at h8
  rw [show (9 : Int32).toInt = 9 by decide] at h9
  omega
theorem lw_exit {p : Program} {l : Launch} {e : Env} {s : State} {m : MethodId} {b : Nat} {below : List Frame} {meth : Method} {c : Code} {D : va_G} {L : Nat} {xs : Nat → Int32} {cI cZ cL : ClassId} {cells slots : Nat} {w : va_W} {lv : List (Nat × Value)} (hC : lwC p s m meth c b L xs D cI cZ cL) (hc : cells ≤ 1084) (hs : slots ≤ 11781) : JL p l e s m b below meth c D cells slots w 755 lv [] := by
  refine j_iconst hC.1 (v := 1) dL_law_755 (by decide) ?_
  intro H locs ls hP hD hS hl
  exact va_forget hS.2.2 (W.widen hc hs (lw_ret hC.1.1 hC.1.2.1 hC.2.2.2.2 hC.1.2.2.2.2.2.2.2.1 dL_law_756))
