def SM_word (Rel : Nat → St → St → Prop) : Prop := ∀ (K : Nat) (σ τ : St) (x1 x2 x3 x4 x5 : Int32), K ≤ 511 → Rel K σ τ → fX8_thrown (fX8_word τ x1 x2 x3 x4 x5).2 = cX7_wordx σ x1 x2 x3 x4 x5 ∧ (cX7_wordx σ x1 x2 x3 x4 x5 = 0 → (fX7_word σ x1 x2 x3 x4 x5).1 = (fX8_word τ x1 x2 x3 x4 x5).1) ∧ Rel (K + 1) (if cX7_wordx σ x1 x2 x3 x4 x5 = 0 then (fX7_word σ x1 x2 x3 x4 x5).2 else σ) (fX8_word τ x1 x2 x3 x4 x5).2
def SM_set (Rel : Nat → St → St → Prop) : Prop := ∀ (K : Nat) (σ τ : St) (x1 x2 : Int32), K ≤ 511 → Rel K σ τ → (x1 = 0 ∨ x1 = 1) → fX8_thrown (fX8_set τ x1 x2).2 = cX7_setx σ x1 x2 ∧ (cX7_setx σ x1 x2 = 0 → (fX7_set σ x1 x2).1 = (fX8_set τ x1 x2).1) ∧ Rel (K + 1) (if cX7_setx σ x1 x2 = 0 then (fX7_set σ x1 x2).2 else σ) (fX8_set τ x1 x2).2
def SM_clear (Rel : Nat → St → St → Prop) : Prop := ∀ (K : Nat) (σ τ : St), K ≤ 511 → Rel K σ τ → (fX7_clear σ).1 = (fX8_clear τ).1 ∧ Rel (K + 1) (fX7_clear σ).2 (fX8_clear τ).2
def SM_run (Rel : Nat → St → St → Prop) : Prop := ∀ (K : Nat) (σ τ : St) (x1 : Int32), K ≤ 511 → Rel K σ τ → fX8_thrown (fX8_run τ x1).2 = cX7_runx σ x1 ∧ (cX7_runx σ x1 = 0 → (fX7_run σ x1).1 = (fX8_run τ x1).1) ∧ Rel (K + 1) (if cX7_runx σ x1 = 0 then (fX7_run σ x1).2 else σ) (fX8_run τ x1).2
def SM_stage (Rel : Nat → St → St → Prop) : Prop := ∀ (K : Nat) (σ τ : St) (x1 x2 : Int32), K ≤ 511 → Rel K σ τ → fX8_thrown (fX8_stage τ x1 x2).2 = cX7_stagex σ x1 x2 ∧ (cX7_stagex σ x1 x2 = 0 → fX7_stage σ x1 x2 = (fX8_stage τ x1 x2).1) ∧ Rel (K + 1) (if cX7_stagex σ x1 x2 = 0 then σ else σ) (fX8_stage τ x1 x2).2
def SM_committed (Rel : Nat → St → St → Prop) : Prop := ∀ (K : Nat) (σ τ : St) (x1 x2 : Int32), K ≤ 511 → Rel K σ τ → fX8_thrown (fX8_committed τ x1 x2).2 = cX7_committedx σ x1 x2 ∧ (cX7_committedx σ x1 x2 = 0 → fX7_committed σ x1 x2 = (fX8_committed τ x1 x2).1) ∧ Rel (K + 1) (if cX7_committedx σ x1 x2 = 0 then σ else σ) (fX8_committed τ x1 x2).2
def SM_register (Rel : Nat → St → St → Prop) : Prop := ∀ (K : Nat) (σ τ : St) (x1 : Int32), K ≤ 511 → Rel K σ τ → fX8_thrown (fX8_register τ x1).2 = cX7_registerx σ x1 ∧ (cX7_registerx σ x1 = 0 → fX7_register σ x1 = (fX8_register τ x1).1) ∧ Rel (K + 1) (if cX7_registerx σ x1 = 0 then σ else σ) (fX8_register τ x1).2
def SM_memory (Rel : Nat → St → St → Prop) : Prop := ∀ (K : Nat) (σ τ : St) (x1 : Int32), K ≤ 511 → Rel K σ τ → fX8_thrown (fX8_memory τ x1).2 = cX7_memoryx σ x1 ∧ (cX7_memoryx σ x1 = 0 → fX7_memory σ x1 = (fX8_memory τ x1).1) ∧ Rel (K + 1) (if cX7_memoryx σ x1 = 0 then σ else σ) (fX8_memory τ x1).2
def SM_cause (Rel : Nat → St → St → Prop) : Prop := ∀ (K : Nat) (σ τ : St) (x1 : Int32), K ≤ 511 → Rel K σ τ → fX8_thrown (fX8_cause τ x1).2 = cX7_causex σ x1 ∧ (cX7_causex σ x1 = 0 → fX7_cause σ x1 = (fX8_cause τ x1).1) ∧ Rel (K + 1) (if cX7_causex σ x1 = 0 then σ else σ) (fX8_cause τ x1).2
def SM_count (Rel : Nat → St → St → Prop) : Prop := ∀ (K : Nat) (σ τ : St) (x1 : Int32), K ≤ 511 → Rel K σ τ → fX7_count σ x1 = (fX8_count τ x1).1 ∧ Rel (K + 1) σ (fX8_count τ x1).2
def SM_start (Rel : Nat → St → St → Prop) : Prop := ∀ x1 x2 x3 x4 x5 x6 : Int32, Rel 0 (st0 x1 x2 x3 x4 x5 x6) (fX8_begin (ms0 x1 x2 x3 x4 x5 x6))
def SM_pre (Rel : Nat → St → St → Prop) : Prop := ∀ (K : Nat) (σ τ : St), K ≤ 511 → Rel K σ τ → shp σ ∧ ((σ.1 16) = 0 ∨ (σ.1 16) = 1) ∧ ((τ.1 16) = 0 ∨ (τ.1 16) = 1) ∧ (0 ≤ (τ.1 6).toInt ∧ (τ.1 6).toInt ≤ 64) ∧ (¬ (τ.1 6) = 0 → mB τ) ∧ mV (2000 * K) τ ∧ shp τ
def SM_keep (Rel : Nat → St → St → Prop) : Prop := ∀ (K : Nat) (σ τ : St), Rel K σ τ → Rel (K + 1) σ τ
def SIM (Rel : Nat → St → St → Prop) : Prop := SM_start Rel ∧ SM_pre Rel ∧ SM_keep Rel ∧ SM_word Rel ∧ SM_set Rel ∧ SM_clear Rel ∧ SM_run Rel ∧ SM_stage Rel ∧ SM_committed Rel ∧ SM_register Rel ∧ SM_memory Rel ∧ SM_cause Rel ∧ SM_count Rel
theorem lp_sub {L : Nat} (hL : L ≤ 3078) : (Int32.ofNat L - 6).toInt = (L : Int) - 6 := by
  rw [Int32.toInt_sub, show (Int32.ofNat L).toInt = (L : Int) from nI_toInt (n := L) (by omega), show (6 : Int32).toInt = 6 by decide]
  exact Int.bmod_eq_of_le_mul_two (by omega) (by omega)
theorem lp_in {L k j : Nat} {y : Int32} (hL : L ≤ 3078) (hy : y = nI j) (h : 6 + 6 * k + j < L) : vp_in (nI (6 + 6 * k) + y) L := by
  subst hy
  rw [nI_add]
  exact nI_in (by omega) (by omega)
set_option maxRecDepth 100000 in
set_option maxHeartbeats 4000000 in
theorem lw_loop {p : Program} {l : Launch} {e : Env} {s : State} {m : MethodId} {b : Nat} {below : List Frame} {meth : Method} {c : Code} {D : va_G} {L : Nat} {xs : Nat → Int32} {cI cZ cL : ClassId} {a bm : Nat → Nat} {o : Nat} {Rel : Nat → St → St → Prop} (hS : SIM Rel) (hl : l.stackTraces = false) (hC : lwC p s m meth c b L xs D cI cZ cL) (hL : L ≤ 3078) : ∀ (n k : Nat) (σ τ : St) (f : Nat → Int64), n + k = 513 → Rel k σ τ → JL p l e s m b below meth c D (47 + k) (3511 + 6 * k) (LX a bm cI cZ cL σ τ o f) 84 [(0, .ref b), (1, .ref (a 0)), (2, .ref (bm 0)), (3, .ref o), (4, .int (nI (6 + 6 * k)))] [] := by
  have h : jC p s m #[Value.ref b] meth c code 7 R_law TB D vwCl [(cI, .int), (cZ, .boolean)] (fun q => s.heap.size ≤ q) := jC_sub hC.1 [0, 1] rfl
  have hX := hC.2.2.1
  have hbl := hC.2.2.2.1
  have hbA : ¬ (fun q : Nat => s.heap.size ≤ q) b := Nat.not_le.mpr hbl
  intro n
  induction n with
  | zero =>
    intro k σ τ f hn hR
    refine j_iload h 4 dL_law_84 rfl ?_
    refine j_aload_n h 0 dL_law_86 rfl rfl ?_
    refine j_slen h hX hbl hbA dL_law_87 ?_
    refine j_bipush h (v := 6) dL_law_88 (by decide) ?_
    refine j_isub h dL_law_90 ?_
    refine j_icmp_gt h dL_law_91 (tgt := 755) (by decide) (fun c1 => lw_exit hC (by omega) (by omega)) (fun c1 => ?_)
    exfalso
    apply c1
    rw [Int32.lt_iff_toInt_lt, lp_sub hL, nI_toInt (by omega)]
    omega
  | succ n ih =>
    intro k σ τ f hn hR
    refine j_iload h 4 dL_law_84 rfl ?_
    refine j_aload_n h 0 dL_law_86 rfl rfl ?_
    refine j_slen h hX hbl hbA dL_law_87 ?_
    refine j_bipush h (v := 6) dL_law_88 (by decide) ?_
    refine j_isub h dL_law_90 ?_
    refine j_icmp_gt h dL_law_91 (tgt := 755) (by decide) (fun c1 => lw_exit hC (by omega) (by omega)) (fun c1 => ?_)
    rw [Int32.lt_iff_toInt_lt, lp_sub hL, nI_toInt (by omega)] at c1
    have hk : 6 + 6 * k + 6 ≤ L := by omega
    have hp := hS.2.1 k σ τ (by omega) hR
    have kk : ∀ (σ' τ' : St) (f' : Nat → Int64), Rel (k + 1) σ' τ' → JL p l e s m b below meth c D (47 + k + 1) (3511 + 6 * k + 6) (LX a bm cI cZ cL σ' τ' o f') 749 [(0, .ref b), (1, .ref (a 0)), (2, .ref (bm 0)), (3, .ref o), (4, .int (nI (6 + 6 * k)))] [] := by
      intro σ' τ' f' hR'
      refine j_iinc h 4 (v := nI (6 + 6 * (k + 1))) dL_law_749 rfl (by show nI (6 + 6 * k) + nI 6 = _; rw [nI_add, show 6 + 6 * k + 6 = 6 + 6 * (k + 1) by omega]) (Nat.le_of_ble_eq_true rfl) (lv' := [(4, .int (nI (6 + 6 * (k + 1)))), (0, .ref b), (1, .ref (a 0)), (2, .ref (bm 0)), (3, .ref o)]) rfl ?_
      refine j_goto h dL_law_752 (tgt := 84) (by decide) ?_
      refine j_lv [1, 2, 3, 4, 0] (lv' := [(0, .ref b), (1, .ref (a 0)), (2, .ref (bm 0)), (3, .ref o), (4, .int (nI (6 + 6 * (k + 1))))]) rfl ?_
      have z := ih (k + 1) σ' τ' f' (by omega) hR'
      rw [show 47 + (k + 1) = 47 + k + 1 by omega, show 3511 + 6 * (k + 1) = 3511 + 6 * k + 6 by omega] at z
      exact z
    refine j_aload_n h 0 dL_law_94 rfl rfl ?_
    refine j_iload h 4 dL_law_95 rfl ?_
    refine j_sld h hX hbl hbA (nI_in (by omega) (by omega)) dL_law_97 ?_
    refine j_bipush h (v := 15) dL_law_98 (by decide) ?_
    refine j_iand h dL_law_100 ?_
    generalize (xs (nI (6 + 6 * k)).toNatClampNeg &&& 15) = v
    by_cases v0 : v = 0
    · refine j_eqi v0 ?_
      refine j_tableIn h dL_law_101 (by decide) (by decide) (off := 55) rfl (tgt := 156) (by decide) ?_
      have z := hS.2.2.2.1 k σ τ (xs (nI (6 + 6 * k) + 1).toNatClampNeg) (xs (nI (6 + 6 * k) + 2).toNatClampNeg) (xs (nI (6 + 6 * k) + 3).toNatClampNeg) (xs (nI (6 + 6 * k) + 4).toNatClampNeg) (xs (nI (6 + 6 * k) + 5).toNatClampNeg) (by omega) hR
      exact lw_word hC hl (lp_in (j := 1) hL rfl (by omega)) (lp_in (j := 2) hL rfl (by omega)) (lp_in (j := 3) hL rfl (by omega)) (lp_in (j := 4) hL rfl (by omega)) (lp_in (j := 5) hL rfl (by omega)) ⟨by omega, by omega⟩ hp.2.2.2.1 z.1 z.2.1 (fun f' => kk _ _ f' z.2.2)
    by_cases v1 : v = 1
    · refine j_eqi v1 ?_
      refine j_tableIn h dL_law_101 (by decide) (by decide) (off := 159) rfl (tgt := 260) (by decide) ?_
      have z := fun (y : Int32) (hy : y = 0 ∨ y = 1) => hS.2.2.2.2.1 k σ τ y (xs (nI (6 + 6 * k) + 2).toNatClampNeg) (by omega) hR hy
      exact lw_set hC hl (lp_in (j := 1) hL rfl (by omega)) (lp_in (j := 2) hL rfl (by omega)) ⟨by omega, by omega⟩ hp.2.1 hp.2.2.1 (fun y hy => (z y hy).1) (fun y hy => (z y hy).2.1) (fun y hy f' => kk _ _ f' (z y hy).2.2)
    by_cases v2 : v = 2
    · refine j_eqi v2 ?_
      refine j_tableIn h dL_law_101 (by decide) (by decide) (off := 250) rfl (tgt := 351) (by decide) ?_
      have z := hS.2.2.2.2.2.1 k σ τ (by omega) hR
      exact lw_clear hC ⟨by omega, by omega⟩ z.1 (kk _ _ f z.2)
    by_cases v3 : v = 3
    · refine j_eqi v3 ?_
      refine j_tableIn h dL_law_101 (by decide) (by decide) (off := 263) rfl (tgt := 364) (by decide) ?_
      have z := hS.2.2.2.2.2.2.1 k σ τ (xs (nI (6 + 6 * k) + 1).toNatClampNeg) (by omega) hR
      exact lw_run hC hl (lp_in (j := 1) hL rfl (by omega)) ⟨by omega, by omega⟩ hp.1 hp.2.2.2.2.1 hp.2.2.2.2.2.1 (by omega) z.1 z.2.1 (fun f' => kk _ _ f' z.2.2)
    by_cases v4 : v = 4
    · refine j_eqi v4 ?_
      refine j_tableIn h dL_law_101 (by decide) (by decide) (off := 319) rfl (tgt := 420) (by decide) ?_
      have z := hS.2.2.2.2.2.2.2.1 k σ τ (xs (nI (6 + 6 * k) + 1).toNatClampNeg) (xs (nI (6 + 6 * k) + 2).toNatClampNeg) (by omega) hR
      exact lw_stage hC hl (lp_in (j := 1) hL rfl (by omega)) (lp_in (j := 2) hL rfl (by omega)) ⟨by omega, by omega⟩ hp.2.2.2.2.2.2 z.1 z.2.1 (fun f' => kk _ _ f' z.2.2)
    by_cases v5 : v = 5
    · refine j_eqi v5 ?_
      refine j_tableIn h dL_law_101 (by decide) (by decide) (off := 387) rfl (tgt := 488) (by decide) ?_
      have z := hS.2.2.2.2.2.2.2.2.1 k σ τ (xs (nI (6 + 6 * k) + 1).toNatClampNeg) (xs (nI (6 + 6 * k) + 2).toNatClampNeg) (by omega) hR
      exact lw_committed hC hl (lp_in (j := 1) hL rfl (by omega)) (lp_in (j := 2) hL rfl (by omega)) ⟨by omega, by omega⟩ ⟨hp.2.2.2.2.2.1.2.2.2.1, by have := hp.2.2.2.2.2.1.2.2.2.2; omega⟩ z.1 z.2.1 (fun f' => kk _ _ f' z.2.2)
    by_cases v6 : v = 6
    · refine j_eqi v6 ?_
      refine j_tableIn h dL_law_101 (by decide) (by decide) (off := 455) rfl (tgt := 556) (by decide) ?_
      have z := hS.2.2.2.2.2.2.2.2.2.1 k σ τ (xs (nI (6 + 6 * k) + 1).toNatClampNeg) (by omega) hR
      exact lw_register hC hl (lp_in (j := 1) hL rfl (by omega)) ⟨by omega, by omega⟩ z.1 z.2.1 (fun f' => kk _ _ f' z.2.2)
    by_cases v7 : v = 7
    · refine j_eqi v7 ?_
      refine j_tableIn h dL_law_101 (by decide) (by decide) (off := 511) rfl (tgt := 612) (by decide) ?_
      have z := hS.2.2.2.2.2.2.2.2.2.2.1 k σ τ (xs (nI (6 + 6 * k) + 1).toNatClampNeg) (by omega) hR
      exact lw_memory hC hl (lp_in (j := 1) hL rfl (by omega)) ⟨by omega, by omega⟩ z.1 z.2.1 (fun f' => kk _ _ f' z.2.2)
    by_cases v8 : v = 8
    · refine j_eqi v8 ?_
      refine j_tableIn h dL_law_101 (by decide) (by decide) (off := 567) rfl (tgt := 668) (by decide) ?_
      have z := hS.2.2.2.2.2.2.2.2.2.2.2.1 k σ τ (xs (nI (6 + 6 * k) + 1).toNatClampNeg) (by omega) hR
      exact lw_cause hC hl (lp_in (j := 1) hL rfl (by omega)) ⟨by omega, by omega⟩ z.1 z.2.1 (fun f' => kk _ _ f' z.2.2)
    by_cases v9 : v = 9
    · refine j_eqi v9 ?_
      refine j_tableIn h dL_law_101 (by decide) (by decide) (off := 623) rfl (tgt := 724) (by decide) ?_
      have z := hS.2.2.2.2.2.2.2.2.2.2.2.2 k σ τ (xs (nI (6 + 6 * k) + 1).toNatClampNeg) (by omega) hR
      exact lw_count hC (lp_in (j := 1) hL rfl (by omega)) ⟨by omega, by omega⟩ z.1 (kk _ _ f z.2)
    refine j_tableOut h dL_law_101 (lw_out v0 v1 v2 v3 v4 v5 v6 v7 v8 v9) (tgt := 749) (by decide) ?_
    refine j_widen (k := 47 + k + 1) (n := 3511 + 6 * k + 6) (by omega) (by omega) ?_
    exact kk σ τ f (hS.2.2.1 k σ τ hR)
