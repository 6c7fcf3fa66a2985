abbrev fx (a : Nat → Nat) (cI cZ : ClassId) (σ : St) : va_W :=
  [(a 0, .inr (7, [.ref (a 1), .ref (a 2), .ref (a 8)])),
   (a 1, .inr (4, [.int (σ.1 0), .int (σ.1 1), .int (σ.1 2), .int (σ.1 3), .int (σ.1 4), .int (σ.1 5)])),
   (a 2, .inr (3, [.ref (a 3), .ref (a 4), .ref (a 5), .ref (a 6), .ref (a 7), .int (σ.1 6)])),
   (a 3, .inl (cI, 64, .inl (σ.2 0))),
   (a 4, .inl (cI, 64, .inl (σ.2 1))),
   (a 5, .inl (cI, 64, .inl (σ.2 2))),
   (a 6, .inl (cI, 64, .inl (σ.2 3))),
   (a 7, .inl (cI, 64, .inl (σ.2 4))),
   (a 8, .inr (1, [.ref (a 1), .ref (a 2), .ref (a 9), .ref (a 13), .ref (a 17), .ref (a 19), .ref (a 22), .int (σ.1 16), .int (σ.1 17), .int (σ.1 18), .int (σ.1 19), .int (σ.1 20), .int (σ.1 21), .int (σ.1 22)])),
   (a 9, .inr (5, [.ref (a 10), .ref (a 11), .ref (a 12)])),
   (a 10, .inl (cI, 8, .inl (σ.2 5))),
   (a 11, .inl (cZ, 8, .inl (σ.2 6))),
   (a 12, .inl (cZ, 8, .inl (σ.2 7))),
   (a 13, .inr (0, [.ref (a 14), .ref (a 15), .ref (a 16), .int (σ.1 7), .int (σ.1 8)])),
   (a 14, .inl (cI, 400, .inl (σ.2 8))),
   (a 15, .inl (cI, 400, .inl (σ.2 9))),
   (a 16, .inl (cI, 400, .inl (σ.2 10))),
   (a 17, .inr (6, [.ref (a 18), .int (σ.1 9), .int (σ.1 10), .int (σ.1 11), .int (σ.1 12), .int (σ.1 13), .int (σ.1 14), .int (σ.1 15)])),
   (a 18, .inl (cI, 5, .inl (σ.2 11))),
   (a 19, .inr (2, [.ref (a 2), .ref (a 20), .ref (a 21)])),
   (a 20, .inl (cI, 8, .inl (σ.2 12))),
   (a 21, .inl (cI, 64, .inl (σ.2 13))),
   (a 22, .inr (2, [.ref (a 2), .ref (a 23), .ref (a 24)])),
   (a 23, .inl (cI, 8, .inl (σ.2 14))),
   (a 24, .inl (cI, 64, .inl (σ.2 15)))]
theorem fx_c0 (a : Nat → Nat) (cI cZ : ClassId) (σ : St) : (fx a cI cZ σ)[0]? = some (a 0, .inr (7, [.ref (a 1), .ref (a 2), .ref (a 8)])) := rfl
theorem fx_c1 (a : Nat → Nat) (cI cZ : ClassId) (σ : St) : (fx a cI cZ σ)[1]? = some (a 1, .inr (4, [.int (σ.1 0), .int (σ.1 1), .int (σ.1 2), .int (σ.1 3), .int (σ.1 4), .int (σ.1 5)])) := rfl
theorem fx_p1_0 (a : Nat → Nat) (cI cZ : ClassId) (σ : St) (x : Int32) : (fx a cI cZ σ).set 1 (a 1, .inr (4, [.int (σ.1 0), .int (σ.1 1), .int (σ.1 2), .int (σ.1 3), .int (σ.1 4), .int (σ.1 5)].set 0 (.int x))) = fx a cI cZ (sg σ 0 x) := rfl
theorem fx_p1_1 (a : Nat → Nat) (cI cZ : ClassId) (σ : St) (x : Int32) : (fx a cI cZ σ).set 1 (a 1, .inr (4, [.int (σ.1 0), .int (σ.1 1), .int (σ.1 2), .int (σ.1 3), .int (σ.1 4), .int (σ.1 5)].set 1 (.int x))) = fx a cI cZ (sg σ 1 x) := rfl
theorem fx_p1_2 (a : Nat → Nat) (cI cZ : ClassId) (σ : St) (x : Int32) : (fx a cI cZ σ).set 1 (a 1, .inr (4, [.int (σ.1 0), .int (σ.1 1), .int (σ.1 2), .int (σ.1 3), .int (σ.1 4), .int (σ.1 5)].set 2 (.int x))) = fx a cI cZ (sg σ 2 x) := rfl
theorem fx_p1_3 (a : Nat → Nat) (cI cZ : ClassId) (σ : St) (x : Int32) : (fx a cI cZ σ).set 1 (a 1, .inr (4, [.int (σ.1 0), .int (σ.1 1), .int (σ.1 2), .int (σ.1 3), .int (σ.1 4), .int (σ.1 5)].set 3 (.int x))) = fx a cI cZ (sg σ 3 x) := rfl
theorem fx_p1_4 (a : Nat → Nat) (cI cZ : ClassId) (σ : St) (x : Int32) : (fx a cI cZ σ).set 1 (a 1, .inr (4, [.int (σ.1 0), .int (σ.1 1), .int (σ.1 2), .int (σ.1 3), .int (σ.1 4), .int (σ.1 5)].set 4 (.int x))) = fx a cI cZ (sg σ 4 x) := rfl
theorem fx_p1_5 (a : Nat → Nat) (cI cZ : ClassId) (σ : St) (x : Int32) : (fx a cI cZ σ).set 1 (a 1, .inr (4, [.int (σ.1 0), .int (σ.1 1), .int (σ.1 2), .int (σ.1 3), .int (σ.1 4), .int (σ.1 5)].set 5 (.int x))) = fx a cI cZ (sg σ 5 x) := rfl
theorem fx_c2 (a : Nat → Nat) (cI cZ : ClassId) (σ : St) : (fx a cI cZ σ)[2]? = some (a 2, .inr (3, [.ref (a 3), .ref (a 4), .ref (a 5), .ref (a 6), .ref (a 7), .int (σ.1 6)])) := rfl
theorem fx_p2_5 (a : Nat → Nat) (cI cZ : ClassId) (σ : St) (x : Int32) : (fx a cI cZ σ).set 2 (a 2, .inr (3, [.ref (a 3), .ref (a 4), .ref (a 5), .ref (a 6), .ref (a 7), .int (σ.1 6)].set 5 (.int x))) = fx a cI cZ (sg σ 6 x) := rfl
theorem fx_g3 {a : Nat → Nat} {cI cZ : ClassId} {σ : St} {F : Nat → Int32} (h : σ.2 0 = F) : (fx a cI cZ σ)[3]? = some (a 3, .inl (cI, 64, .inl F)) := by subst h; rfl
theorem fx_s3 (a : Nat → Nat) (cI cZ : ClassId) (σ : St) (F : Nat → Int32) : (fx a cI cZ σ).set 3 (a 3, .inl (cI, 64, .inl F)) = fx a cI cZ (ar σ 0 F) := rfl
theorem fx_g4 {a : Nat → Nat} {cI cZ : ClassId} {σ : St} {F : Nat → Int32} (h : σ.2 1 = F) : (fx a cI cZ σ)[4]? = some (a 4, .inl (cI, 64, .inl F)) := by subst h; rfl
theorem fx_s4 (a : Nat → Nat) (cI cZ : ClassId) (σ : St) (F : Nat → Int32) : (fx a cI cZ σ).set 4 (a 4, .inl (cI, 64, .inl F)) = fx a cI cZ (ar σ 1 F) := rfl
theorem fx_g5 {a : Nat → Nat} {cI cZ : ClassId} {σ : St} {F : Nat → Int32} (h : σ.2 2 = F) : (fx a cI cZ σ)[5]? = some (a 5, .inl (cI, 64, .inl F)) := by subst h; rfl
theorem fx_s5 (a : Nat → Nat) (cI cZ : ClassId) (σ : St) (F : Nat → Int32) : (fx a cI cZ σ).set 5 (a 5, .inl (cI, 64, .inl F)) = fx a cI cZ (ar σ 2 F) := rfl
theorem fx_g6 {a : Nat → Nat} {cI cZ : ClassId} {σ : St} {F : Nat → Int32} (h : σ.2 3 = F) : (fx a cI cZ σ)[6]? = some (a 6, .inl (cI, 64, .inl F)) := by subst h; rfl
theorem fx_s6 (a : Nat → Nat) (cI cZ : ClassId) (σ : St) (F : Nat → Int32) : (fx a cI cZ σ).set 6 (a 6, .inl (cI, 64, .inl F)) = fx a cI cZ (ar σ 3 F) := rfl
theorem fx_g7 {a : Nat → Nat} {cI cZ : ClassId} {σ : St} {F : Nat → Int32} (h : σ.2 4 = F) : (fx a cI cZ σ)[7]? = some (a 7, .inl (cI, 64, .inl F)) := by subst h; rfl
theorem fx_s7 (a : Nat → Nat) (cI cZ : ClassId) (σ : St) (F : Nat → Int32) : (fx a cI cZ σ).set 7 (a 7, .inl (cI, 64, .inl F)) = fx a cI cZ (ar σ 4 F) := rfl
theorem fx_c8 (a : Nat → Nat) (cI cZ : ClassId) (σ : St) : (fx a cI cZ σ)[8]? = some (a 8, .inr (1, [.ref (a 1), .ref (a 2), .ref (a 9), .ref (a 13), .ref (a 17), .ref (a 19), .ref (a 22), .int (σ.1 16), .int (σ.1 17), .int (σ.1 18), .int (σ.1 19), .int (σ.1 20), .int (σ.1 21), .int (σ.1 22)])) := rfl
theorem fx_p8_7 (a : Nat → Nat) (cI cZ : ClassId) (σ : St) (x : Int32) : (fx a cI cZ σ).set 8 (a 8, .inr (1, [.ref (a 1), .ref (a 2), .ref (a 9), .ref (a 13), .ref (a 17), .ref (a 19), .ref (a 22), .int (σ.1 16), .int (σ.1 17), .int (σ.1 18), .int (σ.1 19), .int (σ.1 20), .int (σ.1 21), .int (σ.1 22)].set 7 (.int x))) = fx a cI cZ (sg σ 16 x) := rfl
theorem fx_p8_8 (a : Nat → Nat) (cI cZ : ClassId) (σ : St) (x : Int32) : (fx a cI cZ σ).set 8 (a 8, .inr (1, [.ref (a 1), .ref (a 2), .ref (a 9), .ref (a 13), .ref (a 17), .ref (a 19), .ref (a 22), .int (σ.1 16), .int (σ.1 17), .int (σ.1 18), .int (σ.1 19), .int (σ.1 20), .int (σ.1 21), .int (σ.1 22)].set 8 (.int x))) = fx a cI cZ (sg σ 17 x) := rfl
theorem fx_p8_9 (a : Nat → Nat) (cI cZ : ClassId) (σ : St) (x : Int32) : (fx a cI cZ σ).set 8 (a 8, .inr (1, [.ref (a 1), .ref (a 2), .ref (a 9), .ref (a 13), .ref (a 17), .ref (a 19), .ref (a 22), .int (σ.1 16), .int (σ.1 17), .int (σ.1 18), .int (σ.1 19), .int (σ.1 20), .int (σ.1 21), .int (σ.1 22)].set 9 (.int x))) = fx a cI cZ (sg σ 18 x) := rfl
theorem fx_p8_10 (a : Nat → Nat) (cI cZ : ClassId) (σ : St) (x : Int32) : (fx a cI cZ σ).set 8 (a 8, .inr (1, [.ref (a 1), .ref (a 2), .ref (a 9), .ref (a 13), .ref (a 17), .ref (a 19), .ref (a 22), .int (σ.1 16), .int (σ.1 17), .int (σ.1 18), .int (σ.1 19), .int (σ.1 20), .int (σ.1 21), .int (σ.1 22)].set 10 (.int x))) = fx a cI cZ (sg σ 19 x) := rfl
theorem fx_p8_11 (a : Nat → Nat) (cI cZ : ClassId) (σ : St) (x : Int32) : (fx a cI cZ σ).set 8 (a 8, .inr (1, [.ref (a 1), .ref (a 2), .ref (a 9), .ref (a 13), .ref (a 17), .ref (a 19), .ref (a 22), .int (σ.1 16), .int (σ.1 17), .int (σ.1 18), .int (σ.1 19), .int (σ.1 20), .int (σ.1 21), .int (σ.1 22)].set 11 (.int x))) = fx a cI cZ (sg σ 20 x) := rfl
theorem fx_p8_12 (a : Nat → Nat) (cI cZ : ClassId) (σ : St) (x : Int32) : (fx a cI cZ σ).set 8 (a 8, .inr (1, [.ref (a 1), .ref (a 2), .ref (a 9), .ref (a 13), .ref (a 17), .ref (a 19), .ref (a 22), .int (σ.1 16), .int (σ.1 17), .int (σ.1 18), .int (σ.1 19), .int (σ.1 20), .int (σ.1 21), .int (σ.1 22)].set 12 (.int x))) = fx a cI cZ (sg σ 21 x) := rfl
theorem fx_p8_13 (a : Nat → Nat) (cI cZ : ClassId) (σ : St) (x : Int32) : (fx a cI cZ σ).set 8 (a 8, .inr (1, [.ref (a 1), .ref (a 2), .ref (a 9), .ref (a 13), .ref (a 17), .ref (a 19), .ref (a 22), .int (σ.1 16), .int (σ.1 17), .int (σ.1 18), .int (σ.1 19), .int (σ.1 20), .int (σ.1 21), .int (σ.1 22)].set 13 (.int x))) = fx a cI cZ (sg σ 22 x) := rfl
theorem fx_c9 (a : Nat → Nat) (cI cZ : ClassId) (σ : St) : (fx a cI cZ σ)[9]? = some (a 9, .inr (5, [.ref (a 10), .ref (a 11), .ref (a 12)])) := rfl
theorem fx_g10 {a : Nat → Nat} {cI cZ : ClassId} {σ : St} {F : Nat → Int32} (h : σ.2 5 = F) : (fx a cI cZ σ)[10]? = some (a 10, .inl (cI, 8, .inl F)) := by subst h; rfl
theorem fx_s10 (a : Nat → Nat) (cI cZ : ClassId) (σ : St) (F : Nat → Int32) : (fx a cI cZ σ).set 10 (a 10, .inl (cI, 8, .inl F)) = fx a cI cZ (ar σ 5 F) := rfl
theorem fx_g11 {a : Nat → Nat} {cI cZ : ClassId} {σ : St} {F : Nat → Int32} (h : σ.2 6 = F) : (fx a cI cZ σ)[11]? = some (a 11, .inl (cZ, 8, .inl F)) := by subst h; rfl
theorem fx_s11 (a : Nat → Nat) (cI cZ : ClassId) (σ : St) (F : Nat → Int32) : (fx a cI cZ σ).set 11 (a 11, .inl (cZ, 8, .inl F)) = fx a cI cZ (ar σ 6 F) := rfl
theorem fx_g12 {a : Nat → Nat} {cI cZ : ClassId} {σ : St} {F : Nat → Int32} (h : σ.2 7 = F) : (fx a cI cZ σ)[12]? = some (a 12, .inl (cZ, 8, .inl F)) := by subst h; rfl
theorem fx_s12 (a : Nat → Nat) (cI cZ : ClassId) (σ : St) (F : Nat → Int32) : (fx a cI cZ σ).set 12 (a 12, .inl (cZ, 8, .inl F)) = fx a cI cZ (ar σ 7 F) := rfl
theorem fx_c13 (a : Nat → Nat) (cI cZ : ClassId) (σ : St) : (fx a cI cZ σ)[13]? = some (a 13, .inr (0, [.ref (a 14), .ref (a 15), .ref (a 16), .int (σ.1 7), .int (σ.1 8)])) := rfl
theorem fx_p13_3 (a : Nat → Nat) (cI cZ : ClassId) (σ : St) (x : Int32) : (fx a cI cZ σ).set 13 (a 13, .inr (0, [.ref (a 14), .ref (a 15), .ref (a 16), .int (σ.1 7), .int (σ.1 8)].set 3 (.int x))) = fx a cI cZ (sg σ 7 x) := rfl
theorem fx_p13_4 (a : Nat → Nat) (cI cZ : ClassId) (σ : St) (x : Int32) : (fx a cI cZ σ).set 13 (a 13, .inr (0, [.ref (a 14), .ref (a 15), .ref (a 16), .int (σ.1 7), .int (σ.1 8)].set 4 (.int x))) = fx a cI cZ (sg σ 8 x) := rfl
theorem fx_g14 {a : Nat → Nat} {cI cZ : ClassId} {σ : St} {F : Nat → Int32} (h : σ.2 8 = F) : (fx a cI cZ σ)[14]? = some (a 14, .inl (cI, 400, .inl F)) := by subst h; rfl
theorem fx_s14 (a : Nat → Nat) (cI cZ : ClassId) (σ : St) (F : Nat → Int32) : (fx a cI cZ σ).set 14 (a 14, .inl (cI, 400, .inl F)) = fx a cI cZ (ar σ 8 F) := rfl
theorem fx_g15 {a : Nat → Nat} {cI cZ : ClassId} {σ : St} {F : Nat → Int32} (h : σ.2 9 = F) : (fx a cI cZ σ)[15]? = some (a 15, .inl (cI, 400, .inl F)) := by subst h; rfl
theorem fx_s15 (a : Nat → Nat) (cI cZ : ClassId) (σ : St) (F : Nat → Int32) : (fx a cI cZ σ).set 15 (a 15, .inl (cI, 400, .inl F)) = fx a cI cZ (ar σ 9 F) := rfl
theorem fx_g16 {a : Nat → Nat} {cI cZ : ClassId} {σ : St} {F : Nat → Int32} (h : σ.2 10 = F) : (fx a cI cZ σ)[16]? = some (a 16, .inl (cI, 400, .inl F)) := by subst h; rfl
theorem fx_s16 (a : Nat → Nat) (cI cZ : ClassId) (σ : St) (F : Nat → Int32) : (fx a cI cZ σ).set 16 (a 16, .inl (cI, 400, .inl F)) = fx a cI cZ (ar σ 10 F) := rfl
theorem fx_c17 (a : Nat → Nat) (cI cZ : ClassId) (σ : St) : (fx a cI cZ σ)[17]? = some (a 17, .inr (6, [.ref (a 18), .int (σ.1 9), .int (σ.1 10), .int (σ.1 11), .int (σ.1 12), .int (σ.1 13), .int (σ.1 14), .int (σ.1 15)])) := rfl
theorem fx_p17_1 (a : Nat → Nat) (cI cZ : ClassId) (σ : St) (x : Int32) : (fx a cI cZ σ).set 17 (a 17, .inr (6, [.ref (a 18), .int (σ.1 9), .int (σ.1 10), .int (σ.1 11), .int (σ.1 12), .int (σ.1 13), .int (σ.1 14), .int (σ.1 15)].set 1 (.int x))) = fx a cI cZ (sg σ 9 x) := rfl
theorem fx_p17_2 (a : Nat → Nat) (cI cZ : ClassId) (σ : St) (x : Int32) : (fx a cI cZ σ).set 17 (a 17, .inr (6, [.ref (a 18), .int (σ.1 9), .int (σ.1 10), .int (σ.1 11), .int (σ.1 12), .int (σ.1 13), .int (σ.1 14), .int (σ.1 15)].set 2 (.int x))) = fx a cI cZ (sg σ 10 x) := rfl
theorem fx_p17_3 (a : Nat → Nat) (cI cZ : ClassId) (σ : St) (x : Int32) : (fx a cI cZ σ).set 17 (a 17, .inr (6, [.ref (a 18), .int (σ.1 9), .int (σ.1 10), .int (σ.1 11), .int (σ.1 12), .int (σ.1 13), .int (σ.1 14), .int (σ.1 15)].set 3 (.int x))) = fx a cI cZ (sg σ 11 x) := rfl
theorem fx_p17_4 (a : Nat → Nat) (cI cZ : ClassId) (σ : St) (x : Int32) : (fx a cI cZ σ).set 17 (a 17, .inr (6, [.ref (a 18), .int (σ.1 9), .int (σ.1 10), .int (σ.1 11), .int (σ.1 12), .int (σ.1 13), .int (σ.1 14), .int (σ.1 15)].set 4 (.int x))) = fx a cI cZ (sg σ 12 x) := rfl
theorem fx_p17_5 (a : Nat → Nat) (cI cZ : ClassId) (σ : St) (x : Int32) : (fx a cI cZ σ).set 17 (a 17, .inr (6, [.ref (a 18), .int (σ.1 9), .int (σ.1 10), .int (σ.1 11), .int (σ.1 12), .int (σ.1 13), .int (σ.1 14), .int (σ.1 15)].set 5 (.int x))) = fx a cI cZ (sg σ 13 x) := rfl
theorem fx_p17_6 (a : Nat → Nat) (cI cZ : ClassId) (σ : St) (x : Int32) : (fx a cI cZ σ).set 17 (a 17, .inr (6, [.ref (a 18), .int (σ.1 9), .int (σ.1 10), .int (σ.1 11), .int (σ.1 12), .int (σ.1 13), .int (σ.1 14), .int (σ.1 15)].set 6 (.int x))) = fx a cI cZ (sg σ 14 x) := rfl
theorem fx_p17_7 (a : Nat → Nat) (cI cZ : ClassId) (σ : St) (x : Int32) : (fx a cI cZ σ).set 17 (a 17, .inr (6, [.ref (a 18), .int (σ.1 9), .int (σ.1 10), .int (σ.1 11), .int (σ.1 12), .int (σ.1 13), .int (σ.1 14), .int (σ.1 15)].set 7 (.int x))) = fx a cI cZ (sg σ 15 x) := rfl
theorem fx_g18 {a : Nat → Nat} {cI cZ : ClassId} {σ : St} {F : Nat → Int32} (h : σ.2 11 = F) : (fx a cI cZ σ)[18]? = some (a 18, .inl (cI, 5, .inl F)) := by subst h; rfl
theorem fx_s18 (a : Nat → Nat) (cI cZ : ClassId) (σ : St) (F : Nat → Int32) : (fx a cI cZ σ).set 18 (a 18, .inl (cI, 5, .inl F)) = fx a cI cZ (ar σ 11 F) := rfl
theorem fx_c19 (a : Nat → Nat) (cI cZ : ClassId) (σ : St) : (fx a cI cZ σ)[19]? = some (a 19, .inr (2, [.ref (a 2), .ref (a 20), .ref (a 21)])) := rfl
theorem fx_g20 {a : Nat → Nat} {cI cZ : ClassId} {σ : St} {F : Nat → Int32} (h : σ.2 12 = F) : (fx a cI cZ σ)[20]? = some (a 20, .inl (cI, 8, .inl F)) := by subst h; rfl
theorem fx_s20 (a : Nat → Nat) (cI cZ : ClassId) (σ : St) (F : Nat → Int32) : (fx a cI cZ σ).set 20 (a 20, .inl (cI, 8, .inl F)) = fx a cI cZ (ar σ 12 F) := rfl
theorem fx_g21 {a : Nat → Nat} {cI cZ : ClassId} {σ : St} {F : Nat → Int32} (h : σ.2 13 = F) : (fx a cI cZ σ)[21]? = some (a 21, .inl (cI, 64, .inl F)) := by subst h; rfl
theorem fx_s21 (a : Nat → Nat) (cI cZ : ClassId) (σ : St) (F : Nat → Int32) : (fx a cI cZ σ).set 21 (a 21, .inl (cI, 64, .inl F)) = fx a cI cZ (ar σ 13 F) := rfl
theorem fx_c22 (a : Nat → Nat) (cI cZ : ClassId) (σ : St) : (fx a cI cZ σ)[22]? = some (a 22, .inr (2, [.ref (a 2), .ref (a 23), .ref (a 24)])) := rfl
theorem fx_g23 {a : Nat → Nat} {cI cZ : ClassId} {σ : St} {F : Nat → Int32} (h : σ.2 14 = F) : (fx a cI cZ σ)[23]? = some (a 23, .inl (cI, 8, .inl F)) := by subst h; rfl
theorem fx_s23 (a : Nat → Nat) (cI cZ : ClassId) (σ : St) (F : Nat → Int32) : (fx a cI cZ σ).set 23 (a 23, .inl (cI, 8, .inl F)) = fx a cI cZ (ar σ 14 F) := rfl
theorem fx_g24 {a : Nat → Nat} {cI cZ : ClassId} {σ : St} {F : Nat → Int32} (h : σ.2 15 = F) : (fx a cI cZ σ)[24]? = some (a 24, .inl (cI, 64, .inl F)) := by subst h; rfl
theorem fx_s24 (a : Nat → Nat) (cI cZ : ClassId) (σ : St) (F : Nat → Int32) : (fx a cI cZ σ).set 24 (a 24, .inl (cI, 64, .inl F)) = fx a cI cZ (ar σ 15 F) := rfl
