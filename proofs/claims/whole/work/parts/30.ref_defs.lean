abbrev mx (a : Nat → Nat) (cI cZ : ClassId) (σ : St) : va_W :=
  [(a 0, .inr (8, [.int (σ.1 22), .int (σ.1 0), .int (σ.1 1), .int (σ.1 2), .int (σ.1 3), .int (σ.1 4), .int (σ.1 5), .int (σ.1 16), .int (σ.1 17), .int (σ.1 6), .ref (a 1), .ref (a 2), .ref (a 3), .ref (a 4), .ref (a 5), .ref (a 6), .ref (a 7), .ref (a 8), .ref (a 9), .ref (a 10), .ref (a 11), .ref (a 12), .ref (a 13), .ref (a 14), .ref (a 15), .ref (a 16), .int (σ.1 18), .int (σ.1 19), .int (σ.1 20), .int (σ.1 15), .int (σ.1 21), .int (σ.1 9), .int (σ.1 10), .int (σ.1 11), .int (σ.1 12), .int (σ.1 13), .int (σ.1 14), .ref (a 17), .ref (a 18), .ref (a 19), .ref (a 20)])),
   (a 1, .inl (cI, 64, .inl (σ.2 0))),
   (a 2, .inl (cI, 64, .inl (σ.2 1))),
   (a 3, .inl (cI, 64, .inl (σ.2 2))),
   (a 4, .inl (cI, 64, .inl (σ.2 3))),
   (a 5, .inl (cI, 64, .inl (σ.2 4))),
   (a 6, .inl (cI, 8, .inl (σ.2 5))),
   (a 7, .inl (cZ, 8, .inl (σ.2 6))),
   (a 8, .inl (cZ, 8, .inl (σ.2 7))),
   (a 9, .inl (cI, 8, .inl (σ.2 16))),
   (a 10, .inl (cI, 8, .inl (σ.2 17))),
   (a 11, .inl (cI, 8, .inl (σ.2 18))),
   (a 12, .inl (cI, 8, .inl (σ.2 19))),
   (a 13, .inl (cI, 8, .inl (σ.2 12))),
   (a 14, .inl (cI, 64, .inl (σ.2 13))),
   (a 15, .inl (cI, 8, .inl (σ.2 14))),
   (a 16, .inl (cI, 64, .inl (σ.2 15))),
   (a 17, .inl (cI, 5, .inl (σ.2 11))),
   (a 18, .inl (cI, 400, .inl (σ.2 8))),
   (a 19, .inl (cI, 400, .inl (σ.2 9))),
   (a 20, .inl (cI, 400, .inl (σ.2 10)))]
theorem mx_c0 (a : Nat → Nat) (cI cZ : ClassId) (σ : St) : (mx a cI cZ σ)[0]? = some (a 0, .inr (8, [.int (σ.1 22), .int (σ.1 0), .int (σ.1 1), .int (σ.1 2), .int (σ.1 3), .int (σ.1 4), .int (σ.1 5), .int (σ.1 16), .int (σ.1 17), .int (σ.1 6), .ref (a 1), .ref (a 2), .ref (a 3), .ref (a 4), .ref (a 5), .ref (a 6), .ref (a 7), .ref (a 8), .ref (a 9), .ref (a 10), .ref (a 11), .ref (a 12), .ref (a 13), .ref (a 14), .ref (a 15), .ref (a 16), .int (σ.1 18), .int (σ.1 19), .int (σ.1 20), .int (σ.1 15), .int (σ.1 21), .int (σ.1 9), .int (σ.1 10), .int (σ.1 11), .int (σ.1 12), .int (σ.1 13), .int (σ.1 14), .ref (a 17), .ref (a 18), .ref (a 19), .ref (a 20)])) := rfl
theorem mx_p0_0 (a : Nat → Nat) (cI cZ : ClassId) (σ : St) (x : Int32) : (mx a cI cZ σ).set 0 (a 0, .inr (8, [.int (σ.1 22), .int (σ.1 0), .int (σ.1 1), .int (σ.1 2), .int (σ.1 3), .int (σ.1 4), .int (σ.1 5), .int (σ.1 16), .int (σ.1 17), .int (σ.1 6), .ref (a 1), .ref (a 2), .ref (a 3), .ref (a 4), .ref (a 5), .ref (a 6), .ref (a 7), .ref (a 8), .ref (a 9), .ref (a 10), .ref (a 11), .ref (a 12), .ref (a 13), .ref (a 14), .ref (a 15), .ref (a 16), .int (σ.1 18), .int (σ.1 19), .int (σ.1 20), .int (σ.1 15), .int (σ.1 21), .int (σ.1 9), .int (σ.1 10), .int (σ.1 11), .int (σ.1 12), .int (σ.1 13), .int (σ.1 14), .ref (a 17), .ref (a 18), .ref (a 19), .ref (a 20)].set 0 (.int x))) = mx a cI cZ (sg σ 22 x) := rfl
theorem mx_p0_1 (a : Nat → Nat) (cI cZ : ClassId) (σ : St) (x : Int32) : (mx a cI cZ σ).set 0 (a 0, .inr (8, [.int (σ.1 22), .int (σ.1 0), .int (σ.1 1), .int (σ.1 2), .int (σ.1 3), .int (σ.1 4), .int (σ.1 5), .int (σ.1 16), .int (σ.1 17), .int (σ.1 6), .ref (a 1), .ref (a 2), .ref (a 3), .ref (a 4), .ref (a 5), .ref (a 6), .ref (a 7), .ref (a 8), .ref (a 9), .ref (a 10), .ref (a 11), .ref (a 12), .ref (a 13), .ref (a 14), .ref (a 15), .ref (a 16), .int (σ.1 18), .int (σ.1 19), .int (σ.1 20), .int (σ.1 15), .int (σ.1 21), .int (σ.1 9), .int (σ.1 10), .int (σ.1 11), .int (σ.1 12), .int (σ.1 13), .int (σ.1 14), .ref (a 17), .ref (a 18), .ref (a 19), .ref (a 20)].set 1 (.int x))) = mx a cI cZ (sg σ 0 x) := rfl
theorem mx_p0_2 (a : Nat → Nat) (cI cZ : ClassId) (σ : St) (x : Int32) : (mx a cI cZ σ).set 0 (a 0, .inr (8, [.int (σ.1 22), .int (σ.1 0), .int (σ.1 1), .int (σ.1 2), .int (σ.1 3), .int (σ.1 4), .int (σ.1 5), .int (σ.1 16), .int (σ.1 17), .int (σ.1 6), .ref (a 1), .ref (a 2), .ref (a 3), .ref (a 4), .ref (a 5), .ref (a 6), .ref (a 7), .ref (a 8), .ref (a 9), .ref (a 10), .ref (a 11), .ref (a 12), .ref (a 13), .ref (a 14), .ref (a 15), .ref (a 16), .int (σ.1 18), .int (σ.1 19), .int (σ.1 20), .int (σ.1 15), .int (σ.1 21), .int (σ.1 9), .int (σ.1 10), .int (σ.1 11), .int (σ.1 12), .int (σ.1 13), .int (σ.1 14), .ref (a 17), .ref (a 18), .ref (a 19), .ref (a 20)].set 2 (.int x))) = mx a cI cZ (sg σ 1 x) := rfl
theorem mx_p0_3 (a : Nat → Nat) (cI cZ : ClassId) (σ : St) (x : Int32) : (mx a cI cZ σ).set 0 (a 0, .inr (8, [.int (σ.1 22), .int (σ.1 0), .int (σ.1 1), .int (σ.1 2), .int (σ.1 3), .int (σ.1 4), .int (σ.1 5), .int (σ.1 16), .int (σ.1 17), .int (σ.1 6), .ref (a 1), .ref (a 2), .ref (a 3), .ref (a 4), .ref (a 5), .ref (a 6), .ref (a 7), .ref (a 8), .ref (a 9), .ref (a 10), .ref (a 11), .ref (a 12), .ref (a 13), .ref (a 14), .ref (a 15), .ref (a 16), .int (σ.1 18), .int (σ.1 19), .int (σ.1 20), .int (σ.1 15), .int (σ.1 21), .int (σ.1 9), .int (σ.1 10), .int (σ.1 11), .int (σ.1 12), .int (σ.1 13), .int (σ.1 14), .ref (a 17), .ref (a 18), .ref (a 19), .ref (a 20)].set 3 (.int x))) = mx a cI cZ (sg σ 2 x) := rfl
theorem mx_p0_4 (a : Nat → Nat) (cI cZ : ClassId) (σ : St) (x : Int32) : (mx a cI cZ σ).set 0 (a 0, .inr (8, [.int (σ.1 22), .int (σ.1 0), .int (σ.1 1), .int (σ.1 2), .int (σ.1 3), .int (σ.1 4), .int (σ.1 5), .int (σ.1 16), .int (σ.1 17), .int (σ.1 6), .ref (a 1), .ref (a 2), .ref (a 3), .ref (a 4), .ref (a 5), .ref (a 6), .ref (a 7), .ref (a 8), .ref (a 9), .ref (a 10), .ref (a 11), .ref (a 12), .ref (a 13), .ref (a 14), .ref (a 15), .ref (a 16), .int (σ.1 18), .int (σ.1 19), .int (σ.1 20), .int (σ.1 15), .int (σ.1 21), .int (σ.1 9), .int (σ.1 10), .int (σ.1 11), .int (σ.1 12), .int (σ.1 13), .int (σ.1 14), .ref (a 17), .ref (a 18), .ref (a 19), .ref (a 20)].set 4 (.int x))) = mx a cI cZ (sg σ 3 x) := rfl
theorem mx_p0_5 (a : Nat → Nat) (cI cZ : ClassId) (σ : St) (x : Int32) : (mx a cI cZ σ).set 0 (a 0, .inr (8, [.int (σ.1 22), .int (σ.1 0), .int (σ.1 1), .int (σ.1 2), .int (σ.1 3), .int (σ.1 4), .int (σ.1 5), .int (σ.1 16), .int (σ.1 17), .int (σ.1 6), .ref (a 1), .ref (a 2), .ref (a 3), .ref (a 4), .ref (a 5), .ref (a 6), .ref (a 7), .ref (a 8), .ref (a 9), .ref (a 10), .ref (a 11), .ref (a 12), .ref (a 13), .ref (a 14), .ref (a 15), .ref (a 16), .int (σ.1 18), .int (σ.1 19), .int (σ.1 20), .int (σ.1 15), .int (σ.1 21), .int (σ.1 9), .int (σ.1 10), .int (σ.1 11), .int (σ.1 12), .int (σ.1 13), .int (σ.1 14), .ref (a 17), .ref (a 18), .ref (a 19), .ref (a 20)].set 5 (.int x))) = mx a cI cZ (sg σ 4 x) := rfl
theorem mx_p0_6 (a : Nat → Nat) (cI cZ : ClassId) (σ : St) (x : Int32) : (mx a cI cZ σ).set 0 (a 0, .inr (8, [.int (σ.1 22), .int (σ.1 0), .int (σ.1 1), .int (σ.1 2), .int (σ.1 3), .int (σ.1 4), .int (σ.1 5), .int (σ.1 16), .int (σ.1 17), .int (σ.1 6), .ref (a 1), .ref (a 2), .ref (a 3), .ref (a 4), .ref (a 5), .ref (a 6), .ref (a 7), .ref (a 8), .ref (a 9), .ref (a 10), .ref (a 11), .ref (a 12), .ref (a 13), .ref (a 14), .ref (a 15), .ref (a 16), .int (σ.1 18), .int (σ.1 19), .int (σ.1 20), .int (σ.1 15), .int (σ.1 21), .int (σ.1 9), .int (σ.1 10), .int (σ.1 11), .int (σ.1 12), .int (σ.1 13), .int (σ.1 14), .ref (a 17), .ref (a 18), .ref (a 19), .ref (a 20)].set 6 (.int x))) = mx a cI cZ (sg σ 5 x) := rfl
theorem mx_p0_7 (a : Nat → Nat) (cI cZ : ClassId) (σ : St) (x : Int32) : (mx a cI cZ σ).set 0 (a 0, .inr (8, [.int (σ.1 22), .int (σ.1 0), .int (σ.1 1), .int (σ.1 2), .int (σ.1 3), .int (σ.1 4), .int (σ.1 5), .int (σ.1 16), .int (σ.1 17), .int (σ.1 6), .ref (a 1), .ref (a 2), .ref (a 3), .ref (a 4), .ref (a 5), .ref (a 6), .ref (a 7), .ref (a 8), .ref (a 9), .ref (a 10), .ref (a 11), .ref (a 12), .ref (a 13), .ref (a 14), .ref (a 15), .ref (a 16), .int (σ.1 18), .int (σ.1 19), .int (σ.1 20), .int (σ.1 15), .int (σ.1 21), .int (σ.1 9), .int (σ.1 10), .int (σ.1 11), .int (σ.1 12), .int (σ.1 13), .int (σ.1 14), .ref (a 17), .ref (a 18), .ref (a 19), .ref (a 20)].set 7 (.int x))) = mx a cI cZ (sg σ 16 x) := rfl
theorem mx_p0_8 (a : Nat → Nat) (cI cZ : ClassId) (σ : St) (x : Int32) : (mx a cI cZ σ).set 0 (a 0, .inr (8, [.int (σ.1 22), .int (σ.1 0), .int (σ.1 1), .int (σ.1 2), .int (σ.1 3), .int (σ.1 4), .int (σ.1 5), .int (σ.1 16), .int (σ.1 17), .int (σ.1 6), .ref (a 1), .ref (a 2), .ref (a 3), .ref (a 4), .ref (a 5), .ref (a 6), .ref (a 7), .ref (a 8), .ref (a 9), .ref (a 10), .ref (a 11), .ref (a 12), .ref (a 13), .ref (a 14), .ref (a 15), .ref (a 16), .int (σ.1 18), .int (σ.1 19), .int (σ.1 20), .int (σ.1 15), .int (σ.1 21), .int (σ.1 9), .int (σ.1 10), .int (σ.1 11), .int (σ.1 12), .int (σ.1 13), .int (σ.1 14), .ref (a 17), .ref (a 18), .ref (a 19), .ref (a 20)].set 8 (.int x))) = mx a cI cZ (sg σ 17 x) := rfl
theorem mx_p0_9 (a : Nat → Nat) (cI cZ : ClassId) (σ : St) (x : Int32) : (mx a cI cZ σ).set 0 (a 0, .inr (8, [.int (σ.1 22), .int (σ.1 0), .int (σ.1 1), .int (σ.1 2), .int (σ.1 3), .int (σ.1 4), .int (σ.1 5), .int (σ.1 16), .int (σ.1 17), .int (σ.1 6), .ref (a 1), .ref (a 2), .ref (a 3), .ref (a 4), .ref (a 5), .ref (a 6), .ref (a 7), .ref (a 8), .ref (a 9), .ref (a 10), .ref (a 11), .ref (a 12), .ref (a 13), .ref (a 14), .ref (a 15), .ref (a 16), .int (σ.1 18), .int (σ.1 19), .int (σ.1 20), .int (σ.1 15), .int (σ.1 21), .int (σ.1 9), .int (σ.1 10), .int (σ.1 11), .int (σ.1 12), .int (σ.1 13), .int (σ.1 14), .ref (a 17), .ref (a 18), .ref (a 19), .ref (a 20)].set 9 (.int x))) = mx a cI cZ (sg σ 6 x) := rfl
theorem mx_p0_26 (a : Nat → Nat) (cI cZ : ClassId) (σ : St) (x : Int32) : (mx a cI cZ σ).set 0 (a 0, .inr (8, [.int (σ.1 22), .int (σ.1 0), .int (σ.1 1), .int (σ.1 2), .int (σ.1 3), .int (σ.1 4), .int (σ.1 5), .int (σ.1 16), .int (σ.1 17), .int (σ.1 6), .ref (a 1), .ref (a 2), .ref (a 3), .ref (a 4), .ref (a 5), .ref (a 6), .ref (a 7), .ref (a 8), .ref (a 9), .ref (a 10), .ref (a 11), .ref (a 12), .ref (a 13), .ref (a 14), .ref (a 15), .ref (a 16), .int (σ.1 18), .int (σ.1 19), .int (σ.1 20), .int (σ.1 15), .int (σ.1 21), .int (σ.1 9), .int (σ.1 10), .int (σ.1 11), .int (σ.1 12), .int (σ.1 13), .int (σ.1 14), .ref (a 17), .ref (a 18), .ref (a 19), .ref (a 20)].set 26 (.int x))) = mx a cI cZ (sg σ 18 x) := rfl
theorem mx_p0_27 (a : Nat → Nat) (cI cZ : ClassId) (σ : St) (x : Int32) : (mx a cI cZ σ).set 0 (a 0, .inr (8, [.int (σ.1 22), .int (σ.1 0), .int (σ.1 1), .int (σ.1 2), .int (σ.1 3), .int (σ.1 4), .int (σ.1 5), .int (σ.1 16), .int (σ.1 17), .int (σ.1 6), .ref (a 1), .ref (a 2), .ref (a 3), .ref (a 4), .ref (a 5), .ref (a 6), .ref (a 7), .ref (a 8), .ref (a 9), .ref (a 10), .ref (a 11), .ref (a 12), .ref (a 13), .ref (a 14), .ref (a 15), .ref (a 16), .int (σ.1 18), .int (σ.1 19), .int (σ.1 20), .int (σ.1 15), .int (σ.1 21), .int (σ.1 9), .int (σ.1 10), .int (σ.1 11), .int (σ.1 12), .int (σ.1 13), .int (σ.1 14), .ref (a 17), .ref (a 18), .ref (a 19), .ref (a 20)].set 27 (.int x))) = mx a cI cZ (sg σ 19 x) := rfl
theorem mx_p0_28 (a : Nat → Nat) (cI cZ : ClassId) (σ : St) (x : Int32) : (mx a cI cZ σ).set 0 (a 0, .inr (8, [.int (σ.1 22), .int (σ.1 0), .int (σ.1 1), .int (σ.1 2), .int (σ.1 3), .int (σ.1 4), .int (σ.1 5), .int (σ.1 16), .int (σ.1 17), .int (σ.1 6), .ref (a 1), .ref (a 2), .ref (a 3), .ref (a 4), .ref (a 5), .ref (a 6), .ref (a 7), .ref (a 8), .ref (a 9), .ref (a 10), .ref (a 11), .ref (a 12), .ref (a 13), .ref (a 14), .ref (a 15), .ref (a 16), .int (σ.1 18), .int (σ.1 19), .int (σ.1 20), .int (σ.1 15), .int (σ.1 21), .int (σ.1 9), .int (σ.1 10), .int (σ.1 11), .int (σ.1 12), .int (σ.1 13), .int (σ.1 14), .ref (a 17), .ref (a 18), .ref (a 19), .ref (a 20)].set 28 (.int x))) = mx a cI cZ (sg σ 20 x) := rfl
theorem mx_p0_29 (a : Nat → Nat) (cI cZ : ClassId) (σ : St) (x : Int32) : (mx a cI cZ σ).set 0 (a 0, .inr (8, [.int (σ.1 22), .int (σ.1 0), .int (σ.1 1), .int (σ.1 2), .int (σ.1 3), .int (σ.1 4), .int (σ.1 5), .int (σ.1 16), .int (σ.1 17), .int (σ.1 6), .ref (a 1), .ref (a 2), .ref (a 3), .ref (a 4), .ref (a 5), .ref (a 6), .ref (a 7), .ref (a 8), .ref (a 9), .ref (a 10), .ref (a 11), .ref (a 12), .ref (a 13), .ref (a 14), .ref (a 15), .ref (a 16), .int (σ.1 18), .int (σ.1 19), .int (σ.1 20), .int (σ.1 15), .int (σ.1 21), .int (σ.1 9), .int (σ.1 10), .int (σ.1 11), .int (σ.1 12), .int (σ.1 13), .int (σ.1 14), .ref (a 17), .ref (a 18), .ref (a 19), .ref (a 20)].set 29 (.int x))) = mx a cI cZ (sg σ 15 x) := rfl
theorem mx_p0_30 (a : Nat → Nat) (cI cZ : ClassId) (σ : St) (x : Int32) : (mx a cI cZ σ).set 0 (a 0, .inr (8, [.int (σ.1 22), .int (σ.1 0), .int (σ.1 1), .int (σ.1 2), .int (σ.1 3), .int (σ.1 4), .int (σ.1 5), .int (σ.1 16), .int (σ.1 17), .int (σ.1 6), .ref (a 1), .ref (a 2), .ref (a 3), .ref (a 4), .ref (a 5), .ref (a 6), .ref (a 7), .ref (a 8), .ref (a 9), .ref (a 10), .ref (a 11), .ref (a 12), .ref (a 13), .ref (a 14), .ref (a 15), .ref (a 16), .int (σ.1 18), .int (σ.1 19), .int (σ.1 20), .int (σ.1 15), .int (σ.1 21), .int (σ.1 9), .int (σ.1 10), .int (σ.1 11), .int (σ.1 12), .int (σ.1 13), .int (σ.1 14), .ref (a 17), .ref (a 18), .ref (a 19), .ref (a 20)].set 30 (.int x))) = mx a cI cZ (sg σ 21 x) := rfl
theorem mx_p0_31 (a : Nat → Nat) (cI cZ : ClassId) (σ : St) (x : Int32) : (mx a cI cZ σ).set 0 (a 0, .inr (8, [.int (σ.1 22), .int (σ.1 0), .int (σ.1 1), .int (σ.1 2), .int (σ.1 3), .int (σ.1 4), .int (σ.1 5), .int (σ.1 16), .int (σ.1 17), .int (σ.1 6), .ref (a 1), .ref (a 2), .ref (a 3), .ref (a 4), .ref (a 5), .ref (a 6), .ref (a 7), .ref (a 8), .ref (a 9), .ref (a 10), .ref (a 11), .ref (a 12), .ref (a 13), .ref (a 14), .ref (a 15), .ref (a 16), .int (σ.1 18), .int (σ.1 19), .int (σ.1 20), .int (σ.1 15), .int (σ.1 21), .int (σ.1 9), .int (σ.1 10), .int (σ.1 11), .int (σ.1 12), .int (σ.1 13), .int (σ.1 14), .ref (a 17), .ref (a 18), .ref (a 19), .ref (a 20)].set 31 (.int x))) = mx a cI cZ (sg σ 9 x) := rfl
theorem mx_p0_32 (a : Nat → Nat) (cI cZ : ClassId) (σ : St) (x : Int32) : (mx a cI cZ σ).set 0 (a 0, .inr (8, [.int (σ.1 22), .int (σ.1 0), .int (σ.1 1), .int (σ.1 2), .int (σ.1 3), .int (σ.1 4), .int (σ.1 5), .int (σ.1 16), .int (σ.1 17), .int (σ.1 6), .ref (a 1), .ref (a 2), .ref (a 3), .ref (a 4), .ref (a 5), .ref (a 6), .ref (a 7), .ref (a 8), .ref (a 9), .ref (a 10), .ref (a 11), .ref (a 12), .ref (a 13), .ref (a 14), .ref (a 15), .ref (a 16), .int (σ.1 18), .int (σ.1 19), .int (σ.1 20), .int (σ.1 15), .int (σ.1 21), .int (σ.1 9), .int (σ.1 10), .int (σ.1 11), .int (σ.1 12), .int (σ.1 13), .int (σ.1 14), .ref (a 17), .ref (a 18), .ref (a 19), .ref (a 20)].set 32 (.int x))) = mx a cI cZ (sg σ 10 x) := rfl
theorem mx_p0_33 (a : Nat → Nat) (cI cZ : ClassId) (σ : St) (x : Int32) : (mx a cI cZ σ).set 0 (a 0, .inr (8, [.int (σ.1 22), .int (σ.1 0), .int (σ.1 1), .int (σ.1 2), .int (σ.1 3), .int (σ.1 4), .int (σ.1 5), .int (σ.1 16), .int (σ.1 17), .int (σ.1 6), .ref (a 1), .ref (a 2), .ref (a 3), .ref (a 4), .ref (a 5), .ref (a 6), .ref (a 7), .ref (a 8), .ref (a 9), .ref (a 10), .ref (a 11), .ref (a 12), .ref (a 13), .ref (a 14), .ref (a 15), .ref (a 16), .int (σ.1 18), .int (σ.1 19), .int (σ.1 20), .int (σ.1 15), .int (σ.1 21), .int (σ.1 9), .int (σ.1 10), .int (σ.1 11), .int (σ.1 12), .int (σ.1 13), .int (σ.1 14), .ref (a 17), .ref (a 18), .ref (a 19), .ref (a 20)].set 33 (.int x))) = mx a cI cZ (sg σ 11 x) := rfl
theorem mx_p0_34 (a : Nat → Nat) (cI cZ : ClassId) (σ : St) (x : Int32) : (mx a cI cZ σ).set 0 (a 0, .inr (8, [.int (σ.1 22), .int (σ.1 0), .int (σ.1 1), .int (σ.1 2), .int (σ.1 3), .int (σ.1 4), .int (σ.1 5), .int (σ.1 16), .int (σ.1 17), .int (σ.1 6), .ref (a 1), .ref (a 2), .ref (a 3), .ref (a 4), .ref (a 5), .ref (a 6), .ref (a 7), .ref (a 8), .ref (a 9), .ref (a 10), .ref (a 11), .ref (a 12), .ref (a 13), .ref (a 14), .ref (a 15), .ref (a 16), .int (σ.1 18), .int (σ.1 19), .int (σ.1 20), .int (σ.1 15), .int (σ.1 21), .int (σ.1 9), .int (σ.1 10), .int (σ.1 11), .int (σ.1 12), .int (σ.1 13), .int (σ.1 14), .ref (a 17), .ref (a 18), .ref (a 19), .ref (a 20)].set 34 (.int x))) = mx a cI cZ (sg σ 12 x) := rfl
theorem mx_p0_35 (a : Nat → Nat) (cI cZ : ClassId) (σ : St) (x : Int32) : (mx a cI cZ σ).set 0 (a 0, .inr (8, [.int (σ.1 22), .int (σ.1 0), .int (σ.1 1), .int (σ.1 2), .int (σ.1 3), .int (σ.1 4), .int (σ.1 5), .int (σ.1 16), .int (σ.1 17), .int (σ.1 6), .ref (a 1), .ref (a 2), .ref (a 3), .ref (a 4), .ref (a 5), .ref (a 6), .ref (a 7), .ref (a 8), .ref (a 9), .ref (a 10), .ref (a 11), .ref (a 12), .ref (a 13), .ref (a 14), .ref (a 15), .ref (a 16), .int (σ.1 18), .int (σ.1 19), .int (σ.1 20), .int (σ.1 15), .int (σ.1 21), .int (σ.1 9), .int (σ.1 10), .int (σ.1 11), .int (σ.1 12), .int (σ.1 13), .int (σ.1 14), .ref (a 17), .ref (a 18), .ref (a 19), .ref (a 20)].set 35 (.int x))) = mx a cI cZ (sg σ 13 x) := rfl
theorem mx_p0_36 (a : Nat → Nat) (cI cZ : ClassId) (σ : St) (x : Int32) : (mx a cI cZ σ).set 0 (a 0, .inr (8, [.int (σ.1 22), .int (σ.1 0), .int (σ.1 1), .int (σ.1 2), .int (σ.1 3), .int (σ.1 4), .int (σ.1 5), .int (σ.1 16), .int (σ.1 17), .int (σ.1 6), .ref (a 1), .ref (a 2), .ref (a 3), .ref (a 4), .ref (a 5), .ref (a 6), .ref (a 7), .ref (a 8), .ref (a 9), .ref (a 10), .ref (a 11), .ref (a 12), .ref (a 13), .ref (a 14), .ref (a 15), .ref (a 16), .int (σ.1 18), .int (σ.1 19), .int (σ.1 20), .int (σ.1 15), .int (σ.1 21), .int (σ.1 9), .int (σ.1 10), .int (σ.1 11), .int (σ.1 12), .int (σ.1 13), .int (σ.1 14), .ref (a 17), .ref (a 18), .ref (a 19), .ref (a 20)].set 36 (.int x))) = mx a cI cZ (sg σ 14 x) := rfl
theorem mx_g1 {a : Nat → Nat} {cI cZ : ClassId} {σ : St} {F : Nat → Int32} (h : σ.2 0 = F) : (mx a cI cZ σ)[1]? = some (a 1, .inl (cI, 64, .inl F)) := by subst h; rfl
theorem mx_s1 (a : Nat → Nat) (cI cZ : ClassId) (σ : St) (F : Nat → Int32) : (mx a cI cZ σ).set 1 (a 1, .inl (cI, 64, .inl F)) = mx a cI cZ (ar σ 0 F) := rfl
theorem mx_g2 {a : Nat → Nat} {cI cZ : ClassId} {σ : St} {F : Nat → Int32} (h : σ.2 1 = F) : (mx a cI cZ σ)[2]? = some (a 2, .inl (cI, 64, .inl F)) := by subst h; rfl
theorem mx_s2 (a : Nat → Nat) (cI cZ : ClassId) (σ : St) (F : Nat → Int32) : (mx a cI cZ σ).set 2 (a 2, .inl (cI, 64, .inl F)) = mx a cI cZ (ar σ 1 F) := rfl
theorem mx_g3 {a : Nat → Nat} {cI cZ : ClassId} {σ : St} {F : Nat → Int32} (h : σ.2 2 = F) : (mx a cI cZ σ)[3]? = some (a 3, .inl (cI, 64, .inl F)) := by subst h; rfl
theorem mx_s3 (a : Nat → Nat) (cI cZ : ClassId) (σ : St) (F : Nat → Int32) : (mx a cI cZ σ).set 3 (a 3, .inl (cI, 64, .inl F)) = mx a cI cZ (ar σ 2 F) := rfl
theorem mx_g4 {a : Nat → Nat} {cI cZ : ClassId} {σ : St} {F : Nat → Int32} (h : σ.2 3 = F) : (mx a cI cZ σ)[4]? = some (a 4, .inl (cI, 64, .inl F)) := by subst h; rfl
theorem mx_s4 (a : Nat → Nat) (cI cZ : ClassId) (σ : St) (F : Nat → Int32) : (mx a cI cZ σ).set 4 (a 4, .inl (cI, 64, .inl F)) = mx a cI cZ (ar σ 3 F) := rfl
theorem mx_g5 {a : Nat → Nat} {cI cZ : ClassId} {σ : St} {F : Nat → Int32} (h : σ.2 4 = F) : (mx a cI cZ σ)[5]? = some (a 5, .inl (cI, 64, .inl F)) := by subst h; rfl
theorem mx_s5 (a : Nat → Nat) (cI cZ : ClassId) (σ : St) (F : Nat → Int32) : (mx a cI cZ σ).set 5 (a 5, .inl (cI, 64, .inl F)) = mx a cI cZ (ar σ 4 F) := rfl
theorem mx_g6 {a : Nat → Nat} {cI cZ : ClassId} {σ : St} {F : Nat → Int32} (h : σ.2 5 = F) : (mx a cI cZ σ)[6]? = some (a 6, .inl (cI, 8, .inl F)) := by subst h; rfl
theorem mx_s6 (a : Nat → Nat) (cI cZ : ClassId) (σ : St) (F : Nat → Int32) : (mx a cI cZ σ).set 6 (a 6, .inl (cI, 8, .inl F)) = mx a cI cZ (ar σ 5 F) := rfl
theorem mx_g7 {a : Nat → Nat} {cI cZ : ClassId} {σ : St} {F : Nat → Int32} (h : σ.2 6 = F) : (mx a cI cZ σ)[7]? = some (a 7, .inl (cZ, 8, .inl F)) := by subst h; rfl
theorem mx_s7 (a : Nat → Nat) (cI cZ : ClassId) (σ : St) (F : Nat → Int32) : (mx a cI cZ σ).set 7 (a 7, .inl (cZ, 8, .inl F)) = mx a cI cZ (ar σ 6 F) := rfl
theorem mx_g8 {a : Nat → Nat} {cI cZ : ClassId} {σ : St} {F : Nat → Int32} (h : σ.2 7 = F) : (mx a cI cZ σ)[8]? = some (a 8, .inl (cZ, 8, .inl F)) := by subst h; rfl
theorem mx_s8 (a : Nat → Nat) (cI cZ : ClassId) (σ : St) (F : Nat → Int32) : (mx a cI cZ σ).set 8 (a 8, .inl (cZ, 8, .inl F)) = mx a cI cZ (ar σ 7 F) := rfl
theorem mx_g9 {a : Nat → Nat} {cI cZ : ClassId} {σ : St} {F : Nat → Int32} (h : σ.2 16 = F) : (mx a cI cZ σ)[9]? = some (a 9, .inl (cI, 8, .inl F)) := by subst h; rfl
theorem mx_s9 (a : Nat → Nat) (cI cZ : ClassId) (σ : St) (F : Nat → Int32) : (mx a cI cZ σ).set 9 (a 9, .inl (cI, 8, .inl F)) = mx a cI cZ (ar σ 16 F) := rfl
theorem mx_g10 {a : Nat → Nat} {cI cZ : ClassId} {σ : St} {F : Nat → Int32} (h : σ.2 17 = F) : (mx a cI cZ σ)[10]? = some (a 10, .inl (cI, 8, .inl F)) := by subst h; rfl
theorem mx_s10 (a : Nat → Nat) (cI cZ : ClassId) (σ : St) (F : Nat → Int32) : (mx a cI cZ σ).set 10 (a 10, .inl (cI, 8, .inl F)) = mx a cI cZ (ar σ 17 F) := rfl
theorem mx_g11 {a : Nat → Nat} {cI cZ : ClassId} {σ : St} {F : Nat → Int32} (h : σ.2 18 = F) : (mx a cI cZ σ)[11]? = some (a 11, .inl (cI, 8, .inl F)) := by subst h; rfl
theorem mx_s11 (a : Nat → Nat) (cI cZ : ClassId) (σ : St) (F : Nat → Int32) : (mx a cI cZ σ).set 11 (a 11, .inl (cI, 8, .inl F)) = mx a cI cZ (ar σ 18 F) := rfl
theorem mx_g12 {a : Nat → Nat} {cI cZ : ClassId} {σ : St} {F : Nat → Int32} (h : σ.2 19 = F) : (mx a cI cZ σ)[12]? = some (a 12, .inl (cI, 8, .inl F)) := by subst h; rfl
theorem mx_s12 (a : Nat → Nat) (cI cZ : ClassId) (σ : St) (F : Nat → Int32) : (mx a cI cZ σ).set 12 (a 12, .inl (cI, 8, .inl F)) = mx a cI cZ (ar σ 19 F) := rfl
theorem mx_g13 {a : Nat → Nat} {cI cZ : ClassId} {σ : St} {F : Nat → Int32} (h : σ.2 12 = F) : (mx a cI cZ σ)[13]? = some (a 13, .inl (cI, 8, .inl F)) := by subst h; rfl
theorem mx_s13 (a : Nat → Nat) (cI cZ : ClassId) (σ : St) (F : Nat → Int32) : (mx a cI cZ σ).set 13 (a 13, .inl (cI, 8, .inl F)) = mx a cI cZ (ar σ 12 F) := rfl
theorem mx_g14 {a : Nat → Nat} {cI cZ : ClassId} {σ : St} {F : Nat → Int32} (h : σ.2 13 = F) : (mx a cI cZ σ)[14]? = some (a 14, .inl (cI, 64, .inl F)) := by subst h; rfl
theorem mx_s14 (a : Nat → Nat) (cI cZ : ClassId) (σ : St) (F : Nat → Int32) : (mx a cI cZ σ).set 14 (a 14, .inl (cI, 64, .inl F)) = mx a cI cZ (ar σ 13 F) := rfl
theorem mx_g15 {a : Nat → Nat} {cI cZ : ClassId} {σ : St} {F : Nat → Int32} (h : σ.2 14 = F) : (mx a cI cZ σ)[15]? = some (a 15, .inl (cI, 8, .inl F)) := by subst h; rfl
theorem mx_s15 (a : Nat → Nat) (cI cZ : ClassId) (σ : St) (F : Nat → Int32) : (mx a cI cZ σ).set 15 (a 15, .inl (cI, 8, .inl F)) = mx a cI cZ (ar σ 14 F) := rfl
theorem mx_g16 {a : Nat → Nat} {cI cZ : ClassId} {σ : St} {F : Nat → Int32} (h : σ.2 15 = F) : (mx a cI cZ σ)[16]? = some (a 16, .inl (cI, 64, .inl F)) := by subst h; rfl
theorem mx_s16 (a : Nat → Nat) (cI cZ : ClassId) (σ : St) (F : Nat → Int32) : (mx a cI cZ σ).set 16 (a 16, .inl (cI, 64, .inl F)) = mx a cI cZ (ar σ 15 F) := rfl
theorem mx_g17 {a : Nat → Nat} {cI cZ : ClassId} {σ : St} {F : Nat → Int32} (h : σ.2 11 = F) : (mx a cI cZ σ)[17]? = some (a 17, .inl (cI, 5, .inl F)) := by subst h; rfl
theorem mx_s17 (a : Nat → Nat) (cI cZ : ClassId) (σ : St) (F : Nat → Int32) : (mx a cI cZ σ).set 17 (a 17, .inl (cI, 5, .inl F)) = mx a cI cZ (ar σ 11 F) := rfl
theorem mx_g18 {a : Nat → Nat} {cI cZ : ClassId} {σ : St} {F : Nat → Int32} (h : σ.2 8 = F) : (mx a cI cZ σ)[18]? = some (a 18, .inl (cI, 400, .inl F)) := by subst h; rfl
theorem mx_s18 (a : Nat → Nat) (cI cZ : ClassId) (σ : St) (F : Nat → Int32) : (mx a cI cZ σ).set 18 (a 18, .inl (cI, 400, .inl F)) = mx a cI cZ (ar σ 8 F) := rfl
theorem mx_g19 {a : Nat → Nat} {cI cZ : ClassId} {σ : St} {F : Nat → Int32} (h : σ.2 9 = F) : (mx a cI cZ σ)[19]? = some (a 19, .inl (cI, 400, .inl F)) := by subst h; rfl
theorem mx_s19 (a : Nat → Nat) (cI cZ : ClassId) (σ : St) (F : Nat → Int32) : (mx a cI cZ σ).set 19 (a 19, .inl (cI, 400, .inl F)) = mx a cI cZ (ar σ 9 F) := rfl
theorem mx_g20 {a : Nat → Nat} {cI cZ : ClassId} {σ : St} {F : Nat → Int32} (h : σ.2 10 = F) : (mx a cI cZ σ)[20]? = some (a 20, .inl (cI, 400, .inl F)) := by subst h; rfl
theorem mx_s20 (a : Nat → Nat) (cI cZ : ClassId) (σ : St) (F : Nat → Int32) : (mx a cI cZ σ).set 20 (a 20, .inl (cI, 400, .inl F)) = mx a cI cZ (ar σ 10 F) := rfl
def fX8_modulo (x1 x2 : Int32) : Int32 := (((x1 - x1 / x2 * x2) + x2) - ((x1 - x1 / x2 * x2) + x2) / x2 * x2)
def fX8_within (x1 x2 x3 : Int32) : Int32 := (if x1 < x2 then 0 else (if x3 < x1 then 0 else 1))
def fX8_isRegister (x1 : Int32) : Int32 := (let q1 := (fX8_within x1 0 7); q1)
def fX8_thrown (σ : St) : Int32 := (σ.1 22)
def fX8_fail (σ : St) (x1 : Int32) : Int32 × St := (0, (sg σ 22 x1))
def gfX8_begin2 : Nat → St → Int32 → St
  | 0, σ, x1 => σ
  | n + 1, σ, x1 => (if 5 ≤ x1 then σ else gfX8_begin2 n (ar σ 11 (upd (σ.2 11) x1.toNatClampNeg 0)) (x1 + 1))
def gfX8_begin1 : Nat → St → Int32 → St
  | 0, σ, x1 => σ
  | n + 1, σ, x1 => (if 64 ≤ x1 then gfX8_begin2 6 σ 0 else gfX8_begin1 n (ar (ar σ 13 (upd (σ.2 13) x1.toNatClampNeg 0)) 15 (upd (σ.2 15) x1.toNatClampNeg 0)) (x1 + 1))
def gfX8_begin0 : Nat → St → Int32 → St
  | 0, σ, x1 => σ
  | n + 1, σ, x1 => (if 8 ≤ x1 then gfX8_begin1 65 σ 0 else gfX8_begin0 n (ar (ar (ar σ 5 (upd (σ.2 5) x1.toNatClampNeg (-1))) 12 (upd (σ.2 12) x1.toNatClampNeg 0)) 14 (upd (σ.2 14) x1.toNatClampNeg 0)) (x1 + 1))
def fX8_begin (σ : St) : St := gfX8_begin0 9 (sg (sg (sg (sg (sg (sg (sg (sg (sg (sg (sg σ 6 0) 18 0) 19 0) 20 0) 15 0) 9 0) 10 0) 11 0) 12 0) 13 0) 14 0) 0
def fX8_word (σ : St) (x1 x2 x3 x4 x5 : Int32) : Int32 × St := (let q1 := (fX8_within x1 0 7); (if q1 = 0 then (let q3 := (fX8_fail (sg σ 22 0) 1); (q3.1, q3.2)) else (let q4 := (fX8_isRegister x2); (if q4 = 0 then (let q6 := (fX8_fail (sg σ 22 0) 1); (q6.1, q6.2)) else (let q7 := (fX8_isRegister x3); (if q7 = 0 then (let q9 := (fX8_fail (sg σ 22 0) 1); (q9.1, q9.2)) else (let q10 := (fX8_isRegister x4); (if q10 = 0 then (let q16 := (fX8_fail (sg σ 22 0) 1); (q16.1, q16.2)) else (if (σ.1 9) ≤ 0 then (if (σ.1 6) = 64 then (let q14 := (fX8_fail (sg σ 22 0) 3); (q14.1, q14.2)) else ((((σ.1 6) + 1) - 1), (sg (ar (ar (ar (ar (ar (sg σ 22 0) 0 (upd (σ.2 0) (σ.1 6).toNatClampNeg x1)) 1 (upd (σ.2 1) (σ.1 6).toNatClampNeg x2)) 2 (upd (σ.2 2) (σ.1 6).toNatClampNeg x3)) 3 (upd (σ.2 3) (σ.1 6).toNatClampNeg x4)) 4 (upd (σ.2 4) (σ.1 6).toNatClampNeg x5)) 6 ((σ.1 6) + 1)))) else (let q15 := (fX8_fail (sg σ 22 0) 2); (q15.1, q15.2)))))))))))
def fX8_set (σ : St) (x1 x2 : Int32) : Int32 × St := (let q1 := (fX8_within x2 0 63); (if q1 = 0 then (0, (sg σ 22 1)) else (if (σ.1 9) ≤ 0 then ((σ.1 16), (sg (sg (sg σ 22 0) 16 x1) 17 x2)) else (0, (sg σ 22 2)))))
def fX8_clear (σ : St) : Int32 × St := (let q1 := (fX8_begin (sg σ 22 0)); ((σ.1 9), q1))
def fX8_writes (σ : St) (x1 : Int32) : Int32 := (if ((σ.2 0) x1.toNatClampNeg) = 0 then 1 else (if ((σ.2 0) x1.toNatClampNeg) = 1 then 1 else (if ((σ.2 0) x1.toNatClampNeg) = 3 then 1 else (if ((σ.2 0) x1.toNatClampNeg) = 7 then 1 else 0))))
def fX8_readsA (σ : St) (x1 : Int32) : Int32 := (if 5 ≤ ((σ.2 0) x1.toNatClampNeg) then 0 else 1)
def fX8_readsB (σ : St) (x1 : Int32) : Int32 := (if ((σ.2 0) x1.toNatClampNeg) = 0 then 1 else (if ((σ.2 0) x1.toNatClampNeg) = 2 then 1 else (if ((σ.2 0) x1.toNatClampNeg) = 3 then 1 else 0)))
def fX8_cyclesOf (σ : St) (x1 : Int32) : Int32 := (if ((σ.2 0) x1.toNatClampNeg) = 3 then (σ.1 5) else 1)
def gfX8_isThere : Nat → St → Int32 → Int32 → Int32
  | 0, σ, x1, x2 => 0
  | n + 1, σ, x1, x2 => (if (σ.1 0) ≤ x2 then 1 else (if ((σ.2 5) x2.toNatClampNeg) < 0 then gfX8_isThere n σ x1 (x2 + 1) else (let q1004 := (fX8_writes σ ((σ.2 5) x2.toNatClampNeg)); (if q1004 = 0 then gfX8_isThere n σ x1 (x2 + 1) else (if ((σ.2 1) ((σ.2 5) x2.toNatClampNeg).toNatClampNeg) = x1 then (if (σ.1 16) = 0 then 0 else (if ((σ.2 0) ((σ.2 5) x2.toNatClampNeg).toNatClampNeg) = 1 then (if x2 ≤ (σ.1 3) then 0 else 1) else (if x2 ≤ (σ.1 2) then 0 else 1))) else gfX8_isThere n σ x1 (x2 + 1))))))
def fX8_isThere (σ : St) (x1 : Int32) : Int32 := gfX8_isThere 9 σ x1 ((σ.1 1) + 1)
def fX8_isReady (σ : St) (x1 : Int32) : Int32 := (let q1 := (fX8_readsA σ x1); (if q1 = 0 then (let q3 := (fX8_readsB σ x1); (if q3 = 0 then 1 else (let q5 := (fX8_isThere σ ((σ.2 3) x1.toNatClampNeg)); (if q5 = 0 then 0 else 1)))) else (let q7 := (fX8_isThere σ ((σ.2 2) x1.toNatClampNeg)); (if q7 = 0 then 0 else (let q9 := (fX8_readsB σ x1); (if q9 = 0 then 1 else (let q11 := (fX8_isThere σ ((σ.2 3) x1.toNatClampNeg)); (if q11 = 0 then 0 else 1))))))))
def fX8_moveOn (σ : St) (x1 : Int32) : St := (ar (ar (ar (ar (ar (ar (ar (ar σ 5 (upd (σ.2 5) (x1 + 1).toNatClampNeg ((σ.2 5) x1.toNatClampNeg))) 6 (upd (σ.2 6) (x1 + 1).toNatClampNeg (vp_nar .boolean ((σ.2 6) x1.toNatClampNeg)))) 7 (upd (σ.2 7) (x1 + 1).toNatClampNeg (vp_nar .boolean ((σ.2 7) x1.toNatClampNeg)))) 16 (upd (σ.2 16) (x1 + 1).toNatClampNeg ((σ.2 16) x1.toNatClampNeg))) 17 (upd (σ.2 17) (x1 + 1).toNatClampNeg ((σ.2 17) x1.toNatClampNeg))) 18 (upd (σ.2 18) (x1 + 1).toNatClampNeg ((σ.2 18) x1.toNatClampNeg))) 19 (upd (σ.2 19) (x1 + 1).toNatClampNeg ((σ.2 19) x1.toNatClampNeg))) 5 (upd (upd (σ.2 5) (x1 + 1).toNatClampNeg ((σ.2 5) x1.toNatClampNeg)) x1.toNatClampNeg (-1)))
def gfX8_squash : Nat → St → Int32 → Int32 → Int32 → St
  | 0, σ, x1, x2, x3 => σ
  | n + 1, σ, x1, x2, x3 => (if x1 ≤ x3 then (sg (sg (sg σ 18 (x2 - x2 / (σ.1 6) * (σ.1 6))) 19 0) 21 0) else (if ((σ.2 5) x3.toNatClampNeg) < 0 then gfX8_squash n (ar (sg σ 12 ((σ.1 12) + 0)) 5 (upd (σ.2 5) x3.toNatClampNeg (-1))) x1 x2 (x3 + 1) else gfX8_squash n (ar (sg σ 12 ((σ.1 12) + 1)) 5 (upd (σ.2 5) x3.toNatClampNeg (-1))) x1 x2 (x3 + 1)))
def fX8_squash (σ : St) (x1 x2 : Int32) : St := gfX8_squash 9 σ x1 x2 0
def fX8_know (σ : St) (x1 x2 : Int32) : St := (if 0 ≤ x2 then (let q2 := (fX8_squash (sg σ 14 ((σ.1 14) + 1)) x1 x2); q2) else σ)
def fX8_commit (σ : St) (x1 : Int32) : St := (let q1 := (fX8_writes σ ((σ.2 5) x1.toNatClampNeg)); (if q1 = 0 then (if ((σ.2 0) ((σ.2 5) x1.toNatClampNeg).toNatClampNeg) = 2 then (sg (ar (ar (ar (ar σ 15 (upd (σ.2 15) ((σ.2 18) x1.toNatClampNeg).toNatClampNeg ((σ.2 17) x1.toNatClampNeg))) 8 (upd (σ.2 8) ((σ.1 10) - (σ.1 10) / 400 * 400).toNatClampNeg ((σ.2 5) x1.toNatClampNeg))) 9 (upd (σ.2 9) ((σ.1 10) - (σ.1 10) / 400 * 400).toNatClampNeg (σ.1 9))) 10 (upd (σ.2 10) ((σ.1 10) - (σ.1 10) / 400 * 400).toNatClampNeg ((σ.2 17) x1.toNatClampNeg))) 10 ((σ.1 10) + 1)) else (sg (ar (ar (ar σ 8 (upd (σ.2 8) ((σ.1 10) - (σ.1 10) / 400 * 400).toNatClampNeg ((σ.2 5) x1.toNatClampNeg))) 9 (upd (σ.2 9) ((σ.1 10) - (σ.1 10) / 400 * 400).toNatClampNeg (σ.1 9))) 10 (upd (σ.2 10) ((σ.1 10) - (σ.1 10) / 400 * 400).toNatClampNeg ((σ.2 17) x1.toNatClampNeg))) 10 ((σ.1 10) + 1))) else (if ((σ.2 0) ((σ.2 5) x1.toNatClampNeg).toNatClampNeg) = 2 then (sg (ar (ar (ar (ar (ar σ 14 (upd (σ.2 14) ((σ.2 1) ((σ.2 5) x1.toNatClampNeg).toNatClampNeg).toNatClampNeg ((σ.2 17) x1.toNatClampNeg))) 15 (upd (σ.2 15) ((σ.2 18) x1.toNatClampNeg).toNatClampNeg ((σ.2 17) x1.toNatClampNeg))) 8 (upd (σ.2 8) ((σ.1 10) - (σ.1 10) / 400 * 400).toNatClampNeg ((σ.2 5) x1.toNatClampNeg))) 9 (upd (σ.2 9) ((σ.1 10) - (σ.1 10) / 400 * 400).toNatClampNeg (σ.1 9))) 10 (upd (σ.2 10) ((σ.1 10) - (σ.1 10) / 400 * 400).toNatClampNeg ((σ.2 17) x1.toNatClampNeg))) 10 ((σ.1 10) + 1)) else (sg (ar (ar (ar (ar σ 14 (upd (σ.2 14) ((σ.2 1) ((σ.2 5) x1.toNatClampNeg).toNatClampNeg).toNatClampNeg ((σ.2 17) x1.toNatClampNeg))) 8 (upd (σ.2 8) ((σ.1 10) - (σ.1 10) / 400 * 400).toNatClampNeg ((σ.2 5) x1.toNatClampNeg))) 9 (upd (σ.2 9) ((σ.1 10) - (σ.1 10) / 400 * 400).toNatClampNeg (σ.1 9))) 10 (upd (σ.2 10) ((σ.1 10) - (σ.1 10) / 400 * 400).toNatClampNeg ((σ.2 17) x1.toNatClampNeg))) 10 ((σ.1 10) + 1)))))
def fX8_leave (σ : St) : Int32 × St := (if 0 ≤ ((σ.2 5) ((σ.1 0) - 1).toNatClampNeg) then (if ((σ.2 0) ((σ.2 5) ((σ.1 0) - 1).toNatClampNeg).toNatClampNeg) = 5 then (let q9 := (fX8_squash (sg (ar σ 5 (upd (σ.2 5) ((σ.1 0) - 1).toNatClampNeg (-1))) 13 ((σ.1 13) + 1)) (σ.1 0) (σ.1 17)); (1, q9)) else (let q3 := (fX8_commit σ ((σ.1 0) - 1)); (if ((q3.2 0) ((σ.2 5) ((σ.1 0) - 1).toNatClampNeg).toNatClampNeg) = 6 then (0, (sg (ar q3 5 (upd (q3.2 5) ((σ.1 0) - 1).toNatClampNeg (-1))) 15 1)) else (if (q3.1 4) = ((σ.1 0) - 1) then (if ((q3.2 6) ((σ.1 0) - 1).toNatClampNeg) = 0 then (0, (ar q3 5 (upd (q3.2 5) ((σ.1 0) - 1).toNatClampNeg (-1)))) else (if ((q3.2 0) ((σ.2 5) ((σ.1 0) - 1).toNatClampNeg).toNatClampNeg) = 4 then (let q8 := (fX8_know (ar q3 5 (upd (q3.2 5) ((σ.1 0) - 1).toNatClampNeg (-1))) ((σ.1 0) - 1) ((q3.2 19) ((σ.1 0) - 1).toNatClampNeg)); (0, q8)) else (0, (ar q3 5 (upd (q3.2 5) ((σ.1 0) - 1).toNatClampNeg (-1)))))) else (0, (ar q3 5 (upd (q3.2 5) ((σ.1 0) - 1).toNatClampNeg (-1)))))))) else (4, σ))
def fX8_work (σ : St) : Int32 × St := (if ((σ.2 7) (σ.1 1).toNatClampNeg) = 0 then (let q4 := (fX8_isReady σ ((σ.2 5) (σ.1 1).toNatClampNeg)); (if q4 = 0 then (2, σ) else (let q6 := (fX8_cyclesOf (ar (ar σ 7 (upd (σ.2 7) (σ.1 1).toNatClampNeg (vp_nar .boolean 1))) 16 (upd (σ.2 16) (σ.1 1).toNatClampNeg (((σ.2 16) (σ.1 1).toNatClampNeg) + 1))) ((σ.2 5) (σ.1 1).toNatClampNeg)); (if q6 ≤ (((σ.2 16) (σ.1 1).toNatClampNeg) + 1) then (4, (ar (ar σ 7 (upd (σ.2 7) (σ.1 1).toNatClampNeg (vp_nar .boolean 1))) 16 (upd (σ.2 16) (σ.1 1).toNatClampNeg (((σ.2 16) (σ.1 1).toNatClampNeg) + 1)))) else (3, (ar (ar σ 7 (upd (σ.2 7) (σ.1 1).toNatClampNeg (vp_nar .boolean 1))) 16 (upd (σ.2 16) (σ.1 1).toNatClampNeg (((σ.2 16) (σ.1 1).toNatClampNeg) + 1)))))))) else (let q2 := (fX8_cyclesOf (ar (ar σ 7 (upd (σ.2 7) (σ.1 1).toNatClampNeg (vp_nar .boolean 1))) 16 (upd (σ.2 16) (σ.1 1).toNatClampNeg (((σ.2 16) (σ.1 1).toNatClampNeg) + 1))) ((σ.2 5) (σ.1 1).toNatClampNeg)); (if q2 ≤ (((σ.2 16) (σ.1 1).toNatClampNeg) + 1) then (4, (ar (ar σ 7 (upd (σ.2 7) (σ.1 1).toNatClampNeg (vp_nar .boolean 1))) 16 (upd (σ.2 16) (σ.1 1).toNatClampNeg (((σ.2 16) (σ.1 1).toNatClampNeg) + 1)))) else (3, (ar (ar σ 7 (upd (σ.2 7) (σ.1 1).toNatClampNeg (vp_nar .boolean 1))) 16 (upd (σ.2 16) (σ.1 1).toNatClampNeg (((σ.2 16) (σ.1 1).toNatClampNeg) + 1)))))))
def fX8_mayGo (σ : St) (x1 : Int32) : Int32 := (if ((σ.2 5) x1.toNatClampNeg) < 0 then 0 else (if ((σ.2 5) (x1 + 1).toNatClampNeg) < 0 then (if x1 = (σ.1 1) then (if ((σ.2 7) x1.toNatClampNeg) = 0 then 0 else (let q5 := (fX8_cyclesOf σ ((σ.2 5) x1.toNatClampNeg)); (if ((σ.2 16) x1.toNatClampNeg) < q5 then 0 else 1))) else 1) else 0))
def gfX8_goOn : Nat → St → Int32 → Int32 → Int32 → (Int32 × St)
  | 0, σ, x1, x2, x3 => (0, σ)
  | n + 1, σ, x1, x2, x3 => (if x3 < 0 then (x1, σ) else (if x3 = (σ.1 1) then (if x2 = 0 then (let q1018 := (fX8_mayGo σ x3); (if q1018 = 0 then gfX8_goOn n σ x1 x2 (x3 + (-1)) else (if x3 = (σ.1 4) then (if ((σ.2 6) x3.toNatClampNeg) = 0 then (let q1024 := (fX8_moveOn σ x3); gfX8_goOn n q1024 x1 x2 (x3 + (-1))) else (if ((σ.2 0) ((σ.2 5) x3.toNatClampNeg).toNatClampNeg) = 4 then (let q1029 := (fX8_moveOn σ x3); (let q1031 := (fX8_know q1029 x3 ((q1029.2 19) (x3 + 1).toNatClampNeg)); gfX8_goOn n q1031 x1 x2 (x3 + (-1)))) else (let q1027 := (fX8_moveOn σ x3); gfX8_goOn n q1027 x1 x2 (x3 + (-1))))) else (let q1021 := (fX8_moveOn σ x3); gfX8_goOn n q1021 x1 x2 (x3 + (-1)))))) else (if ((σ.2 5) x3.toNatClampNeg) < 0 then (let q1033 := (fX8_mayGo σ x3); (if q1033 = 0 then gfX8_goOn n σ x1 x2 (x3 + (-1)) else (if x3 = (σ.1 4) then (if ((σ.2 6) x3.toNatClampNeg) = 0 then (let q1039 := (fX8_moveOn σ x3); gfX8_goOn n q1039 x1 x2 (x3 + (-1))) else (if ((σ.2 0) ((σ.2 5) x3.toNatClampNeg).toNatClampNeg) = 4 then (let q1044 := (fX8_moveOn σ x3); (let q1046 := (fX8_know q1044 x3 ((q1044.2 19) (x3 + 1).toNatClampNeg)); gfX8_goOn n q1046 x1 x2 (x3 + (-1)))) else (let q1042 := (fX8_moveOn σ x3); gfX8_goOn n q1042 x1 x2 (x3 + (-1))))) else (let q1036 := (fX8_moveOn σ x3); gfX8_goOn n q1036 x1 x2 (x3 + (-1)))))) else (let q1047 := (fX8_work σ); (let q1048 := (fX8_mayGo q1047.2 x3); (if q1048 = 0 then gfX8_goOn n q1047.2 q1047.1 x2 (x3 + (-1)) else (if x3 = (q1047.2.1 4) then (if ((q1047.2.2 6) x3.toNatClampNeg) = 0 then (let q1054 := (fX8_moveOn q1047.2 x3); gfX8_goOn n q1054 q1047.1 x2 (x3 + (-1))) else (if ((q1047.2.2 0) ((q1047.2.2 5) x3.toNatClampNeg).toNatClampNeg) = 4 then (let q1059 := (fX8_moveOn q1047.2 x3); (let q1061 := (fX8_know q1059 x3 ((q1059.2 19) (x3 + 1).toNatClampNeg)); gfX8_goOn n q1061 q1047.1 x2 (x3 + (-1)))) else (let q1057 := (fX8_moveOn q1047.2 x3); gfX8_goOn n q1057 q1047.1 x2 (x3 + (-1))))) else (let q1051 := (fX8_moveOn q1047.2 x3); gfX8_goOn n q1051 q1047.1 x2 (x3 + (-1))))))))) else (let q1003 := (fX8_mayGo σ x3); (if q1003 = 0 then gfX8_goOn n σ x1 x2 (x3 + (-1)) else (if x3 = (σ.1 4) then (if ((σ.2 6) x3.toNatClampNeg) = 0 then (let q1009 := (fX8_moveOn σ x3); gfX8_goOn n q1009 x1 x2 (x3 + (-1))) else (if ((σ.2 0) ((σ.2 5) x3.toNatClampNeg).toNatClampNeg) = 4 then (let q1014 := (fX8_moveOn σ x3); (let q1016 := (fX8_know q1014 x3 ((q1014.2 19) (x3 + 1).toNatClampNeg)); gfX8_goOn n q1016 x1 x2 (x3 + (-1)))) else (let q1012 := (fX8_moveOn σ x3); gfX8_goOn n q1012 x1 x2 (x3 + (-1))))) else (let q1006 := (fX8_moveOn σ x3); gfX8_goOn n q1006 x1 x2 (x3 + (-1))))))))
def fX8_goOn (σ : St) : Int32 × St := (if ((σ.2 5) (σ.1 1).toNatClampNeg) < 0 then gfX8_goOn 9 σ 4 0 ((σ.1 0) - 2) else gfX8_goOn 9 σ 4 1 ((σ.1 0) - 2))
def fX8_plainRun (σ : St) (x1 : Int32) : St := (if ((σ.2 0) x1.toNatClampNeg) = 0 then (let q84 := (fX8_writes (ar (ar (ar (ar σ 17 (upd (σ.2 17) (0 : Int32).toNatClampNeg 0)) 18 (upd (σ.2 18) (0 : Int32).toNatClampNeg (fX8_modulo ((σ.2 12) ((σ.2 2) x1.toNatClampNeg).toNatClampNeg) 64))) 19 (upd (σ.2 19) (0 : Int32).toNatClampNeg (-1))) 17 (upd (upd (σ.2 17) (0 : Int32).toNatClampNeg 0) (0 : Int32).toNatClampNeg ((((σ.2 12) ((σ.2 2) x1.toNatClampNeg).toNatClampNeg) + ((σ.2 12) ((σ.2 3) x1.toNatClampNeg).toNatClampNeg)) + ((σ.2 4) x1.toNatClampNeg)))) x1); (if q84 = 0 then (ar (ar (ar (ar σ 17 (upd (σ.2 17) (0 : Int32).toNatClampNeg 0)) 18 (upd (σ.2 18) (0 : Int32).toNatClampNeg (fX8_modulo ((σ.2 12) ((σ.2 2) x1.toNatClampNeg).toNatClampNeg) 64))) 19 (upd (σ.2 19) (0 : Int32).toNatClampNeg (-1))) 17 (upd (upd (σ.2 17) (0 : Int32).toNatClampNeg 0) (0 : Int32).toNatClampNeg ((((σ.2 12) ((σ.2 2) x1.toNatClampNeg).toNatClampNeg) + ((σ.2 12) ((σ.2 3) x1.toNatClampNeg).toNatClampNeg)) + ((σ.2 4) x1.toNatClampNeg)))) else (ar (ar (ar (ar (ar σ 17 (upd (σ.2 17) (0 : Int32).toNatClampNeg 0)) 18 (upd (σ.2 18) (0 : Int32).toNatClampNeg (fX8_modulo ((σ.2 12) ((σ.2 2) x1.toNatClampNeg).toNatClampNeg) 64))) 19 (upd (σ.2 19) (0 : Int32).toNatClampNeg (-1))) 17 (upd (upd (σ.2 17) (0 : Int32).toNatClampNeg 0) (0 : Int32).toNatClampNeg ((((σ.2 12) ((σ.2 2) x1.toNatClampNeg).toNatClampNeg) + ((σ.2 12) ((σ.2 3) x1.toNatClampNeg).toNatClampNeg)) + ((σ.2 4) x1.toNatClampNeg)))) 12 (upd (σ.2 12) ((σ.2 1) x1.toNatClampNeg).toNatClampNeg ((((σ.2 12) ((σ.2 2) x1.toNatClampNeg).toNatClampNeg) + ((σ.2 12) ((σ.2 3) x1.toNatClampNeg).toNatClampNeg)) + ((σ.2 4) x1.toNatClampNeg)))))) else (if ((σ.2 0) x1.toNatClampNeg) = 1 then (let q70 := (fX8_writes (ar (ar (ar (ar σ 17 (upd (σ.2 17) (0 : Int32).toNatClampNeg 0)) 18 (upd (σ.2 18) (0 : Int32).toNatClampNeg (fX8_modulo ((σ.2 12) ((σ.2 2) x1.toNatClampNeg).toNatClampNeg) 64))) 19 (upd (σ.2 19) (0 : Int32).toNatClampNeg (-1))) 17 (upd (upd (σ.2 17) (0 : Int32).toNatClampNeg 0) (0 : Int32).toNatClampNeg ((σ.2 13) (fX8_modulo ((σ.2 12) ((σ.2 2) x1.toNatClampNeg).toNatClampNeg) 64).toNatClampNeg))) x1); (if q70 = 0 then (ar (ar (ar (ar σ 17 (upd (σ.2 17) (0 : Int32).toNatClampNeg 0)) 18 (upd (σ.2 18) (0 : Int32).toNatClampNeg (fX8_modulo ((σ.2 12) ((σ.2 2) x1.toNatClampNeg).toNatClampNeg) 64))) 19 (upd (σ.2 19) (0 : Int32).toNatClampNeg (-1))) 17 (upd (upd (σ.2 17) (0 : Int32).toNatClampNeg 0) (0 : Int32).toNatClampNeg ((σ.2 13) (fX8_modulo ((σ.2 12) ((σ.2 2) x1.toNatClampNeg).toNatClampNeg) 64).toNatClampNeg))) else (ar (ar (ar (ar (ar σ 17 (upd (σ.2 17) (0 : Int32).toNatClampNeg 0)) 18 (upd (σ.2 18) (0 : Int32).toNatClampNeg (fX8_modulo ((σ.2 12) ((σ.2 2) x1.toNatClampNeg).toNatClampNeg) 64))) 19 (upd (σ.2 19) (0 : Int32).toNatClampNeg (-1))) 17 (upd (upd (σ.2 17) (0 : Int32).toNatClampNeg 0) (0 : Int32).toNatClampNeg ((σ.2 13) (fX8_modulo ((σ.2 12) ((σ.2 2) x1.toNatClampNeg).toNatClampNeg) 64).toNatClampNeg))) 12 (upd (σ.2 12) ((σ.2 1) x1.toNatClampNeg).toNatClampNeg ((σ.2 13) (fX8_modulo ((σ.2 12) ((σ.2 2) x1.toNatClampNeg).toNatClampNeg) 64).toNatClampNeg))))) else (if ((σ.2 0) x1.toNatClampNeg) = 3 then (let q57 := (fX8_writes (ar (ar (ar (ar σ 17 (upd (σ.2 17) (0 : Int32).toNatClampNeg 0)) 18 (upd (σ.2 18) (0 : Int32).toNatClampNeg (fX8_modulo ((σ.2 12) ((σ.2 2) x1.toNatClampNeg).toNatClampNeg) 64))) 19 (upd (σ.2 19) (0 : Int32).toNatClampNeg (-1))) 17 (upd (upd (σ.2 17) (0 : Int32).toNatClampNeg 0) (0 : Int32).toNatClampNeg (((σ.2 12) ((σ.2 2) x1.toNatClampNeg).toNatClampNeg) * ((σ.2 12) ((σ.2 3) x1.toNatClampNeg).toNatClampNeg)))) x1); (if q57 = 0 then (ar (ar (ar (ar σ 17 (upd (σ.2 17) (0 : Int32).toNatClampNeg 0)) 18 (upd (σ.2 18) (0 : Int32).toNatClampNeg (fX8_modulo ((σ.2 12) ((σ.2 2) x1.toNatClampNeg).toNatClampNeg) 64))) 19 (upd (σ.2 19) (0 : Int32).toNatClampNeg (-1))) 17 (upd (upd (σ.2 17) (0 : Int32).toNatClampNeg 0) (0 : Int32).toNatClampNeg (((σ.2 12) ((σ.2 2) x1.toNatClampNeg).toNatClampNeg) * ((σ.2 12) ((σ.2 3) x1.toNatClampNeg).toNatClampNeg)))) else (ar (ar (ar (ar (ar σ 17 (upd (σ.2 17) (0 : Int32).toNatClampNeg 0)) 18 (upd (σ.2 18) (0 : Int32).toNatClampNeg (fX8_modulo ((σ.2 12) ((σ.2 2) x1.toNatClampNeg).toNatClampNeg) 64))) 19 (upd (σ.2 19) (0 : Int32).toNatClampNeg (-1))) 17 (upd (upd (σ.2 17) (0 : Int32).toNatClampNeg 0) (0 : Int32).toNatClampNeg (((σ.2 12) ((σ.2 2) x1.toNatClampNeg).toNatClampNeg) * ((σ.2 12) ((σ.2 3) x1.toNatClampNeg).toNatClampNeg)))) 12 (upd (σ.2 12) ((σ.2 1) x1.toNatClampNeg).toNatClampNeg (((σ.2 12) ((σ.2 2) x1.toNatClampNeg).toNatClampNeg) * ((σ.2 12) ((σ.2 3) x1.toNatClampNeg).toNatClampNeg)))))) else (if ((σ.2 0) x1.toNatClampNeg) = 7 then (let q45 := (fX8_writes (ar (ar (ar (ar σ 17 (upd (σ.2 17) (0 : Int32).toNatClampNeg 0)) 18 (upd (σ.2 18) (0 : Int32).toNatClampNeg (fX8_modulo ((σ.2 12) ((σ.2 2) x1.toNatClampNeg).toNatClampNeg) 64))) 19 (upd (σ.2 19) (0 : Int32).toNatClampNeg (-1))) 17 (upd (upd (σ.2 17) (0 : Int32).toNatClampNeg 0) (0 : Int32).toNatClampNeg ((σ.2 4) x1.toNatClampNeg))) x1); (if q45 = 0 then (ar (ar (ar (ar σ 17 (upd (σ.2 17) (0 : Int32).toNatClampNeg 0)) 18 (upd (σ.2 18) (0 : Int32).toNatClampNeg (fX8_modulo ((σ.2 12) ((σ.2 2) x1.toNatClampNeg).toNatClampNeg) 64))) 19 (upd (σ.2 19) (0 : Int32).toNatClampNeg (-1))) 17 (upd (upd (σ.2 17) (0 : Int32).toNatClampNeg 0) (0 : Int32).toNatClampNeg ((σ.2 4) x1.toNatClampNeg))) else (ar (ar (ar (ar (ar σ 17 (upd (σ.2 17) (0 : Int32).toNatClampNeg 0)) 18 (upd (σ.2 18) (0 : Int32).toNatClampNeg (fX8_modulo ((σ.2 12) ((σ.2 2) x1.toNatClampNeg).toNatClampNeg) 64))) 19 (upd (σ.2 19) (0 : Int32).toNatClampNeg (-1))) 17 (upd (upd (σ.2 17) (0 : Int32).toNatClampNeg 0) (0 : Int32).toNatClampNeg ((σ.2 4) x1.toNatClampNeg))) 12 (upd (σ.2 12) ((σ.2 1) x1.toNatClampNeg).toNatClampNeg ((σ.2 4) x1.toNatClampNeg))))) else (if ((σ.2 0) x1.toNatClampNeg) = 2 then (let q34 := (fX8_writes (ar (ar (ar (ar (ar σ 17 (upd (σ.2 17) (0 : Int32).toNatClampNeg 0)) 18 (upd (σ.2 18) (0 : Int32).toNatClampNeg (fX8_modulo ((σ.2 12) ((σ.2 2) x1.toNatClampNeg).toNatClampNeg) 64))) 19 (upd (σ.2 19) (0 : Int32).toNatClampNeg (-1))) 17 (upd (upd (σ.2 17) (0 : Int32).toNatClampNeg 0) (0 : Int32).toNatClampNeg ((σ.2 12) ((σ.2 3) x1.toNatClampNeg).toNatClampNeg))) 13 (upd (σ.2 13) (fX8_modulo ((σ.2 12) ((σ.2 2) x1.toNatClampNeg).toNatClampNeg) 64).toNatClampNeg ((σ.2 12) ((σ.2 3) x1.toNatClampNeg).toNatClampNeg))) x1); (if q34 = 0 then (ar (ar (ar (ar (ar σ 17 (upd (σ.2 17) (0 : Int32).toNatClampNeg 0)) 18 (upd (σ.2 18) (0 : Int32).toNatClampNeg (fX8_modulo ((σ.2 12) ((σ.2 2) x1.toNatClampNeg).toNatClampNeg) 64))) 19 (upd (σ.2 19) (0 : Int32).toNatClampNeg (-1))) 17 (upd (upd (σ.2 17) (0 : Int32).toNatClampNeg 0) (0 : Int32).toNatClampNeg ((σ.2 12) ((σ.2 3) x1.toNatClampNeg).toNatClampNeg))) 13 (upd (σ.2 13) (fX8_modulo ((σ.2 12) ((σ.2 2) x1.toNatClampNeg).toNatClampNeg) 64).toNatClampNeg ((σ.2 12) ((σ.2 3) x1.toNatClampNeg).toNatClampNeg))) else (ar (ar (ar (ar (ar (ar σ 17 (upd (σ.2 17) (0 : Int32).toNatClampNeg 0)) 18 (upd (σ.2 18) (0 : Int32).toNatClampNeg (fX8_modulo ((σ.2 12) ((σ.2 2) x1.toNatClampNeg).toNatClampNeg) 64))) 19 (upd (σ.2 19) (0 : Int32).toNatClampNeg (-1))) 17 (upd (upd (σ.2 17) (0 : Int32).toNatClampNeg 0) (0 : Int32).toNatClampNeg ((σ.2 12) ((σ.2 3) x1.toNatClampNeg).toNatClampNeg))) 13 (upd (σ.2 13) (fX8_modulo ((σ.2 12) ((σ.2 2) x1.toNatClampNeg).toNatClampNeg) 64).toNatClampNeg ((σ.2 12) ((σ.2 3) x1.toNatClampNeg).toNatClampNeg))) 12 (upd (σ.2 12) ((σ.2 1) x1.toNatClampNeg).toNatClampNeg ((σ.2 12) ((σ.2 3) x1.toNatClampNeg).toNatClampNeg))))) else (let q6 := (fX8_writes (ar (ar (ar σ 17 (upd (σ.2 17) (0 : Int32).toNatClampNeg 0)) 18 (upd (σ.2 18) (0 : Int32).toNatClampNeg (fX8_modulo ((σ.2 12) ((σ.2 2) x1.toNatClampNeg).toNatClampNeg) 64))) 19 (upd (σ.2 19) (0 : Int32).toNatClampNeg (-1))) x1); (if q6 = 0 then (if ((σ.2 0) x1.toNatClampNeg) = 4 then (if ((σ.2 12) ((σ.2 2) x1.toNatClampNeg).toNatClampNeg) = 0 then (ar (ar (ar σ 17 (upd (σ.2 17) (0 : Int32).toNatClampNeg 0)) 18 (upd (σ.2 18) (0 : Int32).toNatClampNeg (fX8_modulo ((σ.2 12) ((σ.2 2) x1.toNatClampNeg).toNatClampNeg) 64))) 19 (upd (σ.2 19) (0 : Int32).toNatClampNeg (-1))) else (if (fX8_modulo ((σ.2 4) x1.toNatClampNeg) (σ.1 6)) < 0 then (ar (ar (ar (ar σ 17 (upd (σ.2 17) (0 : Int32).toNatClampNeg 0)) 18 (upd (σ.2 18) (0 : Int32).toNatClampNeg (fX8_modulo ((σ.2 12) ((σ.2 2) x1.toNatClampNeg).toNatClampNeg) 64))) 19 (upd (σ.2 19) (0 : Int32).toNatClampNeg (-1))) 19 (upd (upd (σ.2 19) (0 : Int32).toNatClampNeg (-1)) (0 : Int32).toNatClampNeg (fX8_modulo ((σ.2 4) x1.toNatClampNeg) (σ.1 6)))) else (sg (ar (ar (ar (ar σ 17 (upd (σ.2 17) (0 : Int32).toNatClampNeg 0)) 18 (upd (σ.2 18) (0 : Int32).toNatClampNeg (fX8_modulo ((σ.2 12) ((σ.2 2) x1.toNatClampNeg).toNatClampNeg) 64))) 19 (upd (σ.2 19) (0 : Int32).toNatClampNeg (-1))) 19 (upd (upd (σ.2 19) (0 : Int32).toNatClampNeg (-1)) (0 : Int32).toNatClampNeg (fX8_modulo ((σ.2 4) x1.toNatClampNeg) (σ.1 6)))) 19 1))) else (if ((σ.2 0) x1.toNatClampNeg) = 6 then (sg (ar (ar (ar σ 17 (upd (σ.2 17) (0 : Int32).toNatClampNeg 0)) 18 (upd (σ.2 18) (0 : Int32).toNatClampNeg (fX8_modulo ((σ.2 12) ((σ.2 2) x1.toNatClampNeg).toNatClampNeg) 64))) 19 (upd (σ.2 19) (0 : Int32).toNatClampNeg (-1))) 20 1) else (if ((σ.2 0) x1.toNatClampNeg) = 5 then (sg (ar (ar (ar σ 17 (upd (σ.2 17) (0 : Int32).toNatClampNeg 0)) 18 (upd (σ.2 18) (0 : Int32).toNatClampNeg (fX8_modulo ((σ.2 12) ((σ.2 2) x1.toNatClampNeg).toNatClampNeg) 64))) 19 (upd (σ.2 19) (0 : Int32).toNatClampNeg (-1))) 19 1) else (ar (ar (ar σ 17 (upd (σ.2 17) (0 : Int32).toNatClampNeg 0)) 18 (upd (σ.2 18) (0 : Int32).toNatClampNeg (fX8_modulo ((σ.2 12) ((σ.2 2) x1.toNatClampNeg).toNatClampNeg) 64))) 19 (upd (σ.2 19) (0 : Int32).toNatClampNeg (-1)))))) else (if ((σ.2 0) x1.toNatClampNeg) = 4 then (if ((σ.2 12) ((σ.2 2) x1.toNatClampNeg).toNatClampNeg) = 0 then (ar (ar (ar (ar σ 17 (upd (σ.2 17) (0 : Int32).toNatClampNeg 0)) 18 (upd (σ.2 18) (0 : Int32).toNatClampNeg (fX8_modulo ((σ.2 12) ((σ.2 2) x1.toNatClampNeg).toNatClampNeg) 64))) 19 (upd (σ.2 19) (0 : Int32).toNatClampNeg (-1))) 12 (upd (σ.2 12) ((σ.2 1) x1.toNatClampNeg).toNatClampNeg 0)) else (if (fX8_modulo ((σ.2 4) x1.toNatClampNeg) (σ.1 6)) < 0 then (ar (ar (ar (ar (ar σ 17 (upd (σ.2 17) (0 : Int32).toNatClampNeg 0)) 18 (upd (σ.2 18) (0 : Int32).toNatClampNeg (fX8_modulo ((σ.2 12) ((σ.2 2) x1.toNatClampNeg).toNatClampNeg) 64))) 19 (upd (σ.2 19) (0 : Int32).toNatClampNeg (-1))) 12 (upd (σ.2 12) ((σ.2 1) x1.toNatClampNeg).toNatClampNeg 0)) 19 (upd (upd (σ.2 19) (0 : Int32).toNatClampNeg (-1)) (0 : Int32).toNatClampNeg (fX8_modulo ((σ.2 4) x1.toNatClampNeg) (σ.1 6)))) else (sg (ar (ar (ar (ar (ar σ 17 (upd (σ.2 17) (0 : Int32).toNatClampNeg 0)) 18 (upd (σ.2 18) (0 : Int32).toNatClampNeg (fX8_modulo ((σ.2 12) ((σ.2 2) x1.toNatClampNeg).toNatClampNeg) 64))) 19 (upd (σ.2 19) (0 : Int32).toNatClampNeg (-1))) 12 (upd (σ.2 12) ((σ.2 1) x1.toNatClampNeg).toNatClampNeg 0)) 19 (upd (upd (σ.2 19) (0 : Int32).toNatClampNeg (-1)) (0 : Int32).toNatClampNeg (fX8_modulo ((σ.2 4) x1.toNatClampNeg) (σ.1 6)))) 19 1))) else (if ((σ.2 0) x1.toNatClampNeg) = 6 then (sg (ar (ar (ar (ar σ 17 (upd (σ.2 17) (0 : Int32).toNatClampNeg 0)) 18 (upd (σ.2 18) (0 : Int32).toNatClampNeg (fX8_modulo ((σ.2 12) ((σ.2 2) x1.toNatClampNeg).toNatClampNeg) 64))) 19 (upd (σ.2 19) (0 : Int32).toNatClampNeg (-1))) 12 (upd (σ.2 12) ((σ.2 1) x1.toNatClampNeg).toNatClampNeg 0)) 20 1) else (if ((σ.2 0) x1.toNatClampNeg) = 5 then (sg (ar (ar (ar (ar σ 17 (upd (σ.2 17) (0 : Int32).toNatClampNeg 0)) 18 (upd (σ.2 18) (0 : Int32).toNatClampNeg (fX8_modulo ((σ.2 12) ((σ.2 2) x1.toNatClampNeg).toNatClampNeg) 64))) 19 (upd (σ.2 19) (0 : Int32).toNatClampNeg (-1))) 12 (upd (σ.2 12) ((σ.2 1) x1.toNatClampNeg).toNatClampNeg 0)) 19 1) else (ar (ar (ar (ar σ 17 (upd (σ.2 17) (0 : Int32).toNatClampNeg 0)) 18 (upd (σ.2 18) (0 : Int32).toNatClampNeg (fX8_modulo ((σ.2 12) ((σ.2 2) x1.toNatClampNeg).toNatClampNeg) 64))) 19 (upd (σ.2 19) (0 : Int32).toNatClampNeg (-1))) 12 (upd (σ.2 12) ((σ.2 1) x1.toNatClampNeg).toNatClampNeg 0))))))))))))
def fX8_fetch (σ : St) : St := (if (σ.1 21) = 0 then σ else (if 0 ≤ ((σ.2 5) (0 : Int32).toNatClampNeg) then σ else (if (σ.1 20) = 0 then (if (σ.1 19) = 0 then (let q7 := (fX8_plainRun (ar (ar (ar (ar (sg (sg σ 18 (((σ.1 18) + 1) - ((σ.1 18) + 1) / (σ.1 6) * (σ.1 6))) 11 ((σ.1 11) + 1)) 5 (upd (σ.2 5) (0 : Int32).toNatClampNeg (σ.1 18))) 6 (upd (σ.2 6) (0 : Int32).toNatClampNeg (vp_nar .boolean 1))) 7 (upd (σ.2 7) (0 : Int32).toNatClampNeg (vp_nar .boolean 0))) 16 (upd (σ.2 16) (0 : Int32).toNatClampNeg 0)) (σ.1 18)); q7) else (ar (ar (ar (ar (sg (sg σ 18 (((σ.1 18) + 1) - ((σ.1 18) + 1) / (σ.1 6) * (σ.1 6))) 11 ((σ.1 11) + 1)) 5 (upd (σ.2 5) (0 : Int32).toNatClampNeg (σ.1 18))) 6 (upd (σ.2 6) (0 : Int32).toNatClampNeg (vp_nar .boolean 0))) 7 (upd (σ.2 7) (0 : Int32).toNatClampNeg (vp_nar .boolean 0))) 16 (upd (σ.2 16) (0 : Int32).toNatClampNeg 0))) else σ)))
def fX8_cycle (σ : St) : St := (let q1 := (fX8_leave (sg (sg σ 9 ((σ.1 9) + 1)) 21 1)); (if (q1.2.1 15) = 0 then (let q3 := (fX8_goOn q1.2); (if 4 ≤ q1.1 then (let q5 := (fX8_fetch q3.2); (ar q5 11 (upd (q5.2 11) q3.1.toNatClampNeg (((q5.2 11) q3.1.toNatClampNeg) + 1)))) else (let q6 := (fX8_fetch q3.2); (ar q6 11 (upd (q6.2 11) q1.1.toNatClampNeg (((q6.2 11) q1.1.toNatClampNeg) + 1)))))) else (ar q1.2 11 (upd (q1.2.2 11) q1.1.toNatClampNeg (((q1.2.2 11) q1.1.toNatClampNeg) + 1)))))
def gfX8_run : Nat → St → Int32 → Int32 → (Int32 × St)
  | 0, σ, x1, x2 => (0, σ)
  | n + 1, σ, x1, x2 => (if x1 ≤ x2 then (x2, σ) else (if (σ.1 15) = 0 then (let q1003 := (fX8_cycle σ); gfX8_run n q1003 x1 (x2 + 1)) else (x2, σ)))
def fX8_run (σ : St) (x1 : Int32) : Int32 × St := (let q1 := (fX8_within x1 1 2000); (if q1 = 0 then (let q5 := (fX8_fail (sg σ 22 0) 1); (q5.1, q5.2)) else (if (σ.1 6) = 0 then (let q4 := (fX8_fail (sg σ 22 0) 2); (q4.1, q4.2)) else gfX8_run 2001 (sg σ 22 0) x1 0)))
def fX8_stage (σ : St) (x1 x2 : Int32) : Int32 × St := (let q1 := (fX8_within x1 0 ((σ.1 0) - 1)); (if q1 = 0 then (let q3 := (fX8_fail (sg σ 22 0) 1); (q3.1, q3.2)) else (let q4 := (fX8_within x2 0 1); (if q4 = 0 then (let q9 := (fX8_fail (sg σ 22 0) 1); (q9.1, q9.2)) else (if x2 = 0 then (((σ.2 5) x1.toNatClampNeg), (sg σ 22 0)) else (if ((σ.2 5) x1.toNatClampNeg) < 0 then (0, (sg σ 22 0)) else (if ((σ.2 6) x1.toNatClampNeg) = 0 then (0, (sg σ 22 0)) else (1, (sg σ 22 0)))))))))
def fX8_committed (σ : St) (x1 x2 : Int32) : Int32 × St := (if 400 ≤ (σ.1 10) then (let q2 := (fX8_within x1 0 (400 - 1)); (if q2 = 0 then (let q4 := (fX8_fail (sg σ 22 0) 1); (q4.1, q4.2)) else (let q5 := (fX8_within x2 0 2); (if q5 = 0 then (let q9 := (fX8_fail (sg σ 22 0) 1); (q9.1, q9.2)) else (if x2 = 0 then (((σ.2 8) ((((σ.1 10) - 400) + x1) - (((σ.1 10) - 400) + x1) / 400 * 400).toNatClampNeg), (sg σ 22 0)) else (if x2 = 1 then (((σ.2 9) ((((σ.1 10) - 400) + x1) - (((σ.1 10) - 400) + x1) / 400 * 400).toNatClampNeg), (sg σ 22 0)) else (((σ.2 10) ((((σ.1 10) - 400) + x1) - (((σ.1 10) - 400) + x1) / 400 * 400).toNatClampNeg), (sg σ 22 0)))))))) else (let q10 := (fX8_within x1 0 ((σ.1 10) - 1)); (if q10 = 0 then (let q12 := (fX8_fail (sg σ 22 0) 1); (q12.1, q12.2)) else (let q13 := (fX8_within x2 0 2); (if q13 = 0 then (let q17 := (fX8_fail (sg σ 22 0) 1); (q17.1, q17.2)) else (if x2 = 0 then (((σ.2 8) ((((σ.1 10) - (σ.1 10)) + x1) - (((σ.1 10) - (σ.1 10)) + x1) / 400 * 400).toNatClampNeg), (sg σ 22 0)) else (if x2 = 1 then (((σ.2 9) ((((σ.1 10) - (σ.1 10)) + x1) - (((σ.1 10) - (σ.1 10)) + x1) / 400 * 400).toNatClampNeg), (sg σ 22 0)) else (((σ.2 10) ((((σ.1 10) - (σ.1 10)) + x1) - (((σ.1 10) - (σ.1 10)) + x1) / 400 * 400).toNatClampNeg), (sg σ 22 0)))))))))
def fX8_register (σ : St) (x1 : Int32) : Int32 × St := (let q1 := (fX8_isRegister x1); (if q1 = 0 then (let q3 := (fX8_fail (sg σ 22 0) 1); (q3.1, q3.2)) else (((σ.2 14) x1.toNatClampNeg), (sg σ 22 0))))
def fX8_memory (σ : St) (x1 : Int32) : Int32 × St := (let q1 := (fX8_within x1 0 63); (if q1 = 0 then (let q3 := (fX8_fail (sg σ 22 0) 1); (q3.1, q3.2)) else (((σ.2 15) x1.toNatClampNeg), (sg σ 22 0))))
def fX8_cause (σ : St) (x1 : Int32) : Int32 × St := (let q1 := (fX8_within x1 0 4); (if q1 = 0 then (let q3 := (fX8_fail (sg σ 22 0) 1); (q3.1, q3.2)) else (((σ.2 11) x1.toNatClampNeg), (sg σ 22 0))))
def fX8_count (σ : St) (x1 : Int32) : Int32 × St := (if x1 = 0 then ((σ.1 9), (sg σ 22 0)) else (if x1 = 1 then ((σ.1 10), (sg σ 22 0)) else (if x1 = 2 then ((σ.1 11), (sg σ 22 0)) else (if x1 = 3 then ((σ.1 12), (sg σ 22 0)) else (if x1 = 4 then ((σ.1 13), (sg σ 22 0)) else (if x1 = 5 then (if (σ.1 15) = 0 then (0, (sg σ 22 0)) else (1, (sg σ 22 0))) else (if x1 = 6 then ((σ.1 0), (sg σ 22 0)) else (if x1 = 7 then ((σ.1 1), (sg σ 22 0)) else (if x1 = 8 then ((σ.1 2), (sg σ 22 0)) else (if x1 = 9 then ((σ.1 3), (sg σ 22 0)) else (if x1 = 10 then ((σ.1 4), (sg σ 22 0)) else (if x1 = 11 then ((σ.1 5), (sg σ 22 0)) else (if x1 = 12 then ((σ.1 6), (sg σ 22 0)) else (if x1 = 13 then ((σ.1 14), (sg σ 22 0)) else ((-1), (sg σ 22 0))))))))))))))))
/-- the reference's program, shape, handler stay -/
def Fq (τ σ : St) : Prop := (∀ k, (k < 7 ∨ k = 17) → τ.1 k = σ.1 k) ∧ ∀ k, k < 5 → τ.2 k = σ.2 k
theorem Fq.rf (σ : St) : Fq σ σ := ⟨fun _ _ => rfl, fun _ _ => rfl⟩
theorem Fq.tr {τ ρ σ : St} (h : Fq τ ρ) (h2 : Fq ρ σ) : Fq τ σ := ⟨fun k hk => (h.1 k hk).trans (h2.1 k hk), fun k hk => (h.2 k hk).trans (h2.2 k hk)⟩
theorem Fq.sg {σ : St} {k : Nat} {x : Int32} (hk : 7 ≤ k ∧ k ≠ 17) : Fq (sg σ k x) σ := ⟨fun j hj => by
  show upd σ.1 k x j = σ.1 j
  unfold upd
  rw [if_neg (by omega)], fun _ _ => rfl⟩
theorem Fq.ar {σ : St} {k : Nat} {f : Nat → Int32} (hk : 5 ≤ k) : Fq (ar σ k f) σ := ⟨fun _ _ => rfl, fun j hj => va_up_ne _ _ (by omega)⟩
theorem fr_fX8_fail (σ : St) (x1 : Int32) : Fq (fX8_fail σ x1).2 σ := by
  have E : fX8_fail σ x1 = (0, (sg σ 22 x1)) := rfl
  rw [E]
  exact (Fq.tr (Fq.sg (by decide)) (Fq.rf _))
theorem fr_fX8_moveOn (σ : St) (x1 : Int32) : Fq (fX8_moveOn σ x1) σ := by
  have E : fX8_moveOn σ x1 = (ar (ar (ar (ar (ar (ar (ar (ar σ 5 (upd (σ.2 5) (x1 + 1).toNatClampNeg ((σ.2 5) x1.toNatClampNeg))) 6 (upd (σ.2 6) (x1 + 1).toNatClampNeg (vp_nar .boolean ((σ.2 6) x1.toNatClampNeg)))) 7 (upd (σ.2 7) (x1 + 1).toNatClampNeg (vp_nar .boolean ((σ.2 7) x1.toNatClampNeg)))) 16 (upd (σ.2 16) (x1 + 1).toNatClampNeg ((σ.2 16) x1.toNatClampNeg))) 17 (upd (σ.2 17) (x1 + 1).toNatClampNeg ((σ.2 17) x1.toNatClampNeg))) 18 (upd (σ.2 18) (x1 + 1).toNatClampNeg ((σ.2 18) x1.toNatClampNeg))) 19 (upd (σ.2 19) (x1 + 1).toNatClampNeg ((σ.2 19) x1.toNatClampNeg))) 5 (upd (upd (σ.2 5) (x1 + 1).toNatClampNeg ((σ.2 5) x1.toNatClampNeg)) x1.toNatClampNeg (-1))) := rfl
  rw [E]
  exact (Fq.tr (Fq.ar (by decide)) (Fq.tr (Fq.ar (by decide)) (Fq.tr (Fq.ar (by decide)) (Fq.tr (Fq.ar (by decide)) (Fq.tr (Fq.ar (by decide)) (Fq.tr (Fq.ar (by decide)) (Fq.tr (Fq.ar (by decide)) (Fq.tr (Fq.ar (by decide)) (Fq.rf _)))))))))
theorem fr_gfX8_squash : ∀ (n : Nat) (σ : St) (x1 x2 x3 : Int32), Fq (gfX8_squash n σ x1 x2 x3) σ := by
  intro n
  induction n with
  | zero => intro σ x1 x2 x3; exact Fq.rf _
  | succ n ih =>
    intro σ x1 x2 x3
    by_cases c0 : x1 ≤ x3
    ·
      have E : gfX8_squash (n + 1) σ x1 x2 x3 = (sg (sg (sg σ 18 (x2 - x2 / (σ.1 6) * (σ.1 6))) 19 0) 21 0) := j_ip c0 rfl
      rw [E]
      exact (Fq.tr (Fq.sg (by decide)) (Fq.tr (Fq.sg (by decide)) (Fq.tr (Fq.sg (by decide)) (Fq.rf _))))
    ·
      by_cases c1 : ((σ.2 5) x3.toNatClampNeg) < 0
      ·
        have E : gfX8_squash (n + 1) σ x1 x2 x3 = gfX8_squash n (ar (sg σ 12 ((σ.1 12) + 0)) 5 (upd (σ.2 5) x3.toNatClampNeg (-1))) x1 x2 (x3 + 1) := j_ig c0 (j_ip c1 rfl)
        rw [E]
        exact (Fq.tr (ih _ _ _ _) (Fq.tr (Fq.ar (by decide)) (Fq.tr (Fq.sg (by decide)) (Fq.rf _))))
      ·
        have E : gfX8_squash (n + 1) σ x1 x2 x3 = gfX8_squash n (ar (sg σ 12 ((σ.1 12) + 1)) 5 (upd (σ.2 5) x3.toNatClampNeg (-1))) x1 x2 (x3 + 1) := j_ig c0 (j_ig c1 rfl)
        rw [E]
        exact (Fq.tr (ih _ _ _ _) (Fq.tr (Fq.ar (by decide)) (Fq.tr (Fq.sg (by decide)) (Fq.rf _))))
theorem fr_fX8_squash (σ : St) (x1 x2 : Int32) : Fq (fX8_squash σ x1 x2) σ := by
  have E : fX8_squash σ x1 x2 = gfX8_squash 9 σ x1 x2 0 := rfl
  rw [E]
  exact (Fq.tr (fr_gfX8_squash _ _ _ _ _) (Fq.rf _))
theorem fr_fX8_know (σ : St) (x1 x2 : Int32) : Fq (fX8_know σ x1 x2) σ := by
  by_cases c0 : 0 ≤ x2
  ·
    have E : fX8_know σ x1 x2 = (fX8_squash (sg σ 14 ((σ.1 14) + 1)) x1 x2) := j_ip c0 rfl
    rw [E]
    exact (Fq.tr (fr_fX8_squash _ _ _) (Fq.tr (Fq.sg (by decide)) (Fq.rf _)))
  ·
    have E : fX8_know σ x1 x2 = σ := j_ig c0 rfl
    rw [E]
    exact (Fq.rf _)
theorem fr_fX8_commit (σ : St) (x1 : Int32) : Fq (fX8_commit σ x1) σ := by
  by_cases c0 : (fX8_writes σ ((σ.2 5) x1.toNatClampNeg)) = 0
  ·
    by_cases c1 : ((σ.2 0) ((σ.2 5) x1.toNatClampNeg).toNatClampNeg) = 2
    ·
      have E : fX8_commit σ x1 = (sg (ar (ar (ar (ar σ 15 (upd (σ.2 15) ((σ.2 18) x1.toNatClampNeg).toNatClampNeg ((σ.2 17) x1.toNatClampNeg))) 8 (upd (σ.2 8) ((σ.1 10) - (σ.1 10) / 400 * 400).toNatClampNeg ((σ.2 5) x1.toNatClampNeg))) 9 (upd (σ.2 9) ((σ.1 10) - (σ.1 10) / 400 * 400).toNatClampNeg (σ.1 9))) 10 (upd (σ.2 10) ((σ.1 10) - (σ.1 10) / 400 * 400).toNatClampNeg ((σ.2 17) x1.toNatClampNeg))) 10 ((σ.1 10) + 1)) := j_ip c0 (j_ip c1 rfl)
      rw [E]
      exact (Fq.tr (Fq.sg (by decide)) (Fq.tr (Fq.ar (by decide)) (Fq.tr (Fq.ar (by decide)) (Fq.tr (Fq.ar (by decide)) (Fq.tr (Fq.ar (by decide)) (Fq.rf _))))))
    ·
      have E : fX8_commit σ x1 = (sg (ar (ar (ar σ 8 (upd (σ.2 8) ((σ.1 10) - (σ.1 10) / 400 * 400).toNatClampNeg ((σ.2 5) x1.toNatClampNeg))) 9 (upd (σ.2 9) ((σ.1 10) - (σ.1 10) / 400 * 400).toNatClampNeg (σ.1 9))) 10 (upd (σ.2 10) ((σ.1 10) - (σ.1 10) / 400 * 400).toNatClampNeg ((σ.2 17) x1.toNatClampNeg))) 10 ((σ.1 10) + 1)) := j_ip c0 (j_ig c1 rfl)
      rw [E]
      exact (Fq.tr (Fq.sg (by decide)) (Fq.tr (Fq.ar (by decide)) (Fq.tr (Fq.ar (by decide)) (Fq.tr (Fq.ar (by decide)) (Fq.rf _)))))
  ·
    by_cases c1 : ((σ.2 0) ((σ.2 5) x1.toNatClampNeg).toNatClampNeg) = 2
    ·
      have E : fX8_commit σ x1 = (sg (ar (ar (ar (ar (ar σ 14 (upd (σ.2 14) ((σ.2 1) ((σ.2 5) x1.toNatClampNeg).toNatClampNeg).toNatClampNeg ((σ.2 17) x1.toNatClampNeg))) 15 (upd (σ.2 15) ((σ.2 18) x1.toNatClampNeg).toNatClampNeg ((σ.2 17) x1.toNatClampNeg))) 8 (upd (σ.2 8) ((σ.1 10) - (σ.1 10) / 400 * 400).toNatClampNeg ((σ.2 5) x1.toNatClampNeg))) 9 (upd (σ.2 9) ((σ.1 10) - (σ.1 10) / 400 * 400).toNatClampNeg (σ.1 9))) 10 (upd (σ.2 10) ((σ.1 10) - (σ.1 10) / 400 * 400).toNatClampNeg ((σ.2 17) x1.toNatClampNeg))) 10 ((σ.1 10) + 1)) := j_ig c0 (j_ip c1 rfl)
      rw [E]
      exact (Fq.tr (Fq.sg (by decide)) (Fq.tr (Fq.ar (by decide)) (Fq.tr (Fq.ar (by decide)) (Fq.tr (Fq.ar (by decide)) (Fq.tr (Fq.ar (by decide)) (Fq.tr (Fq.ar (by decide)) (Fq.rf _)))))))
    ·
      have E : fX8_commit σ x1 = (sg (ar (ar (ar (ar σ 14 (upd (σ.2 14) ((σ.2 1) ((σ.2 5) x1.toNatClampNeg).toNatClampNeg).toNatClampNeg ((σ.2 17) x1.toNatClampNeg))) 8 (upd (σ.2 8) ((σ.1 10) - (σ.1 10) / 400 * 400).toNatClampNeg ((σ.2 5) x1.toNatClampNeg))) 9 (upd (σ.2 9) ((σ.1 10) - (σ.1 10) / 400 * 400).toNatClampNeg (σ.1 9))) 10 (upd (σ.2 10) ((σ.1 10) - (σ.1 10) / 400 * 400).toNatClampNeg ((σ.2 17) x1.toNatClampNeg))) 10 ((σ.1 10) + 1)) := j_ig c0 (j_ig c1 rfl)
      rw [E]
      exact (Fq.tr (Fq.sg (by decide)) (Fq.tr (Fq.ar (by decide)) (Fq.tr (Fq.ar (by decide)) (Fq.tr (Fq.ar (by decide)) (Fq.tr (Fq.ar (by decide)) (Fq.rf _))))))
theorem fr_fX8_leave (σ : St) : Fq (fX8_leave σ).2 σ := by
  by_cases c0 : 0 ≤ ((σ.2 5) ((σ.1 0) - 1).toNatClampNeg)
  ·
    by_cases c1 : ((σ.2 0) ((σ.2 5) ((σ.1 0) - 1).toNatClampNeg).toNatClampNeg) = 5
    ·
      have E : fX8_leave σ = (1, (fX8_squash (sg (ar σ 5 (upd (σ.2 5) ((σ.1 0) - 1).toNatClampNeg (-1))) 13 ((σ.1 13) + 1)) (σ.1 0) (σ.1 17))) := j_ip c0 (j_ip c1 rfl)
      rw [E]
      exact (Fq.tr (fr_fX8_squash _ _ _) (Fq.tr (Fq.sg (by decide)) (Fq.tr (Fq.ar (by decide)) (Fq.rf _))))
    ·
      by_cases c2 : (((fX8_commit σ ((σ.1 0) - 1)).2 0) ((σ.2 5) ((σ.1 0) - 1).toNatClampNeg).toNatClampNeg) = 6
      ·
        have E : fX8_leave σ = (0, (sg (ar (fX8_commit σ ((σ.1 0) - 1)) 5 (upd ((fX8_commit σ ((σ.1 0) - 1)).2 5) ((σ.1 0) - 1).toNatClampNeg (-1))) 15 1)) := j_ip c0 (j_ig c1 (j_ip c2 rfl))
        rw [E]
        exact (Fq.tr (Fq.sg (by decide)) (Fq.tr (Fq.ar (by decide)) (Fq.tr (fr_fX8_commit _ _) (Fq.rf _))))
      ·
        by_cases c3 : ((fX8_commit σ ((σ.1 0) - 1)).1 4) = ((σ.1 0) - 1)
        ·
          by_cases c4 : (((fX8_commit σ ((σ.1 0) - 1)).2 6) ((σ.1 0) - 1).toNatClampNeg) = 0
          ·
            have E : fX8_leave σ = (0, (ar (fX8_commit σ ((σ.1 0) - 1)) 5 (upd ((fX8_commit σ ((σ.1 0) - 1)).2 5) ((σ.1 0) - 1).toNatClampNeg (-1)))) := j_ip c0 (j_ig c1 (j_ig c2 (j_ip c3 (j_ip c4 rfl))))
            rw [E]
            exact (Fq.tr (Fq.ar (by decide)) (Fq.tr (fr_fX8_commit _ _) (Fq.rf _)))
          ·
            by_cases c5 : (((fX8_commit σ ((σ.1 0) - 1)).2 0) ((σ.2 5) ((σ.1 0) - 1).toNatClampNeg).toNatClampNeg) = 4
            ·
              have E : fX8_leave σ = (0, (fX8_know (ar (fX8_commit σ ((σ.1 0) - 1)) 5 (upd ((fX8_commit σ ((σ.1 0) - 1)).2 5) ((σ.1 0) - 1).toNatClampNeg (-1))) ((σ.1 0) - 1) (((fX8_commit σ ((σ.1 0) - 1)).2 19) ((σ.1 0) - 1).toNatClampNeg))) := j_ip c0 (j_ig c1 (j_ig c2 (j_ip c3 (j_ig c4 (j_ip c5 rfl)))))
              rw [E]
              exact (Fq.tr (fr_fX8_know _ _ _) (Fq.tr (Fq.ar (by decide)) (Fq.tr (fr_fX8_commit _ _) (Fq.rf _))))
            ·
              have E : fX8_leave σ = (0, (ar (fX8_commit σ ((σ.1 0) - 1)) 5 (upd ((fX8_commit σ ((σ.1 0) - 1)).2 5) ((σ.1 0) - 1).toNatClampNeg (-1)))) := j_ip c0 (j_ig c1 (j_ig c2 (j_ip c3 (j_ig c4 (j_ig c5 rfl)))))
              rw [E]
              exact (Fq.tr (Fq.ar (by decide)) (Fq.tr (fr_fX8_commit _ _) (Fq.rf _)))
        ·
          have E : fX8_leave σ = (0, (ar (fX8_commit σ ((σ.1 0) - 1)) 5 (upd ((fX8_commit σ ((σ.1 0) - 1)).2 5) ((σ.1 0) - 1).toNatClampNeg (-1)))) := j_ip c0 (j_ig c1 (j_ig c2 (j_ig c3 rfl)))
          rw [E]
          exact (Fq.tr (Fq.ar (by decide)) (Fq.tr (fr_fX8_commit _ _) (Fq.rf _)))
  ·
    have E : fX8_leave σ = (4, σ) := j_ig c0 rfl
    rw [E]
    exact (Fq.rf _)
theorem fr_fX8_work (σ : St) : Fq (fX8_work σ).2 σ := by
  by_cases c0 : ((σ.2 7) (σ.1 1).toNatClampNeg) = 0
  ·
    by_cases c1 : (fX8_isReady σ ((σ.2 5) (σ.1 1).toNatClampNeg)) = 0
    ·
      have E : fX8_work σ = (2, σ) := j_ip c0 (j_ip c1 rfl)
      rw [E]
      exact (Fq.rf _)
    ·
      by_cases c2 : (fX8_cyclesOf (ar (ar σ 7 (upd (σ.2 7) (σ.1 1).toNatClampNeg (vp_nar .boolean 1))) 16 (upd (σ.2 16) (σ.1 1).toNatClampNeg (((σ.2 16) (σ.1 1).toNatClampNeg) + 1))) ((σ.2 5) (σ.1 1).toNatClampNeg)) ≤ (((σ.2 16) (σ.1 1).toNatClampNeg) + 1)
      ·
        have E : fX8_work σ = (4, (ar (ar σ 7 (upd (σ.2 7) (σ.1 1).toNatClampNeg (vp_nar .boolean 1))) 16 (upd (σ.2 16) (σ.1 1).toNatClampNeg (((σ.2 16) (σ.1 1).toNatClampNeg) + 1)))) := j_ip c0 (j_ig c1 (j_ip c2 rfl))
        rw [E]
        exact (Fq.tr (Fq.ar (by decide)) (Fq.tr (Fq.ar (by decide)) (Fq.rf _)))
      ·
        have E : fX8_work σ = (3, (ar (ar σ 7 (upd (σ.2 7) (σ.1 1).toNatClampNeg (vp_nar .boolean 1))) 16 (upd (σ.2 16) (σ.1 1).toNatClampNeg (((σ.2 16) (σ.1 1).toNatClampNeg) + 1)))) := j_ip c0 (j_ig c1 (j_ig c2 rfl))
        rw [E]
        exact (Fq.tr (Fq.ar (by decide)) (Fq.tr (Fq.ar (by decide)) (Fq.rf _)))
  ·
    by_cases c1 : (fX8_cyclesOf (ar (ar σ 7 (upd (σ.2 7) (σ.1 1).toNatClampNeg (vp_nar .boolean 1))) 16 (upd (σ.2 16) (σ.1 1).toNatClampNeg (((σ.2 16) (σ.1 1).toNatClampNeg) + 1))) ((σ.2 5) (σ.1 1).toNatClampNeg)) ≤ (((σ.2 16) (σ.1 1).toNatClampNeg) + 1)
    ·
      have E : fX8_work σ = (4, (ar (ar σ 7 (upd (σ.2 7) (σ.1 1).toNatClampNeg (vp_nar .boolean 1))) 16 (upd (σ.2 16) (σ.1 1).toNatClampNeg (((σ.2 16) (σ.1 1).toNatClampNeg) + 1)))) := j_ig c0 (j_ip c1 rfl)
      rw [E]
      exact (Fq.tr (Fq.ar (by decide)) (Fq.tr (Fq.ar (by decide)) (Fq.rf _)))
    ·
      have E : fX8_work σ = (3, (ar (ar σ 7 (upd (σ.2 7) (σ.1 1).toNatClampNeg (vp_nar .boolean 1))) 16 (upd (σ.2 16) (σ.1 1).toNatClampNeg (((σ.2 16) (σ.1 1).toNatClampNeg) + 1)))) := j_ig c0 (j_ig c1 rfl)
      rw [E]
      exact (Fq.tr (Fq.ar (by decide)) (Fq.tr (Fq.ar (by decide)) (Fq.rf _)))
theorem fr_gfX8_goOn : ∀ (n : Nat) (σ : St) (x1 x2 x3 : Int32), Fq (gfX8_goOn n σ x1 x2 x3).2 σ := by
  intro n
  induction n with
  | zero => intro σ x1 x2 x3; exact Fq.rf _
  | succ n ih =>
    intro σ x1 x2 x3
    by_cases c0 : x3 < 0
    ·
      have E : gfX8_goOn (n + 1) σ x1 x2 x3 = (x1, σ) := j_ip c0 rfl
      rw [E]
      exact (Fq.rf _)
    ·
      by_cases c1 : x3 = (σ.1 1)
      ·
        by_cases c2 : x2 = 0
        ·
          by_cases c3 : (fX8_mayGo σ x3) = 0
          ·
            have E : gfX8_goOn (n + 1) σ x1 x2 x3 = gfX8_goOn n σ x1 x2 (x3 + (-1)) := j_ig c0 (j_ip c1 (j_ip c2 (j_ip c3 rfl)))
            rw [E]
            exact (Fq.tr (ih _ _ _ _) (Fq.rf _))
          ·
            by_cases c4 : x3 = (σ.1 4)
            ·
              by_cases c5 : ((σ.2 6) x3.toNatClampNeg) = 0
              ·
                have E : gfX8_goOn (n + 1) σ x1 x2 x3 = gfX8_goOn n (fX8_moveOn σ x3) x1 x2 (x3 + (-1)) := j_ig c0 (j_ip c1 (j_ip c2 (j_ig c3 (j_ip c4 (j_ip c5 rfl)))))
                rw [E]
                exact (Fq.tr (ih _ _ _ _) (Fq.tr (fr_fX8_moveOn _ _) (Fq.rf _)))
              ·
                by_cases c6 : ((σ.2 0) ((σ.2 5) x3.toNatClampNeg).toNatClampNeg) = 4
                ·
                  have E : gfX8_goOn (n + 1) σ x1 x2 x3 = gfX8_goOn n (fX8_know (fX8_moveOn σ x3) x3 (((fX8_moveOn σ x3).2 19) (x3 + 1).toNatClampNeg)) x1 x2 (x3 + (-1)) := j_ig c0 (j_ip c1 (j_ip c2 (j_ig c3 (j_ip c4 (j_ig c5 (j_ip c6 rfl))))))
                  rw [E]
                  exact (Fq.tr (ih _ _ _ _) (Fq.tr (fr_fX8_know _ _ _) (Fq.tr (fr_fX8_moveOn _ _) (Fq.rf _))))
                ·
                  have E : gfX8_goOn (n + 1) σ x1 x2 x3 = gfX8_goOn n (fX8_moveOn σ x3) x1 x2 (x3 + (-1)) := j_ig c0 (j_ip c1 (j_ip c2 (j_ig c3 (j_ip c4 (j_ig c5 (j_ig c6 rfl))))))
                  rw [E]
                  exact (Fq.tr (ih _ _ _ _) (Fq.tr (fr_fX8_moveOn _ _) (Fq.rf _)))
            ·
              have E : gfX8_goOn (n + 1) σ x1 x2 x3 = gfX8_goOn n (fX8_moveOn σ x3) x1 x2 (x3 + (-1)) := j_ig c0 (j_ip c1 (j_ip c2 (j_ig c3 (j_ig c4 rfl))))
              rw [E]
              exact (Fq.tr (ih _ _ _ _) (Fq.tr (fr_fX8_moveOn _ _) (Fq.rf _)))
        ·
          by_cases c3 : ((σ.2 5) x3.toNatClampNeg) < 0
          ·
            by_cases c4 : (fX8_mayGo σ x3) = 0
            ·
              have E : gfX8_goOn (n + 1) σ x1 x2 x3 = gfX8_goOn n σ x1 x2 (x3 + (-1)) := j_ig c0 (j_ip c1 (j_ig c2 (j_ip c3 (j_ip c4 rfl))))
              rw [E]
              exact (Fq.tr (ih _ _ _ _) (Fq.rf _))
            ·
              by_cases c5 : x3 = (σ.1 4)
              ·
                by_cases c6 : ((σ.2 6) x3.toNatClampNeg) = 0
                ·
                  have E : gfX8_goOn (n + 1) σ x1 x2 x3 = gfX8_goOn n (fX8_moveOn σ x3) x1 x2 (x3 + (-1)) := j_ig c0 (j_ip c1 (j_ig c2 (j_ip c3 (j_ig c4 (j_ip c5 (j_ip c6 rfl))))))
                  rw [E]
                  exact (Fq.tr (ih _ _ _ _) (Fq.tr (fr_fX8_moveOn _ _) (Fq.rf _)))
                ·
                  by_cases c7 : ((σ.2 0) ((σ.2 5) x3.toNatClampNeg).toNatClampNeg) = 4
                  ·
                    have E : gfX8_goOn (n + 1) σ x1 x2 x3 = gfX8_goOn n (fX8_know (fX8_moveOn σ x3) x3 (((fX8_moveOn σ x3).2 19) (x3 + 1).toNatClampNeg)) x1 x2 (x3 + (-1)) := j_ig c0 (j_ip c1 (j_ig c2 (j_ip c3 (j_ig c4 (j_ip c5 (j_ig c6 (j_ip c7 rfl)))))))
                    rw [E]
                    exact (Fq.tr (ih _ _ _ _) (Fq.tr (fr_fX8_know _ _ _) (Fq.tr (fr_fX8_moveOn _ _) (Fq.rf _))))
                  ·
                    have E : gfX8_goOn (n + 1) σ x1 x2 x3 = gfX8_goOn n (fX8_moveOn σ x3) x1 x2 (x3 + (-1)) := j_ig c0 (j_ip c1 (j_ig c2 (j_ip c3 (j_ig c4 (j_ip c5 (j_ig c6 (j_ig c7 rfl)))))))
                    rw [E]
                    exact (Fq.tr (ih _ _ _ _) (Fq.tr (fr_fX8_moveOn _ _) (Fq.rf _)))
              ·
                have E : gfX8_goOn (n + 1) σ x1 x2 x3 = gfX8_goOn n (fX8_moveOn σ x3) x1 x2 (x3 + (-1)) := j_ig c0 (j_ip c1 (j_ig c2 (j_ip c3 (j_ig c4 (j_ig c5 rfl)))))
                rw [E]
                exact (Fq.tr (ih _ _ _ _) (Fq.tr (fr_fX8_moveOn _ _) (Fq.rf _)))
          ·
            by_cases c4 : (fX8_mayGo (fX8_work σ).2 x3) = 0
            ·
              have E : gfX8_goOn (n + 1) σ x1 x2 x3 = gfX8_goOn n (fX8_work σ).2 (fX8_work σ).1 x2 (x3 + (-1)) := j_ig c0 (j_ip c1 (j_ig c2 (j_ig c3 (j_ip c4 rfl))))
              rw [E]
              exact (Fq.tr (ih _ _ _ _) (Fq.tr (fr_fX8_work _) (Fq.rf _)))
            ·
              by_cases c5 : x3 = ((fX8_work σ).2.1 4)
              ·
                by_cases c6 : (((fX8_work σ).2.2 6) x3.toNatClampNeg) = 0
                ·
                  have E : gfX8_goOn (n + 1) σ x1 x2 x3 = gfX8_goOn n (fX8_moveOn (fX8_work σ).2 x3) (fX8_work σ).1 x2 (x3 + (-1)) := j_ig c0 (j_ip c1 (j_ig c2 (j_ig c3 (j_ig c4 (j_ip c5 (j_ip c6 rfl))))))
                  rw [E]
                  exact (Fq.tr (ih _ _ _ _) (Fq.tr (fr_fX8_moveOn _ _) (Fq.tr (fr_fX8_work _) (Fq.rf _))))
                ·
                  by_cases c7 : (((fX8_work σ).2.2 0) (((fX8_work σ).2.2 5) x3.toNatClampNeg).toNatClampNeg) = 4
                  ·
                    have E : gfX8_goOn (n + 1) σ x1 x2 x3 = gfX8_goOn n (fX8_know (fX8_moveOn (fX8_work σ).2 x3) x3 (((fX8_moveOn (fX8_work σ).2 x3).2 19) (x3 + 1).toNatClampNeg)) (fX8_work σ).1 x2 (x3 + (-1)) := j_ig c0 (j_ip c1 (j_ig c2 (j_ig c3 (j_ig c4 (j_ip c5 (j_ig c6 (j_ip c7 rfl)))))))
                    rw [E]
                    exact (Fq.tr (ih _ _ _ _) (Fq.tr (fr_fX8_know _ _ _) (Fq.tr (fr_fX8_moveOn _ _) (Fq.tr (fr_fX8_work _) (Fq.rf _)))))
                  ·
                    have E : gfX8_goOn (n + 1) σ x1 x2 x3 = gfX8_goOn n (fX8_moveOn (fX8_work σ).2 x3) (fX8_work σ).1 x2 (x3 + (-1)) := j_ig c0 (j_ip c1 (j_ig c2 (j_ig c3 (j_ig c4 (j_ip c5 (j_ig c6 (j_ig c7 rfl)))))))
                    rw [E]
                    exact (Fq.tr (ih _ _ _ _) (Fq.tr (fr_fX8_moveOn _ _) (Fq.tr (fr_fX8_work _) (Fq.rf _))))
              ·
                have E : gfX8_goOn (n + 1) σ x1 x2 x3 = gfX8_goOn n (fX8_moveOn (fX8_work σ).2 x3) (fX8_work σ).1 x2 (x3 + (-1)) := j_ig c0 (j_ip c1 (j_ig c2 (j_ig c3 (j_ig c4 (j_ig c5 rfl)))))
                rw [E]
                exact (Fq.tr (ih _ _ _ _) (Fq.tr (fr_fX8_moveOn _ _) (Fq.tr (fr_fX8_work _) (Fq.rf _))))
      ·
        by_cases c2 : (fX8_mayGo σ x3) = 0
        ·
          have E : gfX8_goOn (n + 1) σ x1 x2 x3 = gfX8_goOn n σ x1 x2 (x3 + (-1)) := j_ig c0 (j_ig c1 (j_ip c2 rfl))
          rw [E]
          exact (Fq.tr (ih _ _ _ _) (Fq.rf _))
        ·
          by_cases c3 : x3 = (σ.1 4)
          ·
            by_cases c4 : ((σ.2 6) x3.toNatClampNeg) = 0
            ·
              have E : gfX8_goOn (n + 1) σ x1 x2 x3 = gfX8_goOn n (fX8_moveOn σ x3) x1 x2 (x3 + (-1)) := j_ig c0 (j_ig c1 (j_ig c2 (j_ip c3 (j_ip c4 rfl))))
              rw [E]
              exact (Fq.tr (ih _ _ _ _) (Fq.tr (fr_fX8_moveOn _ _) (Fq.rf _)))
            ·
              by_cases c5 : ((σ.2 0) ((σ.2 5) x3.toNatClampNeg).toNatClampNeg) = 4
              ·
                have E : gfX8_goOn (n + 1) σ x1 x2 x3 = gfX8_goOn n (fX8_know (fX8_moveOn σ x3) x3 (((fX8_moveOn σ x3).2 19) (x3 + 1).toNatClampNeg)) x1 x2 (x3 + (-1)) := j_ig c0 (j_ig c1 (j_ig c2 (j_ip c3 (j_ig c4 (j_ip c5 rfl)))))
                rw [E]
                exact (Fq.tr (ih _ _ _ _) (Fq.tr (fr_fX8_know _ _ _) (Fq.tr (fr_fX8_moveOn _ _) (Fq.rf _))))
              ·
                have E : gfX8_goOn (n + 1) σ x1 x2 x3 = gfX8_goOn n (fX8_moveOn σ x3) x1 x2 (x3 + (-1)) := j_ig c0 (j_ig c1 (j_ig c2 (j_ip c3 (j_ig c4 (j_ig c5 rfl)))))
                rw [E]
                exact (Fq.tr (ih _ _ _ _) (Fq.tr (fr_fX8_moveOn _ _) (Fq.rf _)))
          ·
            have E : gfX8_goOn (n + 1) σ x1 x2 x3 = gfX8_goOn n (fX8_moveOn σ x3) x1 x2 (x3 + (-1)) := j_ig c0 (j_ig c1 (j_ig c2 (j_ig c3 rfl)))
            rw [E]
            exact (Fq.tr (ih _ _ _ _) (Fq.tr (fr_fX8_moveOn _ _) (Fq.rf _)))
theorem fr_fX8_goOn (σ : St) : Fq (fX8_goOn σ).2 σ := by
  by_cases c0 : ((σ.2 5) (σ.1 1).toNatClampNeg) < 0
  ·
    have E : fX8_goOn σ = gfX8_goOn 9 σ 4 0 ((σ.1 0) - 2) := j_ip c0 rfl
    rw [E]
    exact (Fq.tr (fr_gfX8_goOn _ _ _ _ _) (Fq.rf _))
  ·
    have E : fX8_goOn σ = gfX8_goOn 9 σ 4 1 ((σ.1 0) - 2) := j_ig c0 rfl
    rw [E]
    exact (Fq.tr (fr_gfX8_goOn _ _ _ _ _) (Fq.rf _))
theorem fr_fX8_plainRun (σ : St) (x1 : Int32) : Fq (fX8_plainRun σ x1) σ := by
  by_cases c0 : ((σ.2 0) x1.toNatClampNeg) = 0
  ·
    by_cases c1 : (fX8_writes (ar (ar (ar (ar σ 17 (upd (σ.2 17) (0 : Int32).toNatClampNeg 0)) 18 (upd (σ.2 18) (0 : Int32).toNatClampNeg (fX8_modulo ((σ.2 12) ((σ.2 2) x1.toNatClampNeg).toNatClampNeg) 64))) 19 (upd (σ.2 19) (0 : Int32).toNatClampNeg (-1))) 17 (upd (upd (σ.2 17) (0 : Int32).toNatClampNeg 0) (0 : Int32).toNatClampNeg ((((σ.2 12) ((σ.2 2) x1.toNatClampNeg).toNatClampNeg) + ((σ.2 12) ((σ.2 3) x1.toNatClampNeg).toNatClampNeg)) + ((σ.2 4) x1.toNatClampNeg)))) x1) = 0
    ·
      have E : fX8_plainRun σ x1 = (ar (ar (ar (ar σ 17 (upd (σ.2 17) (0 : Int32).toNatClampNeg 0)) 18 (upd (σ.2 18) (0 : Int32).toNatClampNeg (fX8_modulo ((σ.2 12) ((σ.2 2) x1.toNatClampNeg).toNatClampNeg) 64))) 19 (upd (σ.2 19) (0 : Int32).toNatClampNeg (-1))) 17 (upd (upd (σ.2 17) (0 : Int32).toNatClampNeg 0) (0 : Int32).toNatClampNeg ((((σ.2 12) ((σ.2 2) x1.toNatClampNeg).toNatClampNeg) + ((σ.2 12) ((σ.2 3) x1.toNatClampNeg).toNatClampNeg)) + ((σ.2 4) x1.toNatClampNeg)))) := j_ip c0 (j_ip c1 rfl)
      rw [E]
      exact (Fq.tr (Fq.ar (by decide)) (Fq.tr (Fq.ar (by decide)) (Fq.tr (Fq.ar (by decide)) (Fq.tr (Fq.ar (by decide)) (Fq.rf _)))))
    ·
      have E : fX8_plainRun σ x1 = (ar (ar (ar (ar (ar σ 17 (upd (σ.2 17) (0 : Int32).toNatClampNeg 0)) 18 (upd (σ.2 18) (0 : Int32).toNatClampNeg (fX8_modulo ((σ.2 12) ((σ.2 2) x1.toNatClampNeg).toNatClampNeg) 64))) 19 (upd (σ.2 19) (0 : Int32).toNatClampNeg (-1))) 17 (upd (upd (σ.2 17) (0 : Int32).toNatClampNeg 0) (0 : Int32).toNatClampNeg ((((σ.2 12) ((σ.2 2) x1.toNatClampNeg).toNatClampNeg) + ((σ.2 12) ((σ.2 3) x1.toNatClampNeg).toNatClampNeg)) + ((σ.2 4) x1.toNatClampNeg)))) 12 (upd (σ.2 12) ((σ.2 1) x1.toNatClampNeg).toNatClampNeg ((((σ.2 12) ((σ.2 2) x1.toNatClampNeg).toNatClampNeg) + ((σ.2 12) ((σ.2 3) x1.toNatClampNeg).toNatClampNeg)) + ((σ.2 4) x1.toNatClampNeg)))) := j_ip c0 (j_ig c1 rfl)
      rw [E]
      exact (Fq.tr (Fq.ar (by decide)) (Fq.tr (Fq.ar (by decide)) (Fq.tr (Fq.ar (by decide)) (Fq.tr (Fq.ar (by decide)) (Fq.tr (Fq.ar (by decide)) (Fq.rf _))))))
  ·
    by_cases c1 : ((σ.2 0) x1.toNatClampNeg) = 1
    ·
      by_cases c2 : (fX8_writes (ar (ar (ar (ar σ 17 (upd (σ.2 17) (0 : Int32).toNatClampNeg 0)) 18 (upd (σ.2 18) (0 : Int32).toNatClampNeg (fX8_modulo ((σ.2 12) ((σ.2 2) x1.toNatClampNeg).toNatClampNeg) 64))) 19 (upd (σ.2 19) (0 : Int32).toNatClampNeg (-1))) 17 (upd (upd (σ.2 17) (0 : Int32).toNatClampNeg 0) (0 : Int32).toNatClampNeg ((σ.2 13) (fX8_modulo ((σ.2 12) ((σ.2 2) x1.toNatClampNeg).toNatClampNeg) 64).toNatClampNeg))) x1) = 0
      ·
        have E : fX8_plainRun σ x1 = (ar (ar (ar (ar σ 17 (upd (σ.2 17) (0 : Int32).toNatClampNeg 0)) 18 (upd (σ.2 18) (0 : Int32).toNatClampNeg (fX8_modulo ((σ.2 12) ((σ.2 2) x1.toNatClampNeg).toNatClampNeg) 64))) 19 (upd (σ.2 19) (0 : Int32).toNatClampNeg (-1))) 17 (upd (upd (σ.2 17) (0 : Int32).toNatClampNeg 0) (0 : Int32).toNatClampNeg ((σ.2 13) (fX8_modulo ((σ.2 12) ((σ.2 2) x1.toNatClampNeg).toNatClampNeg) 64).toNatClampNeg))) := j_ig c0 (j_ip c1 (j_ip c2 rfl))
        rw [E]
        exact (Fq.tr (Fq.ar (by decide)) (Fq.tr (Fq.ar (by decide)) (Fq.tr (Fq.ar (by decide)) (Fq.tr (Fq.ar (by decide)) (Fq.rf _)))))
      ·
        have E : fX8_plainRun σ x1 = (ar (ar (ar (ar (ar σ 17 (upd (σ.2 17) (0 : Int32).toNatClampNeg 0)) 18 (upd (σ.2 18) (0 : Int32).toNatClampNeg (fX8_modulo ((σ.2 12) ((σ.2 2) x1.toNatClampNeg).toNatClampNeg) 64))) 19 (upd (σ.2 19) (0 : Int32).toNatClampNeg (-1))) 17 (upd (upd (σ.2 17) (0 : Int32).toNatClampNeg 0) (0 : Int32).toNatClampNeg ((σ.2 13) (fX8_modulo ((σ.2 12) ((σ.2 2) x1.toNatClampNeg).toNatClampNeg) 64).toNatClampNeg))) 12 (upd (σ.2 12) ((σ.2 1) x1.toNatClampNeg).toNatClampNeg ((σ.2 13) (fX8_modulo ((σ.2 12) ((σ.2 2) x1.toNatClampNeg).toNatClampNeg) 64).toNatClampNeg))) := j_ig c0 (j_ip c1 (j_ig c2 rfl))
        rw [E]
        exact (Fq.tr (Fq.ar (by decide)) (Fq.tr (Fq.ar (by decide)) (Fq.tr (Fq.ar (by decide)) (Fq.tr (Fq.ar (by decide)) (Fq.tr (Fq.ar (by decide)) (Fq.rf _))))))
    ·
      by_cases c2 : ((σ.2 0) x1.toNatClampNeg) = 3
      ·
        by_cases c3 : (fX8_writes (ar (ar (ar (ar σ 17 (upd (σ.2 17) (0 : Int32).toNatClampNeg 0)) 18 (upd (σ.2 18) (0 : Int32).toNatClampNeg (fX8_modulo ((σ.2 12) ((σ.2 2) x1.toNatClampNeg).toNatClampNeg) 64))) 19 (upd (σ.2 19) (0 : Int32).toNatClampNeg (-1))) 17 (upd (upd (σ.2 17) (0 : Int32).toNatClampNeg 0) (0 : Int32).toNatClampNeg (((σ.2 12) ((σ.2 2) x1.toNatClampNeg).toNatClampNeg) * ((σ.2 12) ((σ.2 3) x1.toNatClampNeg).toNatClampNeg)))) x1) = 0
        ·
          have E : fX8_plainRun σ x1 = (ar (ar (ar (ar σ 17 (upd (σ.2 17) (0 : Int32).toNatClampNeg 0)) 18 (upd (σ.2 18) (0 : Int32).toNatClampNeg (fX8_modulo ((σ.2 12) ((σ.2 2) x1.toNatClampNeg).toNatClampNeg) 64))) 19 (upd (σ.2 19) (0 : Int32).toNatClampNeg (-1))) 17 (upd (upd (σ.2 17) (0 : Int32).toNatClampNeg 0) (0 : Int32).toNatClampNeg (((σ.2 12) ((σ.2 2) x1.toNatClampNeg).toNatClampNeg) * ((σ.2 12) ((σ.2 3) x1.toNatClampNeg).toNatClampNeg)))) := j_ig c0 (j_ig c1 (j_ip c2 (j_ip c3 rfl)))
          rw [E]
          exact (Fq.tr (Fq.ar (by decide)) (Fq.tr (Fq.ar (by decide)) (Fq.tr (Fq.ar (by decide)) (Fq.tr (Fq.ar (by decide)) (Fq.rf _)))))
        ·
          have E : fX8_plainRun σ x1 = (ar (ar (ar (ar (ar σ 17 (upd (σ.2 17) (0 : Int32).toNatClampNeg 0)) 18 (upd (σ.2 18) (0 : Int32).toNatClampNeg (fX8_modulo ((σ.2 12) ((σ.2 2) x1.toNatClampNeg).toNatClampNeg) 64))) 19 (upd (σ.2 19) (0 : Int32).toNatClampNeg (-1))) 17 (upd (upd (σ.2 17) (0 : Int32).toNatClampNeg 0) (0 : Int32).toNatClampNeg (((σ.2 12) ((σ.2 2) x1.toNatClampNeg).toNatClampNeg) * ((σ.2 12) ((σ.2 3) x1.toNatClampNeg).toNatClampNeg)))) 12 (upd (σ.2 12) ((σ.2 1) x1.toNatClampNeg).toNatClampNeg (((σ.2 12) ((σ.2 2) x1.toNatClampNeg).toNatClampNeg) * ((σ.2 12) ((σ.2 3) x1.toNatClampNeg).toNatClampNeg)))) := j_ig c0 (j_ig c1 (j_ip c2 (j_ig c3 rfl)))
          rw [E]
          exact (Fq.tr (Fq.ar (by decide)) (Fq.tr (Fq.ar (by decide)) (Fq.tr (Fq.ar (by decide)) (Fq.tr (Fq.ar (by decide)) (Fq.tr (Fq.ar (by decide)) (Fq.rf _))))))
      ·
        by_cases c3 : ((σ.2 0) x1.toNatClampNeg) = 7
        ·
          by_cases c4 : (fX8_writes (ar (ar (ar (ar σ 17 (upd (σ.2 17) (0 : Int32).toNatClampNeg 0)) 18 (upd (σ.2 18) (0 : Int32).toNatClampNeg (fX8_modulo ((σ.2 12) ((σ.2 2) x1.toNatClampNeg).toNatClampNeg) 64))) 19 (upd (σ.2 19) (0 : Int32).toNatClampNeg (-1))) 17 (upd (upd (σ.2 17) (0 : Int32).toNatClampNeg 0) (0 : Int32).toNatClampNeg ((σ.2 4) x1.toNatClampNeg))) x1) = 0
          ·
            have E : fX8_plainRun σ x1 = (ar (ar (ar (ar σ 17 (upd (σ.2 17) (0 : Int32).toNatClampNeg 0)) 18 (upd (σ.2 18) (0 : Int32).toNatClampNeg (fX8_modulo ((σ.2 12) ((σ.2 2) x1.toNatClampNeg).toNatClampNeg) 64))) 19 (upd (σ.2 19) (0 : Int32).toNatClampNeg (-1))) 17 (upd (upd (σ.2 17) (0 : Int32).toNatClampNeg 0) (0 : Int32).toNatClampNeg ((σ.2 4) x1.toNatClampNeg))) := j_ig c0 (j_ig c1 (j_ig c2 (j_ip c3 (j_ip c4 rfl))))
            rw [E]
            exact (Fq.tr (Fq.ar (by decide)) (Fq.tr (Fq.ar (by decide)) (Fq.tr (Fq.ar (by decide)) (Fq.tr (Fq.ar (by decide)) (Fq.rf _)))))
          ·
            have E : fX8_plainRun σ x1 = (ar (ar (ar (ar (ar σ 17 (upd (σ.2 17) (0 : Int32).toNatClampNeg 0)) 18 (upd (σ.2 18) (0 : Int32).toNatClampNeg (fX8_modulo ((σ.2 12) ((σ.2 2) x1.toNatClampNeg).toNatClampNeg) 64))) 19 (upd (σ.2 19) (0 : Int32).toNatClampNeg (-1))) 17 (upd (upd (σ.2 17) (0 : Int32).toNatClampNeg 0) (0 : Int32).toNatClampNeg ((σ.2 4) x1.toNatClampNeg))) 12 (upd (σ.2 12) ((σ.2 1) x1.toNatClampNeg).toNatClampNeg ((σ.2 4) x1.toNatClampNeg))) := j_ig c0 (j_ig c1 (j_ig c2 (j_ip c3 (j_ig c4 rfl))))
            rw [E]
            exact (Fq.tr (Fq.ar (by decide)) (Fq.tr (Fq.ar (by decide)) (Fq.tr (Fq.ar (by decide)) (Fq.tr (Fq.ar (by decide)) (Fq.tr (Fq.ar (by decide)) (Fq.rf _))))))
        ·
          by_cases c4 : ((σ.2 0) x1.toNatClampNeg) = 2
          ·
            by_cases c5 : (fX8_writes (ar (ar (ar (ar (ar σ 17 (upd (σ.2 17) (0 : Int32).toNatClampNeg 0)) 18 (upd (σ.2 18) (0 : Int32).toNatClampNeg (fX8_modulo ((σ.2 12) ((σ.2 2) x1.toNatClampNeg).toNatClampNeg) 64))) 19 (upd (σ.2 19) (0 : Int32).toNatClampNeg (-1))) 17 (upd (upd (σ.2 17) (0 : Int32).toNatClampNeg 0) (0 : Int32).toNatClampNeg ((σ.2 12) ((σ.2 3) x1.toNatClampNeg).toNatClampNeg))) 13 (upd (σ.2 13) (fX8_modulo ((σ.2 12) ((σ.2 2) x1.toNatClampNeg).toNatClampNeg) 64).toNatClampNeg ((σ.2 12) ((σ.2 3) x1.toNatClampNeg).toNatClampNeg))) x1) = 0
            ·
              have E : fX8_plainRun σ x1 = (ar (ar (ar (ar (ar σ 17 (upd (σ.2 17) (0 : Int32).toNatClampNeg 0)) 18 (upd (σ.2 18) (0 : Int32).toNatClampNeg (fX8_modulo ((σ.2 12) ((σ.2 2) x1.toNatClampNeg).toNatClampNeg) 64))) 19 (upd (σ.2 19) (0 : Int32).toNatClampNeg (-1))) 17 (upd (upd (σ.2 17) (0 : Int32).toNatClampNeg 0) (0 : Int32).toNatClampNeg ((σ.2 12) ((σ.2 3) x1.toNatClampNeg).toNatClampNeg))) 13 (upd (σ.2 13) (fX8_modulo ((σ.2 12) ((σ.2 2) x1.toNatClampNeg).toNatClampNeg) 64).toNatClampNeg ((σ.2 12) ((σ.2 3) x1.toNatClampNeg).toNatClampNeg))) := j_ig c0 (j_ig c1 (j_ig c2 (j_ig c3 (j_ip c4 (j_ip c5 rfl)))))
              rw [E]
              exact (Fq.tr (Fq.ar (by decide)) (Fq.tr (Fq.ar (by decide)) (Fq.tr (Fq.ar (by decide)) (Fq.tr (Fq.ar (by decide)) (Fq.tr (Fq.ar (by decide)) (Fq.rf _))))))
            ·
              have E : fX8_plainRun σ x1 = (ar (ar (ar (ar (ar (ar σ 17 (upd (σ.2 17) (0 : Int32).toNatClampNeg 0)) 18 (upd (σ.2 18) (0 : Int32).toNatClampNeg (fX8_modulo ((σ.2 12) ((σ.2 2) x1.toNatClampNeg).toNatClampNeg) 64))) 19 (upd (σ.2 19) (0 : Int32).toNatClampNeg (-1))) 17 (upd (upd (σ.2 17) (0 : Int32).toNatClampNeg 0) (0 : Int32).toNatClampNeg ((σ.2 12) ((σ.2 3) x1.toNatClampNeg).toNatClampNeg))) 13 (upd (σ.2 13) (fX8_modulo ((σ.2 12) ((σ.2 2) x1.toNatClampNeg).toNatClampNeg) 64).toNatClampNeg ((σ.2 12) ((σ.2 3) x1.toNatClampNeg).toNatClampNeg))) 12 (upd (σ.2 12) ((σ.2 1) x1.toNatClampNeg).toNatClampNeg ((σ.2 12) ((σ.2 3) x1.toNatClampNeg).toNatClampNeg))) := j_ig c0 (j_ig c1 (j_ig c2 (j_ig c3 (j_ip c4 (j_ig c5 rfl)))))
              rw [E]
              exact (Fq.tr (Fq.ar (by decide)) (Fq.tr (Fq.ar (by decide)) (Fq.tr (Fq.ar (by decide)) (Fq.tr (Fq.ar (by decide)) (Fq.tr (Fq.ar (by decide)) (Fq.tr (Fq.ar (by decide)) (Fq.rf _)))))))
          ·
            by_cases c5 : (fX8_writes (ar (ar (ar σ 17 (upd (σ.2 17) (0 : Int32).toNatClampNeg 0)) 18 (upd (σ.2 18) (0 : Int32).toNatClampNeg (fX8_modulo ((σ.2 12) ((σ.2 2) x1.toNatClampNeg).toNatClampNeg) 64))) 19 (upd (σ.2 19) (0 : Int32).toNatClampNeg (-1))) x1) = 0
            ·
              by_cases c6 : ((σ.2 0) x1.toNatClampNeg) = 4
              ·
                by_cases c7 : ((σ.2 12) ((σ.2 2) x1.toNatClampNeg).toNatClampNeg) = 0
                ·
                  have E : fX8_plainRun σ x1 = (ar (ar (ar σ 17 (upd (σ.2 17) (0 : Int32).toNatClampNeg 0)) 18 (upd (σ.2 18) (0 : Int32).toNatClampNeg (fX8_modulo ((σ.2 12) ((σ.2 2) x1.toNatClampNeg).toNatClampNeg) 64))) 19 (upd (σ.2 19) (0 : Int32).toNatClampNeg (-1))) := j_ig c0 (j_ig c1 (j_ig c2 (j_ig c3 (j_ig c4 (j_ip c5 (j_ip c6 (j_ip c7 rfl)))))))
                  rw [E]
                  exact (Fq.tr (Fq.ar (by decide)) (Fq.tr (Fq.ar (by decide)) (Fq.tr (Fq.ar (by decide)) (Fq.rf _))))
                ·
                  by_cases c8 : (fX8_modulo ((σ.2 4) x1.toNatClampNeg) (σ.1 6)) < 0
                  ·
                    have E : fX8_plainRun σ x1 = (ar (ar (ar (ar σ 17 (upd (σ.2 17) (0 : Int32).toNatClampNeg 0)) 18 (upd (σ.2 18) (0 : Int32).toNatClampNeg (fX8_modulo ((σ.2 12) ((σ.2 2) x1.toNatClampNeg).toNatClampNeg) 64))) 19 (upd (σ.2 19) (0 : Int32).toNatClampNeg (-1))) 19 (upd (upd (σ.2 19) (0 : Int32).toNatClampNeg (-1)) (0 : Int32).toNatClampNeg (fX8_modulo ((σ.2 4) x1.toNatClampNeg) (σ.1 6)))) := j_ig c0 (j_ig c1 (j_ig c2 (j_ig c3 (j_ig c4 (j_ip c5 (j_ip c6 (j_ig c7 (j_ip c8 rfl))))))))
                    rw [E]
                    exact (Fq.tr (Fq.ar (by decide)) (Fq.tr (Fq.ar (by decide)) (Fq.tr (Fq.ar (by decide)) (Fq.tr (Fq.ar (by decide)) (Fq.rf _)))))
                  ·
                    have E : fX8_plainRun σ x1 = (sg (ar (ar (ar (ar σ 17 (upd (σ.2 17) (0 : Int32).toNatClampNeg 0)) 18 (upd (σ.2 18) (0 : Int32).toNatClampNeg (fX8_modulo ((σ.2 12) ((σ.2 2) x1.toNatClampNeg).toNatClampNeg) 64))) 19 (upd (σ.2 19) (0 : Int32).toNatClampNeg (-1))) 19 (upd (upd (σ.2 19) (0 : Int32).toNatClampNeg (-1)) (0 : Int32).toNatClampNeg (fX8_modulo ((σ.2 4) x1.toNatClampNeg) (σ.1 6)))) 19 1) := j_ig c0 (j_ig c1 (j_ig c2 (j_ig c3 (j_ig c4 (j_ip c5 (j_ip c6 (j_ig c7 (j_ig c8 rfl))))))))
                    rw [E]
                    exact (Fq.tr (Fq.sg (by decide)) (Fq.tr (Fq.ar (by decide)) (Fq.tr (Fq.ar (by decide)) (Fq.tr (Fq.ar (by decide)) (Fq.tr (Fq.ar (by decide)) (Fq.rf _))))))
              ·
                by_cases c7 : ((σ.2 0) x1.toNatClampNeg) = 6
                ·
                  have E : fX8_plainRun σ x1 = (sg (ar (ar (ar σ 17 (upd (σ.2 17) (0 : Int32).toNatClampNeg 0)) 18 (upd (σ.2 18) (0 : Int32).toNatClampNeg (fX8_modulo ((σ.2 12) ((σ.2 2) x1.toNatClampNeg).toNatClampNeg) 64))) 19 (upd (σ.2 19) (0 : Int32).toNatClampNeg (-1))) 20 1) := j_ig c0 (j_ig c1 (j_ig c2 (j_ig c3 (j_ig c4 (j_ip c5 (j_ig c6 (j_ip c7 rfl)))))))
                  rw [E]
                  exact (Fq.tr (Fq.sg (by decide)) (Fq.tr (Fq.ar (by decide)) (Fq.tr (Fq.ar (by decide)) (Fq.tr (Fq.ar (by decide)) (Fq.rf _)))))
                ·
                  by_cases c8 : ((σ.2 0) x1.toNatClampNeg) = 5
                  ·
                    have E : fX8_plainRun σ x1 = (sg (ar (ar (ar σ 17 (upd (σ.2 17) (0 : Int32).toNatClampNeg 0)) 18 (upd (σ.2 18) (0 : Int32).toNatClampNeg (fX8_modulo ((σ.2 12) ((σ.2 2) x1.toNatClampNeg).toNatClampNeg) 64))) 19 (upd (σ.2 19) (0 : Int32).toNatClampNeg (-1))) 19 1) := j_ig c0 (j_ig c1 (j_ig c2 (j_ig c3 (j_ig c4 (j_ip c5 (j_ig c6 (j_ig c7 (j_ip c8 rfl))))))))
                    rw [E]
                    exact (Fq.tr (Fq.sg (by decide)) (Fq.tr (Fq.ar (by decide)) (Fq.tr (Fq.ar (by decide)) (Fq.tr (Fq.ar (by decide)) (Fq.rf _)))))
                  ·
                    have E : fX8_plainRun σ x1 = (ar (ar (ar σ 17 (upd (σ.2 17) (0 : Int32).toNatClampNeg 0)) 18 (upd (σ.2 18) (0 : Int32).toNatClampNeg (fX8_modulo ((σ.2 12) ((σ.2 2) x1.toNatClampNeg).toNatClampNeg) 64))) 19 (upd (σ.2 19) (0 : Int32).toNatClampNeg (-1))) := j_ig c0 (j_ig c1 (j_ig c2 (j_ig c3 (j_ig c4 (j_ip c5 (j_ig c6 (j_ig c7 (j_ig c8 rfl))))))))
                    rw [E]
                    exact (Fq.tr (Fq.ar (by decide)) (Fq.tr (Fq.ar (by decide)) (Fq.tr (Fq.ar (by decide)) (Fq.rf _))))
            ·
              by_cases c6 : ((σ.2 0) x1.toNatClampNeg) = 4
              ·
                by_cases c7 : ((σ.2 12) ((σ.2 2) x1.toNatClampNeg).toNatClampNeg) = 0
                ·
                  have E : fX8_plainRun σ x1 = (ar (ar (ar (ar σ 17 (upd (σ.2 17) (0 : Int32).toNatClampNeg 0)) 18 (upd (σ.2 18) (0 : Int32).toNatClampNeg (fX8_modulo ((σ.2 12) ((σ.2 2) x1.toNatClampNeg).toNatClampNeg) 64))) 19 (upd (σ.2 19) (0 : Int32).toNatClampNeg (-1))) 12 (upd (σ.2 12) ((σ.2 1) x1.toNatClampNeg).toNatClampNeg 0)) := j_ig c0 (j_ig c1 (j_ig c2 (j_ig c3 (j_ig c4 (j_ig c5 (j_ip c6 (j_ip c7 rfl)))))))
                  rw [E]
                  exact (Fq.tr (Fq.ar (by decide)) (Fq.tr (Fq.ar (by decide)) (Fq.tr (Fq.ar (by decide)) (Fq.tr (Fq.ar (by decide)) (Fq.rf _)))))
                ·
                  by_cases c8 : (fX8_modulo ((σ.2 4) x1.toNatClampNeg) (σ.1 6)) < 0
                  ·
                    have E : fX8_plainRun σ x1 = (ar (ar (ar (ar (ar σ 17 (upd (σ.2 17) (0 : Int32).toNatClampNeg 0)) 18 (upd (σ.2 18) (0 : Int32).toNatClampNeg (fX8_modulo ((σ.2 12) ((σ.2 2) x1.toNatClampNeg).toNatClampNeg) 64))) 19 (upd (σ.2 19) (0 : Int32).toNatClampNeg (-1))) 12 (upd (σ.2 12) ((σ.2 1) x1.toNatClampNeg).toNatClampNeg 0)) 19 (upd (upd (σ.2 19) (0 : Int32).toNatClampNeg (-1)) (0 : Int32).toNatClampNeg (fX8_modulo ((σ.2 4) x1.toNatClampNeg) (σ.1 6)))) := j_ig c0 (j_ig c1 (j_ig c2 (j_ig c3 (j_ig c4 (j_ig c5 (j_ip c6 (j_ig c7 (j_ip c8 rfl))))))))
                    rw [E]
                    exact (Fq.tr (Fq.ar (by decide)) (Fq.tr (Fq.ar (by decide)) (Fq.tr (Fq.ar (by decide)) (Fq.tr (Fq.ar (by decide)) (Fq.tr (Fq.ar (by decide)) (Fq.rf _))))))
                  ·
                    have E : fX8_plainRun σ x1 = (sg (ar (ar (ar (ar (ar σ 17 (upd (σ.2 17) (0 : Int32).toNatClampNeg 0)) 18 (upd (σ.2 18) (0 : Int32).toNatClampNeg (fX8_modulo ((σ.2 12) ((σ.2 2) x1.toNatClampNeg).toNatClampNeg) 64))) 19 (upd (σ.2 19) (0 : Int32).toNatClampNeg (-1))) 12 (upd (σ.2 12) ((σ.2 1) x1.toNatClampNeg).toNatClampNeg 0)) 19 (upd (upd (σ.2 19) (0 : Int32).toNatClampNeg (-1)) (0 : Int32).toNatClampNeg (fX8_modulo ((σ.2 4) x1.toNatClampNeg) (σ.1 6)))) 19 1) := j_ig c0 (j_ig c1 (j_ig c2 (j_ig c3 (j_ig c4 (j_ig c5 (j_ip c6 (j_ig c7 (j_ig c8 rfl))))))))
                    rw [E]
                    exact (Fq.tr (Fq.sg (by decide)) (Fq.tr (Fq.ar (by decide)) (Fq.tr (Fq.ar (by decide)) (Fq.tr (Fq.ar (by decide)) (Fq.tr (Fq.ar (by decide)) (Fq.tr (Fq.ar (by decide)) (Fq.rf _)))))))
              ·
                by_cases c7 : ((σ.2 0) x1.toNatClampNeg) = 6
                ·
                  have E : fX8_plainRun σ x1 = (sg (ar (ar (ar (ar σ 17 (upd (σ.2 17) (0 : Int32).toNatClampNeg 0)) 18 (upd (σ.2 18) (0 : Int32).toNatClampNeg (fX8_modulo ((σ.2 12) ((σ.2 2) x1.toNatClampNeg).toNatClampNeg) 64))) 19 (upd (σ.2 19) (0 : Int32).toNatClampNeg (-1))) 12 (upd (σ.2 12) ((σ.2 1) x1.toNatClampNeg).toNatClampNeg 0)) 20 1) := j_ig c0 (j_ig c1 (j_ig c2 (j_ig c3 (j_ig c4 (j_ig c5 (j_ig c6 (j_ip c7 rfl)))))))
                  rw [E]
                  exact (Fq.tr (Fq.sg (by decide)) (Fq.tr (Fq.ar (by decide)) (Fq.tr (Fq.ar (by decide)) (Fq.tr (Fq.ar (by decide)) (Fq.tr (Fq.ar (by decide)) (Fq.rf _))))))
                ·
                  by_cases c8 : ((σ.2 0) x1.toNatClampNeg) = 5
                  ·
                    have E : fX8_plainRun σ x1 = (sg (ar (ar (ar (ar σ 17 (upd (σ.2 17) (0 : Int32).toNatClampNeg 0)) 18 (upd (σ.2 18) (0 : Int32).toNatClampNeg (fX8_modulo ((σ.2 12) ((σ.2 2) x1.toNatClampNeg).toNatClampNeg) 64))) 19 (upd (σ.2 19) (0 : Int32).toNatClampNeg (-1))) 12 (upd (σ.2 12) ((σ.2 1) x1.toNatClampNeg).toNatClampNeg 0)) 19 1) := j_ig c0 (j_ig c1 (j_ig c2 (j_ig c3 (j_ig c4 (j_ig c5 (j_ig c6 (j_ig c7 (j_ip c8 rfl))))))))
                    rw [E]
                    exact (Fq.tr (Fq.sg (by decide)) (Fq.tr (Fq.ar (by decide)) (Fq.tr (Fq.ar (by decide)) (Fq.tr (Fq.ar (by decide)) (Fq.tr (Fq.ar (by decide)) (Fq.rf _))))))
                  ·
                    have E : fX8_plainRun σ x1 = (ar (ar (ar (ar σ 17 (upd (σ.2 17) (0 : Int32).toNatClampNeg 0)) 18 (upd (σ.2 18) (0 : Int32).toNatClampNeg (fX8_modulo ((σ.2 12) ((σ.2 2) x1.toNatClampNeg).toNatClampNeg) 64))) 19 (upd (σ.2 19) (0 : Int32).toNatClampNeg (-1))) 12 (upd (σ.2 12) ((σ.2 1) x1.toNatClampNeg).toNatClampNeg 0)) := j_ig c0 (j_ig c1 (j_ig c2 (j_ig c3 (j_ig c4 (j_ig c5 (j_ig c6 (j_ig c7 (j_ig c8 rfl))))))))
                    rw [E]
                    exact (Fq.tr (Fq.ar (by decide)) (Fq.tr (Fq.ar (by decide)) (Fq.tr (Fq.ar (by decide)) (Fq.tr (Fq.ar (by decide)) (Fq.rf _)))))
theorem fr_fX8_fetch (σ : St) : Fq (fX8_fetch σ) σ := by
  by_cases c0 : (σ.1 21) = 0
  ·
    have E : fX8_fetch σ = σ := j_ip c0 rfl
    rw [E]
    exact (Fq.rf _)
  ·
    by_cases c1 : 0 ≤ ((σ.2 5) (0 : Int32).toNatClampNeg)
    ·
      have E : fX8_fetch σ = σ := j_ig c0 (j_ip c1 rfl)
      rw [E]
      exact (Fq.rf _)
    ·
      by_cases c2 : (σ.1 20) = 0
      ·
        by_cases c3 : (σ.1 19) = 0
        ·
          have E : fX8_fetch σ = (fX8_plainRun (ar (ar (ar (ar (sg (sg σ 18 (((σ.1 18) + 1) - ((σ.1 18) + 1) / (σ.1 6) * (σ.1 6))) 11 ((σ.1 11) + 1)) 5 (upd (σ.2 5) (0 : Int32).toNatClampNeg (σ.1 18))) 6 (upd (σ.2 6) (0 : Int32).toNatClampNeg (vp_nar .boolean 1))) 7 (upd (σ.2 7) (0 : Int32).toNatClampNeg (vp_nar .boolean 0))) 16 (upd (σ.2 16) (0 : Int32).toNatClampNeg 0)) (σ.1 18)) := j_ig c0 (j_ig c1 (j_ip c2 (j_ip c3 rfl)))
          rw [E]
          exact (Fq.tr (fr_fX8_plainRun _ _) (Fq.tr (Fq.ar (by decide)) (Fq.tr (Fq.ar (by decide)) (Fq.tr (Fq.ar (by decide)) (Fq.tr (Fq.ar (by decide)) (Fq.tr (Fq.sg (by decide)) (Fq.tr (Fq.sg (by decide)) (Fq.rf _))))))))
        ·
          have E : fX8_fetch σ = (ar (ar (ar (ar (sg (sg σ 18 (((σ.1 18) + 1) - ((σ.1 18) + 1) / (σ.1 6) * (σ.1 6))) 11 ((σ.1 11) + 1)) 5 (upd (σ.2 5) (0 : Int32).toNatClampNeg (σ.1 18))) 6 (upd (σ.2 6) (0 : Int32).toNatClampNeg (vp_nar .boolean 0))) 7 (upd (σ.2 7) (0 : Int32).toNatClampNeg (vp_nar .boolean 0))) 16 (upd (σ.2 16) (0 : Int32).toNatClampNeg 0)) := j_ig c0 (j_ig c1 (j_ip c2 (j_ig c3 rfl)))
          rw [E]
          exact (Fq.tr (Fq.ar (by decide)) (Fq.tr (Fq.ar (by decide)) (Fq.tr (Fq.ar (by decide)) (Fq.tr (Fq.ar (by decide)) (Fq.tr (Fq.sg (by decide)) (Fq.tr (Fq.sg (by decide)) (Fq.rf _)))))))
      ·
        have E : fX8_fetch σ = σ := j_ig c0 (j_ig c1 (j_ig c2 rfl))
        rw [E]
        exact (Fq.rf _)
theorem fr_fX8_cycle (σ : St) : Fq (fX8_cycle σ) σ := by
  by_cases c0 : ((fX8_leave (sg (sg σ 9 ((σ.1 9) + 1)) 21 1)).2.1 15) = 0
  ·
    by_cases c1 : 4 ≤ (fX8_leave (sg (sg σ 9 ((σ.1 9) + 1)) 21 1)).1
    ·
      have E : fX8_cycle σ = (ar (fX8_fetch (fX8_goOn (fX8_leave (sg (sg σ 9 ((σ.1 9) + 1)) 21 1)).2).2) 11 (upd ((fX8_fetch (fX8_goOn (fX8_leave (sg (sg σ 9 ((σ.1 9) + 1)) 21 1)).2).2).2 11) (fX8_goOn (fX8_leave (sg (sg σ 9 ((σ.1 9) + 1)) 21 1)).2).1.toNatClampNeg ((((fX8_fetch (fX8_goOn (fX8_leave (sg (sg σ 9 ((σ.1 9) + 1)) 21 1)).2).2).2 11) (fX8_goOn (fX8_leave (sg (sg σ 9 ((σ.1 9) + 1)) 21 1)).2).1.toNatClampNeg) + 1))) := j_ip c0 (j_ip c1 rfl)
      rw [E]
      exact (Fq.tr (Fq.ar (by decide)) (Fq.tr (fr_fX8_fetch _) (Fq.tr (fr_fX8_goOn _) (Fq.tr (fr_fX8_leave _) (Fq.tr (Fq.sg (by decide)) (Fq.tr (Fq.sg (by decide)) (Fq.rf _)))))))
    ·
      have E : fX8_cycle σ = (ar (fX8_fetch (fX8_goOn (fX8_leave (sg (sg σ 9 ((σ.1 9) + 1)) 21 1)).2).2) 11 (upd ((fX8_fetch (fX8_goOn (fX8_leave (sg (sg σ 9 ((σ.1 9) + 1)) 21 1)).2).2).2 11) (fX8_leave (sg (sg σ 9 ((σ.1 9) + 1)) 21 1)).1.toNatClampNeg ((((fX8_fetch (fX8_goOn (fX8_leave (sg (sg σ 9 ((σ.1 9) + 1)) 21 1)).2).2).2 11) (fX8_leave (sg (sg σ 9 ((σ.1 9) + 1)) 21 1)).1.toNatClampNeg) + 1))) := j_ip c0 (j_ig c1 rfl)
      rw [E]
      exact (Fq.tr (Fq.ar (by decide)) (Fq.tr (fr_fX8_fetch _) (Fq.tr (fr_fX8_goOn _) (Fq.tr (fr_fX8_leave _) (Fq.tr (Fq.sg (by decide)) (Fq.tr (Fq.sg (by decide)) (Fq.rf _)))))))
  ·
    have E : fX8_cycle σ = (ar (fX8_leave (sg (sg σ 9 ((σ.1 9) + 1)) 21 1)).2 11 (upd ((fX8_leave (sg (sg σ 9 ((σ.1 9) + 1)) 21 1)).2.2 11) (fX8_leave (sg (sg σ 9 ((σ.1 9) + 1)) 21 1)).1.toNatClampNeg ((((fX8_leave (sg (sg σ 9 ((σ.1 9) + 1)) 21 1)).2.2 11) (fX8_leave (sg (sg σ 9 ((σ.1 9) + 1)) 21 1)).1.toNatClampNeg) + 1))) := j_ig c0 rfl
    rw [E]
    exact (Fq.tr (Fq.ar (by decide)) (Fq.tr (fr_fX8_leave _) (Fq.tr (Fq.sg (by decide)) (Fq.tr (Fq.sg (by decide)) (Fq.rf _)))))
theorem fr_gfX8_run : ∀ (n : Nat) (σ : St) (x1 x2 : Int32), Fq (gfX8_run n σ x1 x2).2 σ := by
  intro n
  induction n with
  | zero => intro σ x1 x2; exact Fq.rf _
  | succ n ih =>
    intro σ x1 x2
    by_cases c0 : x1 ≤ x2
    ·
      have E : gfX8_run (n + 1) σ x1 x2 = (x2, σ) := j_ip c0 rfl
      rw [E]
      exact (Fq.rf _)
    ·
      by_cases c1 : (σ.1 15) = 0
      ·
        have E : gfX8_run (n + 1) σ x1 x2 = gfX8_run n (fX8_cycle σ) x1 (x2 + 1) := j_ig c0 (j_ip c1 rfl)
        rw [E]
        exact (Fq.tr (ih _ _ _) (Fq.tr (fr_fX8_cycle _) (Fq.rf _)))
      ·
        have E : gfX8_run (n + 1) σ x1 x2 = (x2, σ) := j_ig c0 (j_ig c1 rfl)
        rw [E]
        exact (Fq.rf _)
theorem fr_fX8_run (σ : St) (x1 : Int32) : Fq (fX8_run σ x1).2 σ := by
  by_cases c0 : (fX8_within x1 1 2000) = 0
  ·
    have E : fX8_run σ x1 = ((fX8_fail (sg σ 22 0) 1).1, (fX8_fail (sg σ 22 0) 1).2) := j_ip c0 rfl
    rw [E]
    exact (Fq.tr (fr_fX8_fail _ _) (Fq.tr (Fq.sg (by decide)) (Fq.rf _)))
  ·
    by_cases c1 : (σ.1 6) = 0
    ·
      have E : fX8_run σ x1 = ((fX8_fail (sg σ 22 0) 2).1, (fX8_fail (sg σ 22 0) 2).2) := j_ig c0 (j_ip c1 rfl)
      rw [E]
      exact (Fq.tr (fr_fX8_fail _ _) (Fq.tr (Fq.sg (by decide)) (Fq.rf _)))
    ·
      have E : fX8_run σ x1 = gfX8_run 2001 (sg σ 22 0) x1 0 := j_ig c0 (j_ig c1 rfl)
      rw [E]
      exact (Fq.tr (fr_gfX8_run _ _ _ _) (Fq.tr (Fq.sg (by decide)) (Fq.rf _)))
theorem fr_fX8_stage (σ : St) (x1 x2 : Int32) : Fq (fX8_stage σ x1 x2).2 σ := by
  by_cases c0 : (fX8_within x1 0 ((σ.1 0) - 1)) = 0
  ·
    have E : fX8_stage σ x1 x2 = ((fX8_fail (sg σ 22 0) 1).1, (fX8_fail (sg σ 22 0) 1).2) := j_ip c0 rfl
    rw [E]
    exact (Fq.tr (fr_fX8_fail _ _) (Fq.tr (Fq.sg (by decide)) (Fq.rf _)))
  ·
    by_cases c1 : (fX8_within x2 0 1) = 0
    ·
      have E : fX8_stage σ x1 x2 = ((fX8_fail (sg σ 22 0) 1).1, (fX8_fail (sg σ 22 0) 1).2) := j_ig c0 (j_ip c1 rfl)
      rw [E]
      exact (Fq.tr (fr_fX8_fail _ _) (Fq.tr (Fq.sg (by decide)) (Fq.rf _)))
    ·
      by_cases c2 : x2 = 0
      ·
        have E : fX8_stage σ x1 x2 = (((σ.2 5) x1.toNatClampNeg), (sg σ 22 0)) := j_ig c0 (j_ig c1 (j_ip c2 rfl))
        rw [E]
        exact (Fq.tr (Fq.sg (by decide)) (Fq.rf _))
      ·
        by_cases c3 : ((σ.2 5) x1.toNatClampNeg) < 0
        ·
          have E : fX8_stage σ x1 x2 = (0, (sg σ 22 0)) := j_ig c0 (j_ig c1 (j_ig c2 (j_ip c3 rfl)))
          rw [E]
          exact (Fq.tr (Fq.sg (by decide)) (Fq.rf _))
        ·
          by_cases c4 : ((σ.2 6) x1.toNatClampNeg) = 0
          ·
            have E : fX8_stage σ x1 x2 = (0, (sg σ 22 0)) := j_ig c0 (j_ig c1 (j_ig c2 (j_ig c3 (j_ip c4 rfl))))
            rw [E]
            exact (Fq.tr (Fq.sg (by decide)) (Fq.rf _))
          ·
            have E : fX8_stage σ x1 x2 = (1, (sg σ 22 0)) := j_ig c0 (j_ig c1 (j_ig c2 (j_ig c3 (j_ig c4 rfl))))
            rw [E]
            exact (Fq.tr (Fq.sg (by decide)) (Fq.rf _))
theorem fr_fX8_committed (σ : St) (x1 x2 : Int32) : Fq (fX8_committed σ x1 x2).2 σ := by
  by_cases c0 : 400 ≤ (σ.1 10)
  ·
    by_cases c1 : (fX8_within x1 0 (400 - 1)) = 0
    ·
      have E : fX8_committed σ x1 x2 = ((fX8_fail (sg σ 22 0) 1).1, (fX8_fail (sg σ 22 0) 1).2) := j_ip c0 (j_ip c1 rfl)
      rw [E]
      exact (Fq.tr (fr_fX8_fail _ _) (Fq.tr (Fq.sg (by decide)) (Fq.rf _)))
    ·
      by_cases c2 : (fX8_within x2 0 2) = 0
      ·
        have E : fX8_committed σ x1 x2 = ((fX8_fail (sg σ 22 0) 1).1, (fX8_fail (sg σ 22 0) 1).2) := j_ip c0 (j_ig c1 (j_ip c2 rfl))
        rw [E]
        exact (Fq.tr (fr_fX8_fail _ _) (Fq.tr (Fq.sg (by decide)) (Fq.rf _)))
      ·
        by_cases c3 : x2 = 0
        ·
          have E : fX8_committed σ x1 x2 = (((σ.2 8) ((((σ.1 10) - 400) + x1) - (((σ.1 10) - 400) + x1) / 400 * 400).toNatClampNeg), (sg σ 22 0)) := j_ip c0 (j_ig c1 (j_ig c2 (j_ip c3 rfl)))
          rw [E]
          exact (Fq.tr (Fq.sg (by decide)) (Fq.rf _))
        ·
          by_cases c4 : x2 = 1
          ·
            have E : fX8_committed σ x1 x2 = (((σ.2 9) ((((σ.1 10) - 400) + x1) - (((σ.1 10) - 400) + x1) / 400 * 400).toNatClampNeg), (sg σ 22 0)) := j_ip c0 (j_ig c1 (j_ig c2 (j_ig c3 (j_ip c4 rfl))))
            rw [E]
            exact (Fq.tr (Fq.sg (by decide)) (Fq.rf _))
          ·
            have E : fX8_committed σ x1 x2 = (((σ.2 10) ((((σ.1 10) - 400) + x1) - (((σ.1 10) - 400) + x1) / 400 * 400).toNatClampNeg), (sg σ 22 0)) := j_ip c0 (j_ig c1 (j_ig c2 (j_ig c3 (j_ig c4 rfl))))
            rw [E]
            exact (Fq.tr (Fq.sg (by decide)) (Fq.rf _))
  ·
    by_cases c1 : (fX8_within x1 0 ((σ.1 10) - 1)) = 0
    ·
      have E : fX8_committed σ x1 x2 = ((fX8_fail (sg σ 22 0) 1).1, (fX8_fail (sg σ 22 0) 1).2) := j_ig c0 (j_ip c1 rfl)
      rw [E]
      exact (Fq.tr (fr_fX8_fail _ _) (Fq.tr (Fq.sg (by decide)) (Fq.rf _)))
    ·
      by_cases c2 : (fX8_within x2 0 2) = 0
      ·
        have E : fX8_committed σ x1 x2 = ((fX8_fail (sg σ 22 0) 1).1, (fX8_fail (sg σ 22 0) 1).2) := j_ig c0 (j_ig c1 (j_ip c2 rfl))
        rw [E]
        exact (Fq.tr (fr_fX8_fail _ _) (Fq.tr (Fq.sg (by decide)) (Fq.rf _)))
      ·
        by_cases c3 : x2 = 0
        ·
          have E : fX8_committed σ x1 x2 = (((σ.2 8) ((((σ.1 10) - (σ.1 10)) + x1) - (((σ.1 10) - (σ.1 10)) + x1) / 400 * 400).toNatClampNeg), (sg σ 22 0)) := j_ig c0 (j_ig c1 (j_ig c2 (j_ip c3 rfl)))
          rw [E]
          exact (Fq.tr (Fq.sg (by decide)) (Fq.rf _))
        ·
          by_cases c4 : x2 = 1
          ·
            have E : fX8_committed σ x1 x2 = (((σ.2 9) ((((σ.1 10) - (σ.1 10)) + x1) - (((σ.1 10) - (σ.1 10)) + x1) / 400 * 400).toNatClampNeg), (sg σ 22 0)) := j_ig c0 (j_ig c1 (j_ig c2 (j_ig c3 (j_ip c4 rfl))))
            rw [E]
            exact (Fq.tr (Fq.sg (by decide)) (Fq.rf _))
          ·
            have E : fX8_committed σ x1 x2 = (((σ.2 10) ((((σ.1 10) - (σ.1 10)) + x1) - (((σ.1 10) - (σ.1 10)) + x1) / 400 * 400).toNatClampNeg), (sg σ 22 0)) := j_ig c0 (j_ig c1 (j_ig c2 (j_ig c3 (j_ig c4 rfl))))
            rw [E]
            exact (Fq.tr (Fq.sg (by decide)) (Fq.rf _))
theorem fr_fX8_register (σ : St) (x1 : Int32) : Fq (fX8_register σ x1).2 σ := by
  by_cases c0 : (fX8_isRegister x1) = 0
  ·
    have E : fX8_register σ x1 = ((fX8_fail (sg σ 22 0) 1).1, (fX8_fail (sg σ 22 0) 1).2) := j_ip c0 rfl
    rw [E]
    exact (Fq.tr (fr_fX8_fail _ _) (Fq.tr (Fq.sg (by decide)) (Fq.rf _)))
  ·
    have E : fX8_register σ x1 = (((σ.2 14) x1.toNatClampNeg), (sg σ 22 0)) := j_ig c0 rfl
    rw [E]
    exact (Fq.tr (Fq.sg (by decide)) (Fq.rf _))
theorem fr_fX8_memory (σ : St) (x1 : Int32) : Fq (fX8_memory σ x1).2 σ := by
  by_cases c0 : (fX8_within x1 0 63) = 0
  ·
    have E : fX8_memory σ x1 = ((fX8_fail (sg σ 22 0) 1).1, (fX8_fail (sg σ 22 0) 1).2) := j_ip c0 rfl
    rw [E]
    exact (Fq.tr (fr_fX8_fail _ _) (Fq.tr (Fq.sg (by decide)) (Fq.rf _)))
  ·
    have E : fX8_memory σ x1 = (((σ.2 15) x1.toNatClampNeg), (sg σ 22 0)) := j_ig c0 rfl
    rw [E]
    exact (Fq.tr (Fq.sg (by decide)) (Fq.rf _))
theorem fr_fX8_cause (σ : St) (x1 : Int32) : Fq (fX8_cause σ x1).2 σ := by
  by_cases c0 : (fX8_within x1 0 4) = 0
  ·
    have E : fX8_cause σ x1 = ((fX8_fail (sg σ 22 0) 1).1, (fX8_fail (sg σ 22 0) 1).2) := j_ip c0 rfl
    rw [E]
    exact (Fq.tr (fr_fX8_fail _ _) (Fq.tr (Fq.sg (by decide)) (Fq.rf _)))
  ·
    have E : fX8_cause σ x1 = (((σ.2 11) x1.toNatClampNeg), (sg σ 22 0)) := j_ig c0 rfl
    rw [E]
    exact (Fq.tr (Fq.sg (by decide)) (Fq.rf _))
theorem fr_fX8_count (σ : St) (x1 : Int32) : Fq (fX8_count σ x1).2 σ := by
  by_cases c0 : x1 = 0
  ·
    have E : fX8_count σ x1 = ((σ.1 9), (sg σ 22 0)) := j_ip c0 rfl
    rw [E]
    exact (Fq.tr (Fq.sg (by decide)) (Fq.rf _))
  ·
    by_cases c1 : x1 = 1
    ·
      have E : fX8_count σ x1 = ((σ.1 10), (sg σ 22 0)) := j_ig c0 (j_ip c1 rfl)
      rw [E]
      exact (Fq.tr (Fq.sg (by decide)) (Fq.rf _))
    ·
      by_cases c2 : x1 = 2
      ·
        have E : fX8_count σ x1 = ((σ.1 11), (sg σ 22 0)) := j_ig c0 (j_ig c1 (j_ip c2 rfl))
        rw [E]
        exact (Fq.tr (Fq.sg (by decide)) (Fq.rf _))
      ·
        by_cases c3 : x1 = 3
        ·
          have E : fX8_count σ x1 = ((σ.1 12), (sg σ 22 0)) := j_ig c0 (j_ig c1 (j_ig c2 (j_ip c3 rfl)))
          rw [E]
          exact (Fq.tr (Fq.sg (by decide)) (Fq.rf _))
        ·
          by_cases c4 : x1 = 4
          ·
            have E : fX8_count σ x1 = ((σ.1 13), (sg σ 22 0)) := j_ig c0 (j_ig c1 (j_ig c2 (j_ig c3 (j_ip c4 rfl))))
            rw [E]
            exact (Fq.tr (Fq.sg (by decide)) (Fq.rf _))
          ·
            by_cases c5 : x1 = 5
            ·
              by_cases c6 : (σ.1 15) = 0
              ·
                have E : fX8_count σ x1 = (0, (sg σ 22 0)) := j_ig c0 (j_ig c1 (j_ig c2 (j_ig c3 (j_ig c4 (j_ip c5 (j_ip c6 rfl))))))
                rw [E]
                exact (Fq.tr (Fq.sg (by decide)) (Fq.rf _))
              ·
                have E : fX8_count σ x1 = (1, (sg σ 22 0)) := j_ig c0 (j_ig c1 (j_ig c2 (j_ig c3 (j_ig c4 (j_ip c5 (j_ig c6 rfl))))))
                rw [E]
                exact (Fq.tr (Fq.sg (by decide)) (Fq.rf _))
            ·
              by_cases c6 : x1 = 6
              ·
                have E : fX8_count σ x1 = ((σ.1 0), (sg σ 22 0)) := j_ig c0 (j_ig c1 (j_ig c2 (j_ig c3 (j_ig c4 (j_ig c5 (j_ip c6 rfl))))))
                rw [E]
                exact (Fq.tr (Fq.sg (by decide)) (Fq.rf _))
              ·
                by_cases c7 : x1 = 7
                ·
                  have E : fX8_count σ x1 = ((σ.1 1), (sg σ 22 0)) := j_ig c0 (j_ig c1 (j_ig c2 (j_ig c3 (j_ig c4 (j_ig c5 (j_ig c6 (j_ip c7 rfl)))))))
                  rw [E]
                  exact (Fq.tr (Fq.sg (by decide)) (Fq.rf _))
                ·
                  by_cases c8 : x1 = 8
                  ·
                    have E : fX8_count σ x1 = ((σ.1 2), (sg σ 22 0)) := j_ig c0 (j_ig c1 (j_ig c2 (j_ig c3 (j_ig c4 (j_ig c5 (j_ig c6 (j_ig c7 (j_ip c8 rfl))))))))
                    rw [E]
                    exact (Fq.tr (Fq.sg (by decide)) (Fq.rf _))
                  ·
                    by_cases c9 : x1 = 9
                    ·
                      have E : fX8_count σ x1 = ((σ.1 3), (sg σ 22 0)) := j_ig c0 (j_ig c1 (j_ig c2 (j_ig c3 (j_ig c4 (j_ig c5 (j_ig c6 (j_ig c7 (j_ig c8 (j_ip c9 rfl)))))))))
                      rw [E]
                      exact (Fq.tr (Fq.sg (by decide)) (Fq.rf _))
                    ·
                      by_cases c10 : x1 = 10
                      ·
                        have E : fX8_count σ x1 = ((σ.1 4), (sg σ 22 0)) := j_ig c0 (j_ig c1 (j_ig c2 (j_ig c3 (j_ig c4 (j_ig c5 (j_ig c6 (j_ig c7 (j_ig c8 (j_ig c9 (j_ip c10 rfl))))))))))
                        rw [E]
                        exact (Fq.tr (Fq.sg (by decide)) (Fq.rf _))
                      ·
                        by_cases c11 : x1 = 11
                        ·
                          have E : fX8_count σ x1 = ((σ.1 5), (sg σ 22 0)) := j_ig c0 (j_ig c1 (j_ig c2 (j_ig c3 (j_ig c4 (j_ig c5 (j_ig c6 (j_ig c7 (j_ig c8 (j_ig c9 (j_ig c10 (j_ip c11 rfl)))))))))))
                          rw [E]
                          exact (Fq.tr (Fq.sg (by decide)) (Fq.rf _))
                        ·
                          by_cases c12 : x1 = 12
                          ·
                            have E : fX8_count σ x1 = ((σ.1 6), (sg σ 22 0)) := j_ig c0 (j_ig c1 (j_ig c2 (j_ig c3 (j_ig c4 (j_ig c5 (j_ig c6 (j_ig c7 (j_ig c8 (j_ig c9 (j_ig c10 (j_ig c11 (j_ip c12 rfl))))))))))))
                            rw [E]
                            exact (Fq.tr (Fq.sg (by decide)) (Fq.rf _))
                          ·
                            by_cases c13 : x1 = 13
                            ·
                              have E : fX8_count σ x1 = ((σ.1 14), (sg σ 22 0)) := j_ig c0 (j_ig c1 (j_ig c2 (j_ig c3 (j_ig c4 (j_ig c5 (j_ig c6 (j_ig c7 (j_ig c8 (j_ig c9 (j_ig c10 (j_ig c11 (j_ig c12 (j_ip c13 rfl)))))))))))))
                              rw [E]
                              exact (Fq.tr (Fq.sg (by decide)) (Fq.rf _))
                            ·
                              have E : fX8_count σ x1 = ((-1), (sg σ 22 0)) := j_ig c0 (j_ig c1 (j_ig c2 (j_ig c3 (j_ig c4 (j_ig c5 (j_ig c6 (j_ig c7 (j_ig c8 (j_ig c9 (j_ig c10 (j_ig c11 (j_ig c12 (j_ig c13 rfl)))))))))))))
                              rw [E]
                              exact (Fq.tr (Fq.sg (by decide)) (Fq.rf _))
