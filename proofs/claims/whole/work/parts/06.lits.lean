section
/-! comparisons with literals -/
theorem el_a0 {a : Nat} (h : a < 2 ^ 31) : (0 : Int32) ≤ nI a ↔ 0 ≤ a := nI_leI (a := 0) (by decide) h
theorem el_b0 {a : Nat} (h : a < 2 ^ 31) : nI a ≤ (0 : Int32) ↔ a ≤ 0 := nI_leI (b := 0) h (by decide)
theorem el_c0 {a : Nat} (h : a < 2 ^ 31) : (0 : Int32) < nI a ↔ 0 < a := nI_ltI (a := 0) (by decide) h
theorem el_d0 {a : Nat} (h : a < 2 ^ 31) : nI a < (0 : Int32) ↔ a < 0 := nI_ltI (b := 0) h (by decide)
theorem el_e0 {a : Nat} (h : a < 2 ^ 31) : nI a = (0 : Int32) ↔ a = 0 := nI_eq (b := 0) h (by decide)
theorem el_f0 {a : Nat} (h : a < 2 ^ 31) : (0 : Int32) = nI a ↔ 0 = a := nI_eq (a := 0) (by decide) h
theorem eb_a0 {a : Nat} (h : 0 ≤ a) (g : a < 2 ^ 31) : ((0 : Int32) ≤ nI a) = True := eq_true ((el_a0 g).mpr h)
theorem eb_b0 {a : Nat} (h : a < 0) : ((0 : Int32) ≤ nI a) = False := eq_false (fun z => by have := (el_a0 (by omega)).mp z; omega)
theorem eb_c0 {a : Nat} (h : a ≤ 0) : (nI a ≤ (0 : Int32)) = True := eq_true ((el_b0 (by omega)).mpr h)
theorem eb_d0 {a : Nat} (h : 0 < a) (g : a < 2 ^ 31) : (nI a ≤ (0 : Int32)) = False := eq_false (fun z => by have := (el_b0 g).mp z; omega)
theorem eb_e0 {a : Nat} (h : 0 < a) (g : a < 2 ^ 31) : ((0 : Int32) < nI a) = True := eq_true ((el_c0 g).mpr h)
theorem eb_f0 {a : Nat} (h : a ≤ 0) : ((0 : Int32) < nI a) = False := eq_false (fun z => by have := (el_c0 (by omega)).mp z; omega)
theorem eb_g0 {a : Nat} (h : a < 0) : (nI a < (0 : Int32)) = True := eq_true ((el_d0 (by omega)).mpr h)
theorem eb_h0 {a : Nat} (h : 0 ≤ a) (g : a < 2 ^ 31) : (nI a < (0 : Int32)) = False := eq_false (fun z => by have := (el_d0 g).mp z; omega)
theorem eb_i0 {a : Nat} (h : a = 0) : (nI a = (0 : Int32)) = True := eq_true ((el_e0 (by omega)).mpr h)
theorem eb_j0 {a : Nat} (h : a ≠ 0) (g : a < 2 ^ 31) : (nI a = (0 : Int32)) = False := eq_false (fun z => h ((el_e0 g).mp z))
theorem el_g0 (a : Nat) : nI a + (0 : Int32) = nI (a + 0) := nI_add a 0
theorem el_h0 (a : Nat) : (0 : Int32) + nI a = nI (0 + a) := nI_add 0 a
theorem el_i0 (a : Nat) : nI a * (0 : Int32) = nI (a * 0) := pk_mul a 0
theorem el_j0 (a : Nat) : (0 : Int32) * nI a = nI (0 * a) := pk_mul 0 a
theorem el_a1 {a : Nat} (h : a < 2 ^ 31) : (1 : Int32) ≤ nI a ↔ 1 ≤ a := nI_leI (a := 1) (by decide) h
theorem el_b1 {a : Nat} (h : a < 2 ^ 31) : nI a ≤ (1 : Int32) ↔ a ≤ 1 := nI_leI (b := 1) h (by decide)
theorem el_c1 {a : Nat} (h : a < 2 ^ 31) : (1 : Int32) < nI a ↔ 1 < a := nI_ltI (a := 1) (by decide) h
theorem el_d1 {a : Nat} (h : a < 2 ^ 31) : nI a < (1 : Int32) ↔ a < 1 := nI_ltI (b := 1) h (by decide)
theorem el_e1 {a : Nat} (h : a < 2 ^ 31) : nI a = (1 : Int32) ↔ a = 1 := nI_eq (b := 1) h (by decide)
theorem el_f1 {a : Nat} (h : a < 2 ^ 31) : (1 : Int32) = nI a ↔ 1 = a := nI_eq (a := 1) (by decide) h
theorem eb_a1 {a : Nat} (h : 1 ≤ a) (g : a < 2 ^ 31) : ((1 : Int32) ≤ nI a) = True := eq_true ((el_a1 g).mpr h)
theorem eb_b1 {a : Nat} (h : a < 1) : ((1 : Int32) ≤ nI a) = False := eq_false (fun z => by have := (el_a1 (by omega)).mp z; omega)
theorem eb_c1 {a : Nat} (h : a ≤ 1) : (nI a ≤ (1 : Int32)) = True := eq_true ((el_b1 (by omega)).mpr h)
theorem eb_d1 {a : Nat} (h : 1 < a) (g : a < 2 ^ 31) : (nI a ≤ (1 : Int32)) = False := eq_false (fun z => by have := (el_b1 g).mp z; omega)
theorem eb_e1 {a : Nat} (h : 1 < a) (g : a < 2 ^ 31) : ((1 : Int32) < nI a) = True := eq_true ((el_c1 g).mpr h)
theorem eb_f1 {a : Nat} (h : a ≤ 1) : ((1 : Int32) < nI a) = False := eq_false (fun z => by have := (el_c1 (by omega)).mp z; omega)
theorem eb_g1 {a : Nat} (h : a < 1) : (nI a < (1 : Int32)) = True := eq_true ((el_d1 (by omega)).mpr h)
theorem eb_h1 {a : Nat} (h : 1 ≤ a) (g : a < 2 ^ 31) : (nI a < (1 : Int32)) = False := eq_false (fun z => by have := (el_d1 g).mp z; omega)
theorem eb_i1 {a : Nat} (h : a = 1) : (nI a = (1 : Int32)) = True := eq_true ((el_e1 (by omega)).mpr h)
theorem eb_j1 {a : Nat} (h : a ≠ 1) (g : a < 2 ^ 31) : (nI a = (1 : Int32)) = False := eq_false (fun z => h ((el_e1 g).mp z))
theorem el_g1 (a : Nat) : nI a + (1 : Int32) = nI (a + 1) := nI_add a 1
theorem el_h1 (a : Nat) : (1 : Int32) + nI a = nI (1 + a) := nI_add 1 a
theorem el_i1 (a : Nat) : nI a * (1 : Int32) = nI (a * 1) := pk_mul a 1
theorem el_j1 (a : Nat) : (1 : Int32) * nI a = nI (1 * a) := pk_mul 1 a
theorem el_a2 {a : Nat} (h : a < 2 ^ 31) : (2 : Int32) ≤ nI a ↔ 2 ≤ a := nI_leI (a := 2) (by decide) h
theorem el_b2 {a : Nat} (h : a < 2 ^ 31) : nI a ≤ (2 : Int32) ↔ a ≤ 2 := nI_leI (b := 2) h (by decide)
theorem el_c2 {a : Nat} (h : a < 2 ^ 31) : (2 : Int32) < nI a ↔ 2 < a := nI_ltI (a := 2) (by decide) h
theorem el_d2 {a : Nat} (h : a < 2 ^ 31) : nI a < (2 : Int32) ↔ a < 2 := nI_ltI (b := 2) h (by decide)
theorem el_e2 {a : Nat} (h : a < 2 ^ 31) : nI a = (2 : Int32) ↔ a = 2 := nI_eq (b := 2) h (by decide)
theorem el_f2 {a : Nat} (h : a < 2 ^ 31) : (2 : Int32) = nI a ↔ 2 = a := nI_eq (a := 2) (by decide) h
theorem eb_a2 {a : Nat} (h : 2 ≤ a) (g : a < 2 ^ 31) : ((2 : Int32) ≤ nI a) = True := eq_true ((el_a2 g).mpr h)
theorem eb_b2 {a : Nat} (h : a < 2) : ((2 : Int32) ≤ nI a) = False := eq_false (fun z => by have := (el_a2 (by omega)).mp z; omega)
theorem eb_c2 {a : Nat} (h : a ≤ 2) : (nI a ≤ (2 : Int32)) = True := eq_true ((el_b2 (by omega)).mpr h)
theorem eb_d2 {a : Nat} (h : 2 < a) (g : a < 2 ^ 31) : (nI a ≤ (2 : Int32)) = False := eq_false (fun z => by have := (el_b2 g).mp z; omega)
theorem eb_e2 {a : Nat} (h : 2 < a) (g : a < 2 ^ 31) : ((2 : Int32) < nI a) = True := eq_true ((el_c2 g).mpr h)
theorem eb_f2 {a : Nat} (h : a ≤ 2) : ((2 : Int32) < nI a) = False := eq_false (fun z => by have := (el_c2 (by omega)).mp z; omega)
theorem eb_g2 {a : Nat} (h : a < 2) : (nI a < (2 : Int32)) = True := eq_true ((el_d2 (by omega)).mpr h)
theorem eb_h2 {a : Nat} (h : 2 ≤ a) (g : a < 2 ^ 31) : (nI a < (2 : Int32)) = False := eq_false (fun z => by have := (el_d2 g).mp z; omega)
theorem eb_i2 {a : Nat} (h : a = 2) : (nI a = (2 : Int32)) = True := eq_true ((el_e2 (by omega)).mpr h)
theorem eb_j2 {a : Nat} (h : a ≠ 2) (g : a < 2 ^ 31) : (nI a = (2 : Int32)) = False := eq_false (fun z => h ((el_e2 g).mp z))
theorem el_g2 (a : Nat) : nI a + (2 : Int32) = nI (a + 2) := nI_add a 2
theorem el_h2 (a : Nat) : (2 : Int32) + nI a = nI (2 + a) := nI_add 2 a
theorem el_i2 (a : Nat) : nI a * (2 : Int32) = nI (a * 2) := pk_mul a 2
theorem el_j2 (a : Nat) : (2 : Int32) * nI a = nI (2 * a) := pk_mul 2 a
theorem el_a3 {a : Nat} (h : a < 2 ^ 31) : (3 : Int32) ≤ nI a ↔ 3 ≤ a := nI_leI (a := 3) (by decide) h
theorem el_b3 {a : Nat} (h : a < 2 ^ 31) : nI a ≤ (3 : Int32) ↔ a ≤ 3 := nI_leI (b := 3) h (by decide)
theorem el_c3 {a : Nat} (h : a < 2 ^ 31) : (3 : Int32) < nI a ↔ 3 < a := nI_ltI (a := 3) (by decide) h
theorem el_d3 {a : Nat} (h : a < 2 ^ 31) : nI a < (3 : Int32) ↔ a < 3 := nI_ltI (b := 3) h (by decide)
theorem el_e3 {a : Nat} (h : a < 2 ^ 31) : nI a = (3 : Int32) ↔ a = 3 := nI_eq (b := 3) h (by decide)
theorem el_f3 {a : Nat} (h : a < 2 ^ 31) : (3 : Int32) = nI a ↔ 3 = a := nI_eq (a := 3) (by decide) h
theorem eb_a3 {a : Nat} (h : 3 ≤ a) (g : a < 2 ^ 31) : ((3 : Int32) ≤ nI a) = True := eq_true ((el_a3 g).mpr h)
theorem eb_b3 {a : Nat} (h : a < 3) : ((3 : Int32) ≤ nI a) = False := eq_false (fun z => by have := (el_a3 (by omega)).mp z; omega)
theorem eb_c3 {a : Nat} (h : a ≤ 3) : (nI a ≤ (3 : Int32)) = True := eq_true ((el_b3 (by omega)).mpr h)
theorem eb_d3 {a : Nat} (h : 3 < a) (g : a < 2 ^ 31) : (nI a ≤ (3 : Int32)) = False := eq_false (fun z => by have := (el_b3 g).mp z; omega)
theorem eb_e3 {a : Nat} (h : 3 < a) (g : a < 2 ^ 31) : ((3 : Int32) < nI a) = True := eq_true ((el_c3 g).mpr h)
theorem eb_f3 {a : Nat} (h : a ≤ 3) : ((3 : Int32) < nI a) = False := eq_false (fun z => by have := (el_c3 (by omega)).mp z; omega)
theorem eb_g3 {a : Nat} (h : a < 3) : (nI a < (3 : Int32)) = True := eq_true ((el_d3 (by omega)).mpr h)
theorem eb_h3 {a : Nat} (h : 3 ≤ a) (g : a < 2 ^ 31) : (nI a < (3 : Int32)) = False := eq_false (fun z => by have := (el_d3 g).mp z; omega)
theorem eb_i3 {a : Nat} (h : a = 3) : (nI a = (3 : Int32)) = True := eq_true ((el_e3 (by omega)).mpr h)
theorem eb_j3 {a : Nat} (h : a ≠ 3) (g : a < 2 ^ 31) : (nI a = (3 : Int32)) = False := eq_false (fun z => h ((el_e3 g).mp z))
theorem el_g3 (a : Nat) : nI a + (3 : Int32) = nI (a + 3) := nI_add a 3
theorem el_h3 (a : Nat) : (3 : Int32) + nI a = nI (3 + a) := nI_add 3 a
theorem el_i3 (a : Nat) : nI a * (3 : Int32) = nI (a * 3) := pk_mul a 3
theorem el_j3 (a : Nat) : (3 : Int32) * nI a = nI (3 * a) := pk_mul 3 a
theorem el_a4 {a : Nat} (h : a < 2 ^ 31) : (4 : Int32) ≤ nI a ↔ 4 ≤ a := nI_leI (a := 4) (by decide) h
theorem el_b4 {a : Nat} (h : a < 2 ^ 31) : nI a ≤ (4 : Int32) ↔ a ≤ 4 := nI_leI (b := 4) h (by decide)
theorem el_c4 {a : Nat} (h : a < 2 ^ 31) : (4 : Int32) < nI a ↔ 4 < a := nI_ltI (a := 4) (by decide) h
theorem el_d4 {a : Nat} (h : a < 2 ^ 31) : nI a < (4 : Int32) ↔ a < 4 := nI_ltI (b := 4) h (by decide)
theorem el_e4 {a : Nat} (h : a < 2 ^ 31) : nI a = (4 : Int32) ↔ a = 4 := nI_eq (b := 4) h (by decide)
theorem el_f4 {a : Nat} (h : a < 2 ^ 31) : (4 : Int32) = nI a ↔ 4 = a := nI_eq (a := 4) (by decide) h
theorem eb_a4 {a : Nat} (h : 4 ≤ a) (g : a < 2 ^ 31) : ((4 : Int32) ≤ nI a) = True := eq_true ((el_a4 g).mpr h)
theorem eb_b4 {a : Nat} (h : a < 4) : ((4 : Int32) ≤ nI a) = False := eq_false (fun z => by have := (el_a4 (by omega)).mp z; omega)
theorem eb_c4 {a : Nat} (h : a ≤ 4) : (nI a ≤ (4 : Int32)) = True := eq_true ((el_b4 (by omega)).mpr h)
theorem eb_d4 {a : Nat} (h : 4 < a) (g : a < 2 ^ 31) : (nI a ≤ (4 : Int32)) = False := eq_false (fun z => by have := (el_b4 g).mp z; omega)
theorem eb_e4 {a : Nat} (h : 4 < a) (g : a < 2 ^ 31) : ((4 : Int32) < nI a) = True := eq_true ((el_c4 g).mpr h)
theorem eb_f4 {a : Nat} (h : a ≤ 4) : ((4 : Int32) < nI a) = False := eq_false (fun z => by have := (el_c4 (by omega)).mp z; omega)
theorem eb_g4 {a : Nat} (h : a < 4) : (nI a < (4 : Int32)) = True := eq_true ((el_d4 (by omega)).mpr h)
theorem eb_h4 {a : Nat} (h : 4 ≤ a) (g : a < 2 ^ 31) : (nI a < (4 : Int32)) = False := eq_false (fun z => by have := (el_d4 g).mp z; omega)
theorem eb_i4 {a : Nat} (h : a = 4) : (nI a = (4 : Int32)) = True := eq_true ((el_e4 (by omega)).mpr h)
theorem eb_j4 {a : Nat} (h : a ≠ 4) (g : a < 2 ^ 31) : (nI a = (4 : Int32)) = False := eq_false (fun z => h ((el_e4 g).mp z))
theorem el_g4 (a : Nat) : nI a + (4 : Int32) = nI (a + 4) := nI_add a 4
theorem el_h4 (a : Nat) : (4 : Int32) + nI a = nI (4 + a) := nI_add 4 a
theorem el_i4 (a : Nat) : nI a * (4 : Int32) = nI (a * 4) := pk_mul a 4
theorem el_j4 (a : Nat) : (4 : Int32) * nI a = nI (4 * a) := pk_mul 4 a
theorem el_a5 {a : Nat} (h : a < 2 ^ 31) : (5 : Int32) ≤ nI a ↔ 5 ≤ a := nI_leI (a := 5) (by decide) h
theorem el_b5 {a : Nat} (h : a < 2 ^ 31) : nI a ≤ (5 : Int32) ↔ a ≤ 5 := nI_leI (b := 5) h (by decide)
theorem el_c5 {a : Nat} (h : a < 2 ^ 31) : (5 : Int32) < nI a ↔ 5 < a := nI_ltI (a := 5) (by decide) h
theorem el_d5 {a : Nat} (h : a < 2 ^ 31) : nI a < (5 : Int32) ↔ a < 5 := nI_ltI (b := 5) h (by decide)
theorem el_e5 {a : Nat} (h : a < 2 ^ 31) : nI a = (5 : Int32) ↔ a = 5 := nI_eq (b := 5) h (by decide)
theorem el_f5 {a : Nat} (h : a < 2 ^ 31) : (5 : Int32) = nI a ↔ 5 = a := nI_eq (a := 5) (by decide) h
theorem eb_a5 {a : Nat} (h : 5 ≤ a) (g : a < 2 ^ 31) : ((5 : Int32) ≤ nI a) = True := eq_true ((el_a5 g).mpr h)
theorem eb_b5 {a : Nat} (h : a < 5) : ((5 : Int32) ≤ nI a) = False := eq_false (fun z => by have := (el_a5 (by omega)).mp z; omega)
theorem eb_c5 {a : Nat} (h : a ≤ 5) : (nI a ≤ (5 : Int32)) = True := eq_true ((el_b5 (by omega)).mpr h)
theorem eb_d5 {a : Nat} (h : 5 < a) (g : a < 2 ^ 31) : (nI a ≤ (5 : Int32)) = False := eq_false (fun z => by have := (el_b5 g).mp z; omega)
theorem eb_e5 {a : Nat} (h : 5 < a) (g : a < 2 ^ 31) : ((5 : Int32) < nI a) = True := eq_true ((el_c5 g).mpr h)
theorem eb_f5 {a : Nat} (h : a ≤ 5) : ((5 : Int32) < nI a) = False := eq_false (fun z => by have := (el_c5 (by omega)).mp z; omega)
theorem eb_g5 {a : Nat} (h : a < 5) : (nI a < (5 : Int32)) = True := eq_true ((el_d5 (by omega)).mpr h)
theorem eb_h5 {a : Nat} (h : 5 ≤ a) (g : a < 2 ^ 31) : (nI a < (5 : Int32)) = False := eq_false (fun z => by have := (el_d5 g).mp z; omega)
theorem eb_i5 {a : Nat} (h : a = 5) : (nI a = (5 : Int32)) = True := eq_true ((el_e5 (by omega)).mpr h)
theorem eb_j5 {a : Nat} (h : a ≠ 5) (g : a < 2 ^ 31) : (nI a = (5 : Int32)) = False := eq_false (fun z => h ((el_e5 g).mp z))
theorem el_g5 (a : Nat) : nI a + (5 : Int32) = nI (a + 5) := nI_add a 5
theorem el_h5 (a : Nat) : (5 : Int32) + nI a = nI (5 + a) := nI_add 5 a
theorem el_i5 (a : Nat) : nI a * (5 : Int32) = nI (a * 5) := pk_mul a 5
theorem el_j5 (a : Nat) : (5 : Int32) * nI a = nI (5 * a) := pk_mul 5 a
theorem el_a6 {a : Nat} (h : a < 2 ^ 31) : (6 : Int32) ≤ nI a ↔ 6 ≤ a := nI_leI (a := 6) (by decide) h
theorem el_b6 {a : Nat} (h : a < 2 ^ 31) : nI a ≤ (6 : Int32) ↔ a ≤ 6 := nI_leI (b := 6) h (by decide)
theorem el_c6 {a : Nat} (h : a < 2 ^ 31) : (6 : Int32) < nI a ↔ 6 < a := nI_ltI (a := 6) (by decide) h
theorem el_d6 {a : Nat} (h : a < 2 ^ 31) : nI a < (6 : Int32) ↔ a < 6 := nI_ltI (b := 6) h (by decide)
theorem el_e6 {a : Nat} (h : a < 2 ^ 31) : nI a = (6 : Int32) ↔ a = 6 := nI_eq (b := 6) h (by decide)
theorem el_f6 {a : Nat} (h : a < 2 ^ 31) : (6 : Int32) = nI a ↔ 6 = a := nI_eq (a := 6) (by decide) h
theorem eb_a6 {a : Nat} (h : 6 ≤ a) (g : a < 2 ^ 31) : ((6 : Int32) ≤ nI a) = True := eq_true ((el_a6 g).mpr h)
theorem eb_b6 {a : Nat} (h : a < 6) : ((6 : Int32) ≤ nI a) = False := eq_false (fun z => by have := (el_a6 (by omega)).mp z; omega)
theorem eb_c6 {a : Nat} (h : a ≤ 6) : (nI a ≤ (6 : Int32)) = True := eq_true ((el_b6 (by omega)).mpr h)
theorem eb_d6 {a : Nat} (h : 6 < a) (g : a < 2 ^ 31) : (nI a ≤ (6 : Int32)) = False := eq_false (fun z => by have := (el_b6 g).mp z; omega)
theorem eb_e6 {a : Nat} (h : 6 < a) (g : a < 2 ^ 31) : ((6 : Int32) < nI a) = True := eq_true ((el_c6 g).mpr h)
theorem eb_f6 {a : Nat} (h : a ≤ 6) : ((6 : Int32) < nI a) = False := eq_false (fun z => by have := (el_c6 (by omega)).mp z; omega)
theorem eb_g6 {a : Nat} (h : a < 6) : (nI a < (6 : Int32)) = True := eq_true ((el_d6 (by omega)).mpr h)
theorem eb_h6 {a : Nat} (h : 6 ≤ a) (g : a < 2 ^ 31) : (nI a < (6 : Int32)) = False := eq_false (fun z => by have := (el_d6 g).mp z; omega)
theorem eb_i6 {a : Nat} (h : a = 6) : (nI a = (6 : Int32)) = True := eq_true ((el_e6 (by omega)).mpr h)
theorem eb_j6 {a : Nat} (h : a ≠ 6) (g : a < 2 ^ 31) : (nI a = (6 : Int32)) = False := eq_false (fun z => h ((el_e6 g).mp z))
theorem el_g6 (a : Nat) : nI a + (6 : Int32) = nI (a + 6) := nI_add a 6
theorem el_h6 (a : Nat) : (6 : Int32) + nI a = nI (6 + a) := nI_add 6 a
theorem el_i6 (a : Nat) : nI a * (6 : Int32) = nI (a * 6) := pk_mul a 6
theorem el_j6 (a : Nat) : (6 : Int32) * nI a = nI (6 * a) := pk_mul 6 a
theorem el_a7 {a : Nat} (h : a < 2 ^ 31) : (7 : Int32) ≤ nI a ↔ 7 ≤ a := nI_leI (a := 7) (by decide) h
theorem el_b7 {a : Nat} (h : a < 2 ^ 31) : nI a ≤ (7 : Int32) ↔ a ≤ 7 := nI_leI (b := 7) h (by decide)
theorem el_c7 {a : Nat} (h : a < 2 ^ 31) : (7 : Int32) < nI a ↔ 7 < a := nI_ltI (a := 7) (by decide) h
theorem el_d7 {a : Nat} (h : a < 2 ^ 31) : nI a < (7 : Int32) ↔ a < 7 := nI_ltI (b := 7) h (by decide)
theorem el_e7 {a : Nat} (h : a < 2 ^ 31) : nI a = (7 : Int32) ↔ a = 7 := nI_eq (b := 7) h (by decide)
theorem el_f7 {a : Nat} (h : a < 2 ^ 31) : (7 : Int32) = nI a ↔ 7 = a := nI_eq (a := 7) (by decide) h
theorem eb_a7 {a : Nat} (h : 7 ≤ a) (g : a < 2 ^ 31) : ((7 : Int32) ≤ nI a) = True := eq_true ((el_a7 g).mpr h)
theorem eb_b7 {a : Nat} (h : a < 7) : ((7 : Int32) ≤ nI a) = False := eq_false (fun z => by have := (el_a7 (by omega)).mp z; omega)
theorem eb_c7 {a : Nat} (h : a ≤ 7) : (nI a ≤ (7 : Int32)) = True := eq_true ((el_b7 (by omega)).mpr h)
theorem eb_d7 {a : Nat} (h : 7 < a) (g : a < 2 ^ 31) : (nI a ≤ (7 : Int32)) = False := eq_false (fun z => by have := (el_b7 g).mp z; omega)
theorem eb_e7 {a : Nat} (h : 7 < a) (g : a < 2 ^ 31) : ((7 : Int32) < nI a) = True := eq_true ((el_c7 g).mpr h)
theorem eb_f7 {a : Nat} (h : a ≤ 7) : ((7 : Int32) < nI a) = False := eq_false (fun z => by have := (el_c7 (by omega)).mp z; omega)
theorem eb_g7 {a : Nat} (h : a < 7) : (nI a < (7 : Int32)) = True := eq_true ((el_d7 (by omega)).mpr h)
theorem eb_h7 {a : Nat} (h : 7 ≤ a) (g : a < 2 ^ 31) : (nI a < (7 : Int32)) = False := eq_false (fun z => by have := (el_d7 g).mp z; omega)
theorem eb_i7 {a : Nat} (h : a = 7) : (nI a = (7 : Int32)) = True := eq_true ((el_e7 (by omega)).mpr h)
theorem eb_j7 {a : Nat} (h : a ≠ 7) (g : a < 2 ^ 31) : (nI a = (7 : Int32)) = False := eq_false (fun z => h ((el_e7 g).mp z))
theorem el_g7 (a : Nat) : nI a + (7 : Int32) = nI (a + 7) := nI_add a 7
theorem el_h7 (a : Nat) : (7 : Int32) + nI a = nI (7 + a) := nI_add 7 a
theorem el_i7 (a : Nat) : nI a * (7 : Int32) = nI (a * 7) := pk_mul a 7
theorem el_j7 (a : Nat) : (7 : Int32) * nI a = nI (7 * a) := pk_mul 7 a
theorem el_a8 {a : Nat} (h : a < 2 ^ 31) : (8 : Int32) ≤ nI a ↔ 8 ≤ a := nI_leI (a := 8) (by decide) h
theorem el_b8 {a : Nat} (h : a < 2 ^ 31) : nI a ≤ (8 : Int32) ↔ a ≤ 8 := nI_leI (b := 8) h (by decide)
theorem el_c8 {a : Nat} (h : a < 2 ^ 31) : (8 : Int32) < nI a ↔ 8 < a := nI_ltI (a := 8) (by decide) h
theorem el_d8 {a : Nat} (h : a < 2 ^ 31) : nI a < (8 : Int32) ↔ a < 8 := nI_ltI (b := 8) h (by decide)
theorem el_e8 {a : Nat} (h : a < 2 ^ 31) : nI a = (8 : Int32) ↔ a = 8 := nI_eq (b := 8) h (by decide)
theorem el_f8 {a : Nat} (h : a < 2 ^ 31) : (8 : Int32) = nI a ↔ 8 = a := nI_eq (a := 8) (by decide) h
theorem eb_a8 {a : Nat} (h : 8 ≤ a) (g : a < 2 ^ 31) : ((8 : Int32) ≤ nI a) = True := eq_true ((el_a8 g).mpr h)
theorem eb_b8 {a : Nat} (h : a < 8) : ((8 : Int32) ≤ nI a) = False := eq_false (fun z => by have := (el_a8 (by omega)).mp z; omega)
theorem eb_c8 {a : Nat} (h : a ≤ 8) : (nI a ≤ (8 : Int32)) = True := eq_true ((el_b8 (by omega)).mpr h)
theorem eb_d8 {a : Nat} (h : 8 < a) (g : a < 2 ^ 31) : (nI a ≤ (8 : Int32)) = False := eq_false (fun z => by have := (el_b8 g).mp z; omega)
theorem eb_e8 {a : Nat} (h : 8 < a) (g : a < 2 ^ 31) : ((8 : Int32) < nI a) = True := eq_true ((el_c8 g).mpr h)
theorem eb_f8 {a : Nat} (h : a ≤ 8) : ((8 : Int32) < nI a) = False := eq_false (fun z => by have := (el_c8 (by omega)).mp z; omega)
theorem eb_g8 {a : Nat} (h : a < 8) : (nI a < (8 : Int32)) = True := eq_true ((el_d8 (by omega)).mpr h)
theorem eb_h8 {a : Nat} (h : 8 ≤ a) (g : a < 2 ^ 31) : (nI a < (8 : Int32)) = False := eq_false (fun z => by have := (el_d8 g).mp z; omega)
theorem eb_i8 {a : Nat} (h : a = 8) : (nI a = (8 : Int32)) = True := eq_true ((el_e8 (by omega)).mpr h)
theorem eb_j8 {a : Nat} (h : a ≠ 8) (g : a < 2 ^ 31) : (nI a = (8 : Int32)) = False := eq_false (fun z => h ((el_e8 g).mp z))
theorem el_g8 (a : Nat) : nI a + (8 : Int32) = nI (a + 8) := nI_add a 8
theorem el_h8 (a : Nat) : (8 : Int32) + nI a = nI (8 + a) := nI_add 8 a
theorem el_i8 (a : Nat) : nI a * (8 : Int32) = nI (a * 8) := pk_mul a 8
theorem el_j8 (a : Nat) : (8 : Int32) * nI a = nI (8 * a) := pk_mul 8 a
theorem el_a9 {a : Nat} (h : a < 2 ^ 31) : (9 : Int32) ≤ nI a ↔ 9 ≤ a := nI_leI (a := 9) (by decide) h
theorem el_b9 {a : Nat} (h : a < 2 ^ 31) : nI a ≤ (9 : Int32) ↔ a ≤ 9 := nI_leI (b := 9) h (by decide)
theorem el_c9 {a : Nat} (h : a < 2 ^ 31) : (9 : Int32) < nI a ↔ 9 < a := nI_ltI (a := 9) (by decide) h
theorem el_d9 {a : Nat} (h : a < 2 ^ 31) : nI a < (9 : Int32) ↔ a < 9 := nI_ltI (b := 9) h (by decide)
theorem el_e9 {a : Nat} (h : a < 2 ^ 31) : nI a = (9 : Int32) ↔ a = 9 := nI_eq (b := 9) h (by decide)
theorem el_f9 {a : Nat} (h : a < 2 ^ 31) : (9 : Int32) = nI a ↔ 9 = a := nI_eq (a := 9) (by decide) h
theorem eb_a9 {a : Nat} (h : 9 ≤ a) (g : a < 2 ^ 31) : ((9 : Int32) ≤ nI a) = True := eq_true ((el_a9 g).mpr h)
theorem eb_b9 {a : Nat} (h : a < 9) : ((9 : Int32) ≤ nI a) = False := eq_false (fun z => by have := (el_a9 (by omega)).mp z; omega)
theorem eb_c9 {a : Nat} (h : a ≤ 9) : (nI a ≤ (9 : Int32)) = True := eq_true ((el_b9 (by omega)).mpr h)
theorem eb_d9 {a : Nat} (h : 9 < a) (g : a < 2 ^ 31) : (nI a ≤ (9 : Int32)) = False := eq_false (fun z => by have := (el_b9 g).mp z; omega)
theorem eb_e9 {a : Nat} (h : 9 < a) (g : a < 2 ^ 31) : ((9 : Int32) < nI a) = True := eq_true ((el_c9 g).mpr h)
theorem eb_f9 {a : Nat} (h : a ≤ 9) : ((9 : Int32) < nI a) = False := eq_false (fun z => by have := (el_c9 (by omega)).mp z; omega)
theorem eb_g9 {a : Nat} (h : a < 9) : (nI a < (9 : Int32)) = True := eq_true ((el_d9 (by omega)).mpr h)
theorem eb_h9 {a : Nat} (h : 9 ≤ a) (g : a < 2 ^ 31) : (nI a < (9 : Int32)) = False := eq_false (fun z => by have := (el_d9 g).mp z; omega)
theorem eb_i9 {a : Nat} (h : a = 9) : (nI a = (9 : Int32)) = True := eq_true ((el_e9 (by omega)).mpr h)
theorem eb_j9 {a : Nat} (h : a ≠ 9) (g : a < 2 ^ 31) : (nI a = (9 : Int32)) = False := eq_false (fun z => h ((el_e9 g).mp z))
theorem el_g9 (a : Nat) : nI a + (9 : Int32) = nI (a + 9) := nI_add a 9
theorem el_h9 (a : Nat) : (9 : Int32) + nI a = nI (9 + a) := nI_add 9 a
theorem el_i9 (a : Nat) : nI a * (9 : Int32) = nI (a * 9) := pk_mul a 9
theorem el_j9 (a : Nat) : (9 : Int32) * nI a = nI (9 * a) := pk_mul 9 a
theorem el_a10 {a : Nat} (h : a < 2 ^ 31) : (10 : Int32) ≤ nI a ↔ 10 ≤ a := nI_leI (a := 10) (by decide) h
theorem el_b10 {a : Nat} (h : a < 2 ^ 31) : nI a ≤ (10 : Int32) ↔ a ≤ 10 := nI_leI (b := 10) h (by decide)
theorem el_c10 {a : Nat} (h : a < 2 ^ 31) : (10 : Int32) < nI a ↔ 10 < a := nI_ltI (a := 10) (by decide) h
theorem el_d10 {a : Nat} (h : a < 2 ^ 31) : nI a < (10 : Int32) ↔ a < 10 := nI_ltI (b := 10) h (by decide)
theorem el_e10 {a : Nat} (h : a < 2 ^ 31) : nI a = (10 : Int32) ↔ a = 10 := nI_eq (b := 10) h (by decide)
theorem el_f10 {a : Nat} (h : a < 2 ^ 31) : (10 : Int32) = nI a ↔ 10 = a := nI_eq (a := 10) (by decide) h
theorem eb_a10 {a : Nat} (h : 10 ≤ a) (g : a < 2 ^ 31) : ((10 : Int32) ≤ nI a) = True := eq_true ((el_a10 g).mpr h)
theorem eb_b10 {a : Nat} (h : a < 10) : ((10 : Int32) ≤ nI a) = False := eq_false (fun z => by have := (el_a10 (by omega)).mp z; omega)
theorem eb_c10 {a : Nat} (h : a ≤ 10) : (nI a ≤ (10 : Int32)) = True := eq_true ((el_b10 (by omega)).mpr h)
theorem eb_d10 {a : Nat} (h : 10 < a) (g : a < 2 ^ 31) : (nI a ≤ (10 : Int32)) = False := eq_false (fun z => by have := (el_b10 g).mp z; omega)
theorem eb_e10 {a : Nat} (h : 10 < a) (g : a < 2 ^ 31) : ((10 : Int32) < nI a) = True := eq_true ((el_c10 g).mpr h)
theorem eb_f10 {a : Nat} (h : a ≤ 10) : ((10 : Int32) < nI a) = False := eq_false (fun z => by have := (el_c10 (by omega)).mp z; omega)
theorem eb_g10 {a : Nat} (h : a < 10) : (nI a < (10 : Int32)) = True := eq_true ((el_d10 (by omega)).mpr h)
theorem eb_h10 {a : Nat} (h : 10 ≤ a) (g : a < 2 ^ 31) : (nI a < (10 : Int32)) = False := eq_false (fun z => by have := (el_d10 g).mp z; omega)
theorem eb_i10 {a : Nat} (h : a = 10) : (nI a = (10 : Int32)) = True := eq_true ((el_e10 (by omega)).mpr h)
theorem eb_j10 {a : Nat} (h : a ≠ 10) (g : a < 2 ^ 31) : (nI a = (10 : Int32)) = False := eq_false (fun z => h ((el_e10 g).mp z))
theorem el_g10 (a : Nat) : nI a + (10 : Int32) = nI (a + 10) := nI_add a 10
theorem el_h10 (a : Nat) : (10 : Int32) + nI a = nI (10 + a) := nI_add 10 a
theorem el_i10 (a : Nat) : nI a * (10 : Int32) = nI (a * 10) := pk_mul a 10
theorem el_j10 (a : Nat) : (10 : Int32) * nI a = nI (10 * a) := pk_mul 10 a
theorem el_a11 {a : Nat} (h : a < 2 ^ 31) : (11 : Int32) ≤ nI a ↔ 11 ≤ a := nI_leI (a := 11) (by decide) h
theorem el_b11 {a : Nat} (h : a < 2 ^ 31) : nI a ≤ (11 : Int32) ↔ a ≤ 11 := nI_leI (b := 11) h (by decide)
theorem el_c11 {a : Nat} (h : a < 2 ^ 31) : (11 : Int32) < nI a ↔ 11 < a := nI_ltI (a := 11) (by decide) h
theorem el_d11 {a : Nat} (h : a < 2 ^ 31) : nI a < (11 : Int32) ↔ a < 11 := nI_ltI (b := 11) h (by decide)
theorem el_e11 {a : Nat} (h : a < 2 ^ 31) : nI a = (11 : Int32) ↔ a = 11 := nI_eq (b := 11) h (by decide)
theorem el_f11 {a : Nat} (h : a < 2 ^ 31) : (11 : Int32) = nI a ↔ 11 = a := nI_eq (a := 11) (by decide) h
theorem eb_a11 {a : Nat} (h : 11 ≤ a) (g : a < 2 ^ 31) : ((11 : Int32) ≤ nI a) = True := eq_true ((el_a11 g).mpr h)
theorem eb_b11 {a : Nat} (h : a < 11) : ((11 : Int32) ≤ nI a) = False := eq_false (fun z => by have := (el_a11 (by omega)).mp z; omega)
theorem eb_c11 {a : Nat} (h : a ≤ 11) : (nI a ≤ (11 : Int32)) = True := eq_true ((el_b11 (by omega)).mpr h)
theorem eb_d11 {a : Nat} (h : 11 < a) (g : a < 2 ^ 31) : (nI a ≤ (11 : Int32)) = False := eq_false (fun z => by have := (el_b11 g).mp z; omega)
theorem eb_e11 {a : Nat} (h : 11 < a) (g : a < 2 ^ 31) : ((11 : Int32) < nI a) = True := eq_true ((el_c11 g).mpr h)
theorem eb_f11 {a : Nat} (h : a ≤ 11) : ((11 : Int32) < nI a) = False := eq_false (fun z => by have := (el_c11 (by omega)).mp z; omega)
theorem eb_g11 {a : Nat} (h : a < 11) : (nI a < (11 : Int32)) = True := eq_true ((el_d11 (by omega)).mpr h)
theorem eb_h11 {a : Nat} (h : 11 ≤ a) (g : a < 2 ^ 31) : (nI a < (11 : Int32)) = False := eq_false (fun z => by have := (el_d11 g).mp z; omega)
theorem eb_i11 {a : Nat} (h : a = 11) : (nI a = (11 : Int32)) = True := eq_true ((el_e11 (by omega)).mpr h)
theorem eb_j11 {a : Nat} (h : a ≠ 11) (g : a < 2 ^ 31) : (nI a = (11 : Int32)) = False := eq_false (fun z => h ((el_e11 g).mp z))
theorem el_g11 (a : Nat) : nI a + (11 : Int32) = nI (a + 11) := nI_add a 11
theorem el_h11 (a : Nat) : (11 : Int32) + nI a = nI (11 + a) := nI_add 11 a
theorem el_i11 (a : Nat) : nI a * (11 : Int32) = nI (a * 11) := pk_mul a 11
theorem el_j11 (a : Nat) : (11 : Int32) * nI a = nI (11 * a) := pk_mul 11 a
theorem el_a12 {a : Nat} (h : a < 2 ^ 31) : (12 : Int32) ≤ nI a ↔ 12 ≤ a := nI_leI (a := 12) (by decide) h
theorem el_b12 {a : Nat} (h : a < 2 ^ 31) : nI a ≤ (12 : Int32) ↔ a ≤ 12 := nI_leI (b := 12) h (by decide)
theorem el_c12 {a : Nat} (h : a < 2 ^ 31) : (12 : Int32) < nI a ↔ 12 < a := nI_ltI (a := 12) (by decide) h
theorem el_d12 {a : Nat} (h : a < 2 ^ 31) : nI a < (12 : Int32) ↔ a < 12 := nI_ltI (b := 12) h (by decide)
theorem el_e12 {a : Nat} (h : a < 2 ^ 31) : nI a = (12 : Int32) ↔ a = 12 := nI_eq (b := 12) h (by decide)
theorem el_f12 {a : Nat} (h : a < 2 ^ 31) : (12 : Int32) = nI a ↔ 12 = a := nI_eq (a := 12) (by decide) h
theorem eb_a12 {a : Nat} (h : 12 ≤ a) (g : a < 2 ^ 31) : ((12 : Int32) ≤ nI a) = True := eq_true ((el_a12 g).mpr h)
theorem eb_b12 {a : Nat} (h : a < 12) : ((12 : Int32) ≤ nI a) = False := eq_false (fun z => by have := (el_a12 (by omega)).mp z; omega)
theorem eb_c12 {a : Nat} (h : a ≤ 12) : (nI a ≤ (12 : Int32)) = True := eq_true ((el_b12 (by omega)).mpr h)
theorem eb_d12 {a : Nat} (h : 12 < a) (g : a < 2 ^ 31) : (nI a ≤ (12 : Int32)) = False := eq_false (fun z => by have := (el_b12 g).mp z; omega)
theorem eb_e12 {a : Nat} (h : 12 < a) (g : a < 2 ^ 31) : ((12 : Int32) < nI a) = True := eq_true ((el_c12 g).mpr h)
theorem eb_f12 {a : Nat} (h : a ≤ 12) : ((12 : Int32) < nI a) = False := eq_false (fun z => by have := (el_c12 (by omega)).mp z; omega)
theorem eb_g12 {a : Nat} (h : a < 12) : (nI a < (12 : Int32)) = True := eq_true ((el_d12 (by omega)).mpr h)
theorem eb_h12 {a : Nat} (h : 12 ≤ a) (g : a < 2 ^ 31) : (nI a < (12 : Int32)) = False := eq_false (fun z => by have := (el_d12 g).mp z; omega)
theorem eb_i12 {a : Nat} (h : a = 12) : (nI a = (12 : Int32)) = True := eq_true ((el_e12 (by omega)).mpr h)
theorem eb_j12 {a : Nat} (h : a ≠ 12) (g : a < 2 ^ 31) : (nI a = (12 : Int32)) = False := eq_false (fun z => h ((el_e12 g).mp z))
theorem el_g12 (a : Nat) : nI a + (12 : Int32) = nI (a + 12) := nI_add a 12
theorem el_h12 (a : Nat) : (12 : Int32) + nI a = nI (12 + a) := nI_add 12 a
theorem el_i12 (a : Nat) : nI a * (12 : Int32) = nI (a * 12) := pk_mul a 12
theorem el_j12 (a : Nat) : (12 : Int32) * nI a = nI (12 * a) := pk_mul 12 a
theorem el_a13 {a : Nat} (h : a < 2 ^ 31) : (13 : Int32) ≤ nI a ↔ 13 ≤ a := nI_leI (a := 13) (by decide) h
theorem el_b13 {a : Nat} (h : a < 2 ^ 31) : nI a ≤ (13 : Int32) ↔ a ≤ 13 := nI_leI (b := 13) h (by decide)
theorem el_c13 {a : Nat} (h : a < 2 ^ 31) : (13 : Int32) < nI a ↔ 13 < a := nI_ltI (a := 13) (by decide) h
theorem el_d13 {a : Nat} (h : a < 2 ^ 31) : nI a < (13 : Int32) ↔ a < 13 := nI_ltI (b := 13) h (by decide)
theorem el_e13 {a : Nat} (h : a < 2 ^ 31) : nI a = (13 : Int32) ↔ a = 13 := nI_eq (b := 13) h (by decide)
theorem el_f13 {a : Nat} (h : a < 2 ^ 31) : (13 : Int32) = nI a ↔ 13 = a := nI_eq (a := 13) (by decide) h
theorem eb_a13 {a : Nat} (h : 13 ≤ a) (g : a < 2 ^ 31) : ((13 : Int32) ≤ nI a) = True := eq_true ((el_a13 g).mpr h)
theorem eb_b13 {a : Nat} (h : a < 13) : ((13 : Int32) ≤ nI a) = False := eq_false (fun z => by have := (el_a13 (by omega)).mp z; omega)
theorem eb_c13 {a : Nat} (h : a ≤ 13) : (nI a ≤ (13 : Int32)) = True := eq_true ((el_b13 (by omega)).mpr h)
theorem eb_d13 {a : Nat} (h : 13 < a) (g : a < 2 ^ 31) : (nI a ≤ (13 : Int32)) = False := eq_false (fun z => by have := (el_b13 g).mp z; omega)
theorem eb_e13 {a : Nat} (h : 13 < a) (g : a < 2 ^ 31) : ((13 : Int32) < nI a) = True := eq_true ((el_c13 g).mpr h)
theorem eb_f13 {a : Nat} (h : a ≤ 13) : ((13 : Int32) < nI a) = False := eq_false (fun z => by have := (el_c13 (by omega)).mp z; omega)
theorem eb_g13 {a : Nat} (h : a < 13) : (nI a < (13 : Int32)) = True := eq_true ((el_d13 (by omega)).mpr h)
theorem eb_h13 {a : Nat} (h : 13 ≤ a) (g : a < 2 ^ 31) : (nI a < (13 : Int32)) = False := eq_false (fun z => by have := (el_d13 g).mp z; omega)
theorem eb_i13 {a : Nat} (h : a = 13) : (nI a = (13 : Int32)) = True := eq_true ((el_e13 (by omega)).mpr h)
theorem eb_j13 {a : Nat} (h : a ≠ 13) (g : a < 2 ^ 31) : (nI a = (13 : Int32)) = False := eq_false (fun z => h ((el_e13 g).mp z))
theorem el_g13 (a : Nat) : nI a + (13 : Int32) = nI (a + 13) := nI_add a 13
theorem el_h13 (a : Nat) : (13 : Int32) + nI a = nI (13 + a) := nI_add 13 a
theorem el_i13 (a : Nat) : nI a * (13 : Int32) = nI (a * 13) := pk_mul a 13
theorem el_j13 (a : Nat) : (13 : Int32) * nI a = nI (13 * a) := pk_mul 13 a
theorem el_a14 {a : Nat} (h : a < 2 ^ 31) : (14 : Int32) ≤ nI a ↔ 14 ≤ a := nI_leI (a := 14) (by decide) h
theorem el_b14 {a : Nat} (h : a < 2 ^ 31) : nI a ≤ (14 : Int32) ↔ a ≤ 14 := nI_leI (b := 14) h (by decide)
theorem el_c14 {a : Nat} (h : a < 2 ^ 31) : (14 : Int32) < nI a ↔ 14 < a := nI_ltI (a := 14) (by decide) h
theorem el_d14 {a : Nat} (h : a < 2 ^ 31) : nI a < (14 : Int32) ↔ a < 14 := nI_ltI (b := 14) h (by decide)
theorem el_e14 {a : Nat} (h : a < 2 ^ 31) : nI a = (14 : Int32) ↔ a = 14 := nI_eq (b := 14) h (by decide)
theorem el_f14 {a : Nat} (h : a < 2 ^ 31) : (14 : Int32) = nI a ↔ 14 = a := nI_eq (a := 14) (by decide) h
theorem eb_a14 {a : Nat} (h : 14 ≤ a) (g : a < 2 ^ 31) : ((14 : Int32) ≤ nI a) = True := eq_true ((el_a14 g).mpr h)
theorem eb_b14 {a : Nat} (h : a < 14) : ((14 : Int32) ≤ nI a) = False := eq_false (fun z => by have := (el_a14 (by omega)).mp z; omega)
theorem eb_c14 {a : Nat} (h : a ≤ 14) : (nI a ≤ (14 : Int32)) = True := eq_true ((el_b14 (by omega)).mpr h)
theorem eb_d14 {a : Nat} (h : 14 < a) (g : a < 2 ^ 31) : (nI a ≤ (14 : Int32)) = False := eq_false (fun z => by have := (el_b14 g).mp z; omega)
theorem eb_e14 {a : Nat} (h : 14 < a) (g : a < 2 ^ 31) : ((14 : Int32) < nI a) = True := eq_true ((el_c14 g).mpr h)
theorem eb_f14 {a : Nat} (h : a ≤ 14) : ((14 : Int32) < nI a) = False := eq_false (fun z => by have := (el_c14 (by omega)).mp z; omega)
theorem eb_g14 {a : Nat} (h : a < 14) : (nI a < (14 : Int32)) = True := eq_true ((el_d14 (by omega)).mpr h)
theorem eb_h14 {a : Nat} (h : 14 ≤ a) (g : a < 2 ^ 31) : (nI a < (14 : Int32)) = False := eq_false (fun z => by have := (el_d14 g).mp z; omega)
theorem eb_i14 {a : Nat} (h : a = 14) : (nI a = (14 : Int32)) = True := eq_true ((el_e14 (by omega)).mpr h)
theorem eb_j14 {a : Nat} (h : a ≠ 14) (g : a < 2 ^ 31) : (nI a = (14 : Int32)) = False := eq_false (fun z => h ((el_e14 g).mp z))
theorem el_g14 (a : Nat) : nI a + (14 : Int32) = nI (a + 14) := nI_add a 14
theorem el_h14 (a : Nat) : (14 : Int32) + nI a = nI (14 + a) := nI_add 14 a
theorem el_i14 (a : Nat) : nI a * (14 : Int32) = nI (a * 14) := pk_mul a 14
theorem el_j14 (a : Nat) : (14 : Int32) * nI a = nI (14 * a) := pk_mul 14 a
theorem el_a15 {a : Nat} (h : a < 2 ^ 31) : (15 : Int32) ≤ nI a ↔ 15 ≤ a := nI_leI (a := 15) (by decide) h
theorem el_b15 {a : Nat} (h : a < 2 ^ 31) : nI a ≤ (15 : Int32) ↔ a ≤ 15 := nI_leI (b := 15) h (by decide)
theorem el_c15 {a : Nat} (h : a < 2 ^ 31) : (15 : Int32) < nI a ↔ 15 < a := nI_ltI (a := 15) (by decide) h
theorem el_d15 {a : Nat} (h : a < 2 ^ 31) : nI a < (15 : Int32) ↔ a < 15 := nI_ltI (b := 15) h (by decide)
theorem el_e15 {a : Nat} (h : a < 2 ^ 31) : nI a = (15 : Int32) ↔ a = 15 := nI_eq (b := 15) h (by decide)
theorem el_f15 {a : Nat} (h : a < 2 ^ 31) : (15 : Int32) = nI a ↔ 15 = a := nI_eq (a := 15) (by decide) h
theorem eb_a15 {a : Nat} (h : 15 ≤ a) (g : a < 2 ^ 31) : ((15 : Int32) ≤ nI a) = True := eq_true ((el_a15 g).mpr h)
theorem eb_b15 {a : Nat} (h : a < 15) : ((15 : Int32) ≤ nI a) = False := eq_false (fun z => by have := (el_a15 (by omega)).mp z; omega)
theorem eb_c15 {a : Nat} (h : a ≤ 15) : (nI a ≤ (15 : Int32)) = True := eq_true ((el_b15 (by omega)).mpr h)
theorem eb_d15 {a : Nat} (h : 15 < a) (g : a < 2 ^ 31) : (nI a ≤ (15 : Int32)) = False := eq_false (fun z => by have := (el_b15 g).mp z; omega)
theorem eb_e15 {a : Nat} (h : 15 < a) (g : a < 2 ^ 31) : ((15 : Int32) < nI a) = True := eq_true ((el_c15 g).mpr h)
theorem eb_f15 {a : Nat} (h : a ≤ 15) : ((15 : Int32) < nI a) = False := eq_false (fun z => by have := (el_c15 (by omega)).mp z; omega)
theorem eb_g15 {a : Nat} (h : a < 15) : (nI a < (15 : Int32)) = True := eq_true ((el_d15 (by omega)).mpr h)
theorem eb_h15 {a : Nat} (h : 15 ≤ a) (g : a < 2 ^ 31) : (nI a < (15 : Int32)) = False := eq_false (fun z => by have := (el_d15 g).mp z; omega)
theorem eb_i15 {a : Nat} (h : a = 15) : (nI a = (15 : Int32)) = True := eq_true ((el_e15 (by omega)).mpr h)
theorem eb_j15 {a : Nat} (h : a ≠ 15) (g : a < 2 ^ 31) : (nI a = (15 : Int32)) = False := eq_false (fun z => h ((el_e15 g).mp z))
theorem el_g15 (a : Nat) : nI a + (15 : Int32) = nI (a + 15) := nI_add a 15
theorem el_h15 (a : Nat) : (15 : Int32) + nI a = nI (15 + a) := nI_add 15 a
theorem el_i15 (a : Nat) : nI a * (15 : Int32) = nI (a * 15) := pk_mul a 15
theorem el_j15 (a : Nat) : (15 : Int32) * nI a = nI (15 * a) := pk_mul 15 a
theorem el_a16 {a : Nat} (h : a < 2 ^ 31) : (16 : Int32) ≤ nI a ↔ 16 ≤ a := nI_leI (a := 16) (by decide) h
theorem el_b16 {a : Nat} (h : a < 2 ^ 31) : nI a ≤ (16 : Int32) ↔ a ≤ 16 := nI_leI (b := 16) h (by decide)
theorem el_c16 {a : Nat} (h : a < 2 ^ 31) : (16 : Int32) < nI a ↔ 16 < a := nI_ltI (a := 16) (by decide) h
theorem el_d16 {a : Nat} (h : a < 2 ^ 31) : nI a < (16 : Int32) ↔ a < 16 := nI_ltI (b := 16) h (by decide)
theorem el_e16 {a : Nat} (h : a < 2 ^ 31) : nI a = (16 : Int32) ↔ a = 16 := nI_eq (b := 16) h (by decide)
theorem el_f16 {a : Nat} (h : a < 2 ^ 31) : (16 : Int32) = nI a ↔ 16 = a := nI_eq (a := 16) (by decide) h
theorem eb_a16 {a : Nat} (h : 16 ≤ a) (g : a < 2 ^ 31) : ((16 : Int32) ≤ nI a) = True := eq_true ((el_a16 g).mpr h)
theorem eb_b16 {a : Nat} (h : a < 16) : ((16 : Int32) ≤ nI a) = False := eq_false (fun z => by have := (el_a16 (by omega)).mp z; omega)
theorem eb_c16 {a : Nat} (h : a ≤ 16) : (nI a ≤ (16 : Int32)) = True := eq_true ((el_b16 (by omega)).mpr h)
theorem eb_d16 {a : Nat} (h : 16 < a) (g : a < 2 ^ 31) : (nI a ≤ (16 : Int32)) = False := eq_false (fun z => by have := (el_b16 g).mp z; omega)
theorem eb_e16 {a : Nat} (h : 16 < a) (g : a < 2 ^ 31) : ((16 : Int32) < nI a) = True := eq_true ((el_c16 g).mpr h)
theorem eb_f16 {a : Nat} (h : a ≤ 16) : ((16 : Int32) < nI a) = False := eq_false (fun z => by have := (el_c16 (by omega)).mp z; omega)
theorem eb_g16 {a : Nat} (h : a < 16) : (nI a < (16 : Int32)) = True := eq_true ((el_d16 (by omega)).mpr h)
theorem eb_h16 {a : Nat} (h : 16 ≤ a) (g : a < 2 ^ 31) : (nI a < (16 : Int32)) = False := eq_false (fun z => by have := (el_d16 g).mp z; omega)
theorem eb_i16 {a : Nat} (h : a = 16) : (nI a = (16 : Int32)) = True := eq_true ((el_e16 (by omega)).mpr h)
theorem eb_j16 {a : Nat} (h : a ≠ 16) (g : a < 2 ^ 31) : (nI a = (16 : Int32)) = False := eq_false (fun z => h ((el_e16 g).mp z))
theorem el_g16 (a : Nat) : nI a + (16 : Int32) = nI (a + 16) := nI_add a 16
theorem el_h16 (a : Nat) : (16 : Int32) + nI a = nI (16 + a) := nI_add 16 a
theorem el_i16 (a : Nat) : nI a * (16 : Int32) = nI (a * 16) := pk_mul a 16
theorem el_j16 (a : Nat) : (16 : Int32) * nI a = nI (16 * a) := pk_mul 16 a
theorem el_a18 {a : Nat} (h : a < 2 ^ 31) : (18 : Int32) ≤ nI a ↔ 18 ≤ a := nI_leI (a := 18) (by decide) h
theorem el_b18 {a : Nat} (h : a < 2 ^ 31) : nI a ≤ (18 : Int32) ↔ a ≤ 18 := nI_leI (b := 18) h (by decide)
theorem el_c18 {a : Nat} (h : a < 2 ^ 31) : (18 : Int32) < nI a ↔ 18 < a := nI_ltI (a := 18) (by decide) h
theorem el_d18 {a : Nat} (h : a < 2 ^ 31) : nI a < (18 : Int32) ↔ a < 18 := nI_ltI (b := 18) h (by decide)
theorem el_e18 {a : Nat} (h : a < 2 ^ 31) : nI a = (18 : Int32) ↔ a = 18 := nI_eq (b := 18) h (by decide)
theorem el_f18 {a : Nat} (h : a < 2 ^ 31) : (18 : Int32) = nI a ↔ 18 = a := nI_eq (a := 18) (by decide) h
theorem eb_a18 {a : Nat} (h : 18 ≤ a) (g : a < 2 ^ 31) : ((18 : Int32) ≤ nI a) = True := eq_true ((el_a18 g).mpr h)
theorem eb_b18 {a : Nat} (h : a < 18) : ((18 : Int32) ≤ nI a) = False := eq_false (fun z => by have := (el_a18 (by omega)).mp z; omega)
theorem eb_c18 {a : Nat} (h : a ≤ 18) : (nI a ≤ (18 : Int32)) = True := eq_true ((el_b18 (by omega)).mpr h)
theorem eb_d18 {a : Nat} (h : 18 < a) (g : a < 2 ^ 31) : (nI a ≤ (18 : Int32)) = False := eq_false (fun z => by have := (el_b18 g).mp z; omega)
theorem eb_e18 {a : Nat} (h : 18 < a) (g : a < 2 ^ 31) : ((18 : Int32) < nI a) = True := eq_true ((el_c18 g).mpr h)
theorem eb_f18 {a : Nat} (h : a ≤ 18) : ((18 : Int32) < nI a) = False := eq_false (fun z => by have := (el_c18 (by omega)).mp z; omega)
theorem eb_g18 {a : Nat} (h : a < 18) : (nI a < (18 : Int32)) = True := eq_true ((el_d18 (by omega)).mpr h)
theorem eb_h18 {a : Nat} (h : 18 ≤ a) (g : a < 2 ^ 31) : (nI a < (18 : Int32)) = False := eq_false (fun z => by have := (el_d18 g).mp z; omega)
theorem eb_i18 {a : Nat} (h : a = 18) : (nI a = (18 : Int32)) = True := eq_true ((el_e18 (by omega)).mpr h)
theorem eb_j18 {a : Nat} (h : a ≠ 18) (g : a < 2 ^ 31) : (nI a = (18 : Int32)) = False := eq_false (fun z => h ((el_e18 g).mp z))
theorem el_g18 (a : Nat) : nI a + (18 : Int32) = nI (a + 18) := nI_add a 18
theorem el_h18 (a : Nat) : (18 : Int32) + nI a = nI (18 + a) := nI_add 18 a
theorem el_i18 (a : Nat) : nI a * (18 : Int32) = nI (a * 18) := pk_mul a 18
theorem el_j18 (a : Nat) : (18 : Int32) * nI a = nI (18 * a) := pk_mul 18 a
theorem el_a20 {a : Nat} (h : a < 2 ^ 31) : (20 : Int32) ≤ nI a ↔ 20 ≤ a := nI_leI (a := 20) (by decide) h
theorem el_b20 {a : Nat} (h : a < 2 ^ 31) : nI a ≤ (20 : Int32) ↔ a ≤ 20 := nI_leI (b := 20) h (by decide)
theorem el_c20 {a : Nat} (h : a < 2 ^ 31) : (20 : Int32) < nI a ↔ 20 < a := nI_ltI (a := 20) (by decide) h
theorem el_d20 {a : Nat} (h : a < 2 ^ 31) : nI a < (20 : Int32) ↔ a < 20 := nI_ltI (b := 20) h (by decide)
theorem el_e20 {a : Nat} (h : a < 2 ^ 31) : nI a = (20 : Int32) ↔ a = 20 := nI_eq (b := 20) h (by decide)
theorem el_f20 {a : Nat} (h : a < 2 ^ 31) : (20 : Int32) = nI a ↔ 20 = a := nI_eq (a := 20) (by decide) h
theorem eb_a20 {a : Nat} (h : 20 ≤ a) (g : a < 2 ^ 31) : ((20 : Int32) ≤ nI a) = True := eq_true ((el_a20 g).mpr h)
theorem eb_b20 {a : Nat} (h : a < 20) : ((20 : Int32) ≤ nI a) = False := eq_false (fun z => by have := (el_a20 (by omega)).mp z; omega)
theorem eb_c20 {a : Nat} (h : a ≤ 20) : (nI a ≤ (20 : Int32)) = True := eq_true ((el_b20 (by omega)).mpr h)
theorem eb_d20 {a : Nat} (h : 20 < a) (g : a < 2 ^ 31) : (nI a ≤ (20 : Int32)) = False := eq_false (fun z => by have := (el_b20 g).mp z; omega)
theorem eb_e20 {a : Nat} (h : 20 < a) (g : a < 2 ^ 31) : ((20 : Int32) < nI a) = True := eq_true ((el_c20 g).mpr h)
theorem eb_f20 {a : Nat} (h : a ≤ 20) : ((20 : Int32) < nI a) = False := eq_false (fun z => by have := (el_c20 (by omega)).mp z; omega)
theorem eb_g20 {a : Nat} (h : a < 20) : (nI a < (20 : Int32)) = True := eq_true ((el_d20 (by omega)).mpr h)
theorem eb_h20 {a : Nat} (h : 20 ≤ a) (g : a < 2 ^ 31) : (nI a < (20 : Int32)) = False := eq_false (fun z => by have := (el_d20 g).mp z; omega)
theorem eb_i20 {a : Nat} (h : a = 20) : (nI a = (20 : Int32)) = True := eq_true ((el_e20 (by omega)).mpr h)
theorem eb_j20 {a : Nat} (h : a ≠ 20) (g : a < 2 ^ 31) : (nI a = (20 : Int32)) = False := eq_false (fun z => h ((el_e20 g).mp z))
theorem el_g20 (a : Nat) : nI a + (20 : Int32) = nI (a + 20) := nI_add a 20
theorem el_h20 (a : Nat) : (20 : Int32) + nI a = nI (20 + a) := nI_add 20 a
theorem el_i20 (a : Nat) : nI a * (20 : Int32) = nI (a * 20) := pk_mul a 20
theorem el_j20 (a : Nat) : (20 : Int32) * nI a = nI (20 * a) := pk_mul 20 a
theorem el_a32 {a : Nat} (h : a < 2 ^ 31) : (32 : Int32) ≤ nI a ↔ 32 ≤ a := nI_leI (a := 32) (by decide) h
theorem el_b32 {a : Nat} (h : a < 2 ^ 31) : nI a ≤ (32 : Int32) ↔ a ≤ 32 := nI_leI (b := 32) h (by decide)
theorem el_c32 {a : Nat} (h : a < 2 ^ 31) : (32 : Int32) < nI a ↔ 32 < a := nI_ltI (a := 32) (by decide) h
theorem el_d32 {a : Nat} (h : a < 2 ^ 31) : nI a < (32 : Int32) ↔ a < 32 := nI_ltI (b := 32) h (by decide)
theorem el_e32 {a : Nat} (h : a < 2 ^ 31) : nI a = (32 : Int32) ↔ a = 32 := nI_eq (b := 32) h (by decide)
theorem el_f32 {a : Nat} (h : a < 2 ^ 31) : (32 : Int32) = nI a ↔ 32 = a := nI_eq (a := 32) (by decide) h
theorem eb_a32 {a : Nat} (h : 32 ≤ a) (g : a < 2 ^ 31) : ((32 : Int32) ≤ nI a) = True := eq_true ((el_a32 g).mpr h)
theorem eb_b32 {a : Nat} (h : a < 32) : ((32 : Int32) ≤ nI a) = False := eq_false (fun z => by have := (el_a32 (by omega)).mp z; omega)
theorem eb_c32 {a : Nat} (h : a ≤ 32) : (nI a ≤ (32 : Int32)) = True := eq_true ((el_b32 (by omega)).mpr h)
theorem eb_d32 {a : Nat} (h : 32 < a) (g : a < 2 ^ 31) : (nI a ≤ (32 : Int32)) = False := eq_false (fun z => by have := (el_b32 g).mp z; omega)
theorem eb_e32 {a : Nat} (h : 32 < a) (g : a < 2 ^ 31) : ((32 : Int32) < nI a) = True := eq_true ((el_c32 g).mpr h)
theorem eb_f32 {a : Nat} (h : a ≤ 32) : ((32 : Int32) < nI a) = False := eq_false (fun z => by have := (el_c32 (by omega)).mp z; omega)
theorem eb_g32 {a : Nat} (h : a < 32) : (nI a < (32 : Int32)) = True := eq_true ((el_d32 (by omega)).mpr h)
theorem eb_h32 {a : Nat} (h : 32 ≤ a) (g : a < 2 ^ 31) : (nI a < (32 : Int32)) = False := eq_false (fun z => by have := (el_d32 g).mp z; omega)
theorem eb_i32 {a : Nat} (h : a = 32) : (nI a = (32 : Int32)) = True := eq_true ((el_e32 (by omega)).mpr h)
theorem eb_j32 {a : Nat} (h : a ≠ 32) (g : a < 2 ^ 31) : (nI a = (32 : Int32)) = False := eq_false (fun z => h ((el_e32 g).mp z))
theorem el_g32 (a : Nat) : nI a + (32 : Int32) = nI (a + 32) := nI_add a 32
theorem el_h32 (a : Nat) : (32 : Int32) + nI a = nI (32 + a) := nI_add 32 a
theorem el_i32 (a : Nat) : nI a * (32 : Int32) = nI (a * 32) := pk_mul a 32
theorem el_j32 (a : Nat) : (32 : Int32) * nI a = nI (32 * a) := pk_mul 32 a
theorem el_a33 {a : Nat} (h : a < 2 ^ 31) : (33 : Int32) ≤ nI a ↔ 33 ≤ a := nI_leI (a := 33) (by decide) h
theorem el_b33 {a : Nat} (h : a < 2 ^ 31) : nI a ≤ (33 : Int32) ↔ a ≤ 33 := nI_leI (b := 33) h (by decide)
theorem el_c33 {a : Nat} (h : a < 2 ^ 31) : (33 : Int32) < nI a ↔ 33 < a := nI_ltI (a := 33) (by decide) h
theorem el_d33 {a : Nat} (h : a < 2 ^ 31) : nI a < (33 : Int32) ↔ a < 33 := nI_ltI (b := 33) h (by decide)
theorem el_e33 {a : Nat} (h : a < 2 ^ 31) : nI a = (33 : Int32) ↔ a = 33 := nI_eq (b := 33) h (by decide)
theorem el_f33 {a : Nat} (h : a < 2 ^ 31) : (33 : Int32) = nI a ↔ 33 = a := nI_eq (a := 33) (by decide) h
theorem eb_a33 {a : Nat} (h : 33 ≤ a) (g : a < 2 ^ 31) : ((33 : Int32) ≤ nI a) = True := eq_true ((el_a33 g).mpr h)
theorem eb_b33 {a : Nat} (h : a < 33) : ((33 : Int32) ≤ nI a) = False := eq_false (fun z => by have := (el_a33 (by omega)).mp z; omega)
theorem eb_c33 {a : Nat} (h : a ≤ 33) : (nI a ≤ (33 : Int32)) = True := eq_true ((el_b33 (by omega)).mpr h)
theorem eb_d33 {a : Nat} (h : 33 < a) (g : a < 2 ^ 31) : (nI a ≤ (33 : Int32)) = False := eq_false (fun z => by have := (el_b33 g).mp z; omega)
theorem eb_e33 {a : Nat} (h : 33 < a) (g : a < 2 ^ 31) : ((33 : Int32) < nI a) = True := eq_true ((el_c33 g).mpr h)
theorem eb_f33 {a : Nat} (h : a ≤ 33) : ((33 : Int32) < nI a) = False := eq_false (fun z => by have := (el_c33 (by omega)).mp z; omega)
theorem eb_g33 {a : Nat} (h : a < 33) : (nI a < (33 : Int32)) = True := eq_true ((el_d33 (by omega)).mpr h)
theorem eb_h33 {a : Nat} (h : 33 ≤ a) (g : a < 2 ^ 31) : (nI a < (33 : Int32)) = False := eq_false (fun z => by have := (el_d33 g).mp z; omega)
theorem eb_i33 {a : Nat} (h : a = 33) : (nI a = (33 : Int32)) = True := eq_true ((el_e33 (by omega)).mpr h)
theorem eb_j33 {a : Nat} (h : a ≠ 33) (g : a < 2 ^ 31) : (nI a = (33 : Int32)) = False := eq_false (fun z => h ((el_e33 g).mp z))
theorem el_g33 (a : Nat) : nI a + (33 : Int32) = nI (a + 33) := nI_add a 33
theorem el_h33 (a : Nat) : (33 : Int32) + nI a = nI (33 + a) := nI_add 33 a
theorem el_i33 (a : Nat) : nI a * (33 : Int32) = nI (a * 33) := pk_mul a 33
theorem el_j33 (a : Nat) : (33 : Int32) * nI a = nI (33 * a) := pk_mul 33 a
theorem el_a39 {a : Nat} (h : a < 2 ^ 31) : (39 : Int32) ≤ nI a ↔ 39 ≤ a := nI_leI (a := 39) (by decide) h
theorem el_b39 {a : Nat} (h : a < 2 ^ 31) : nI a ≤ (39 : Int32) ↔ a ≤ 39 := nI_leI (b := 39) h (by decide)
theorem el_c39 {a : Nat} (h : a < 2 ^ 31) : (39 : Int32) < nI a ↔ 39 < a := nI_ltI (a := 39) (by decide) h
theorem el_d39 {a : Nat} (h : a < 2 ^ 31) : nI a < (39 : Int32) ↔ a < 39 := nI_ltI (b := 39) h (by decide)
theorem el_e39 {a : Nat} (h : a < 2 ^ 31) : nI a = (39 : Int32) ↔ a = 39 := nI_eq (b := 39) h (by decide)
theorem el_f39 {a : Nat} (h : a < 2 ^ 31) : (39 : Int32) = nI a ↔ 39 = a := nI_eq (a := 39) (by decide) h
theorem eb_a39 {a : Nat} (h : 39 ≤ a) (g : a < 2 ^ 31) : ((39 : Int32) ≤ nI a) = True := eq_true ((el_a39 g).mpr h)
theorem eb_b39 {a : Nat} (h : a < 39) : ((39 : Int32) ≤ nI a) = False := eq_false (fun z => by have := (el_a39 (by omega)).mp z; omega)
theorem eb_c39 {a : Nat} (h : a ≤ 39) : (nI a ≤ (39 : Int32)) = True := eq_true ((el_b39 (by omega)).mpr h)
theorem eb_d39 {a : Nat} (h : 39 < a) (g : a < 2 ^ 31) : (nI a ≤ (39 : Int32)) = False := eq_false (fun z => by have := (el_b39 g).mp z; omega)
theorem eb_e39 {a : Nat} (h : 39 < a) (g : a < 2 ^ 31) : ((39 : Int32) < nI a) = True := eq_true ((el_c39 g).mpr h)
theorem eb_f39 {a : Nat} (h : a ≤ 39) : ((39 : Int32) < nI a) = False := eq_false (fun z => by have := (el_c39 (by omega)).mp z; omega)
theorem eb_g39 {a : Nat} (h : a < 39) : (nI a < (39 : Int32)) = True := eq_true ((el_d39 (by omega)).mpr h)
theorem eb_h39 {a : Nat} (h : 39 ≤ a) (g : a < 2 ^ 31) : (nI a < (39 : Int32)) = False := eq_false (fun z => by have := (el_d39 g).mp z; omega)
theorem eb_i39 {a : Nat} (h : a = 39) : (nI a = (39 : Int32)) = True := eq_true ((el_e39 (by omega)).mpr h)
theorem eb_j39 {a : Nat} (h : a ≠ 39) (g : a < 2 ^ 31) : (nI a = (39 : Int32)) = False := eq_false (fun z => h ((el_e39 g).mp z))
theorem el_g39 (a : Nat) : nI a + (39 : Int32) = nI (a + 39) := nI_add a 39
theorem el_h39 (a : Nat) : (39 : Int32) + nI a = nI (39 + a) := nI_add 39 a
theorem el_i39 (a : Nat) : nI a * (39 : Int32) = nI (a * 39) := pk_mul a 39
theorem el_j39 (a : Nat) : (39 : Int32) * nI a = nI (39 * a) := pk_mul 39 a
theorem el_a40 {a : Nat} (h : a < 2 ^ 31) : (40 : Int32) ≤ nI a ↔ 40 ≤ a := nI_leI (a := 40) (by decide) h
theorem el_b40 {a : Nat} (h : a < 2 ^ 31) : nI a ≤ (40 : Int32) ↔ a ≤ 40 := nI_leI (b := 40) h (by decide)
theorem el_c40 {a : Nat} (h : a < 2 ^ 31) : (40 : Int32) < nI a ↔ 40 < a := nI_ltI (a := 40) (by decide) h
theorem el_d40 {a : Nat} (h : a < 2 ^ 31) : nI a < (40 : Int32) ↔ a < 40 := nI_ltI (b := 40) h (by decide)
theorem el_e40 {a : Nat} (h : a < 2 ^ 31) : nI a = (40 : Int32) ↔ a = 40 := nI_eq (b := 40) h (by decide)
theorem el_f40 {a : Nat} (h : a < 2 ^ 31) : (40 : Int32) = nI a ↔ 40 = a := nI_eq (a := 40) (by decide) h
theorem eb_a40 {a : Nat} (h : 40 ≤ a) (g : a < 2 ^ 31) : ((40 : Int32) ≤ nI a) = True := eq_true ((el_a40 g).mpr h)
theorem eb_b40 {a : Nat} (h : a < 40) : ((40 : Int32) ≤ nI a) = False := eq_false (fun z => by have := (el_a40 (by omega)).mp z; omega)
theorem eb_c40 {a : Nat} (h : a ≤ 40) : (nI a ≤ (40 : Int32)) = True := eq_true ((el_b40 (by omega)).mpr h)
theorem eb_d40 {a : Nat} (h : 40 < a) (g : a < 2 ^ 31) : (nI a ≤ (40 : Int32)) = False := eq_false (fun z => by have := (el_b40 g).mp z; omega)
theorem eb_e40 {a : Nat} (h : 40 < a) (g : a < 2 ^ 31) : ((40 : Int32) < nI a) = True := eq_true ((el_c40 g).mpr h)
theorem eb_f40 {a : Nat} (h : a ≤ 40) : ((40 : Int32) < nI a) = False := eq_false (fun z => by have := (el_c40 (by omega)).mp z; omega)
theorem eb_g40 {a : Nat} (h : a < 40) : (nI a < (40 : Int32)) = True := eq_true ((el_d40 (by omega)).mpr h)
theorem eb_h40 {a : Nat} (h : 40 ≤ a) (g : a < 2 ^ 31) : (nI a < (40 : Int32)) = False := eq_false (fun z => by have := (el_d40 g).mp z; omega)
theorem eb_i40 {a : Nat} (h : a = 40) : (nI a = (40 : Int32)) = True := eq_true ((el_e40 (by omega)).mpr h)
theorem eb_j40 {a : Nat} (h : a ≠ 40) (g : a < 2 ^ 31) : (nI a = (40 : Int32)) = False := eq_false (fun z => h ((el_e40 g).mp z))
theorem el_g40 (a : Nat) : nI a + (40 : Int32) = nI (a + 40) := nI_add a 40
theorem el_h40 (a : Nat) : (40 : Int32) + nI a = nI (40 + a) := nI_add 40 a
theorem el_i40 (a : Nat) : nI a * (40 : Int32) = nI (a * 40) := pk_mul a 40
theorem el_j40 (a : Nat) : (40 : Int32) * nI a = nI (40 * a) := pk_mul 40 a
theorem el_a42 {a : Nat} (h : a < 2 ^ 31) : (42 : Int32) ≤ nI a ↔ 42 ≤ a := nI_leI (a := 42) (by decide) h
theorem el_b42 {a : Nat} (h : a < 2 ^ 31) : nI a ≤ (42 : Int32) ↔ a ≤ 42 := nI_leI (b := 42) h (by decide)
theorem el_c42 {a : Nat} (h : a < 2 ^ 31) : (42 : Int32) < nI a ↔ 42 < a := nI_ltI (a := 42) (by decide) h
theorem el_d42 {a : Nat} (h : a < 2 ^ 31) : nI a < (42 : Int32) ↔ a < 42 := nI_ltI (b := 42) h (by decide)
theorem el_e42 {a : Nat} (h : a < 2 ^ 31) : nI a = (42 : Int32) ↔ a = 42 := nI_eq (b := 42) h (by decide)
theorem el_f42 {a : Nat} (h : a < 2 ^ 31) : (42 : Int32) = nI a ↔ 42 = a := nI_eq (a := 42) (by decide) h
theorem eb_a42 {a : Nat} (h : 42 ≤ a) (g : a < 2 ^ 31) : ((42 : Int32) ≤ nI a) = True := eq_true ((el_a42 g).mpr h)
theorem eb_b42 {a : Nat} (h : a < 42) : ((42 : Int32) ≤ nI a) = False := eq_false (fun z => by have := (el_a42 (by omega)).mp z; omega)
theorem eb_c42 {a : Nat} (h : a ≤ 42) : (nI a ≤ (42 : Int32)) = True := eq_true ((el_b42 (by omega)).mpr h)
theorem eb_d42 {a : Nat} (h : 42 < a) (g : a < 2 ^ 31) : (nI a ≤ (42 : Int32)) = False := eq_false (fun z => by have := (el_b42 g).mp z; omega)
theorem eb_e42 {a : Nat} (h : 42 < a) (g : a < 2 ^ 31) : ((42 : Int32) < nI a) = True := eq_true ((el_c42 g).mpr h)
theorem eb_f42 {a : Nat} (h : a ≤ 42) : ((42 : Int32) < nI a) = False := eq_false (fun z => by have := (el_c42 (by omega)).mp z; omega)
theorem eb_g42 {a : Nat} (h : a < 42) : (nI a < (42 : Int32)) = True := eq_true ((el_d42 (by omega)).mpr h)
theorem eb_h42 {a : Nat} (h : 42 ≤ a) (g : a < 2 ^ 31) : (nI a < (42 : Int32)) = False := eq_false (fun z => by have := (el_d42 g).mp z; omega)
theorem eb_i42 {a : Nat} (h : a = 42) : (nI a = (42 : Int32)) = True := eq_true ((el_e42 (by omega)).mpr h)
theorem eb_j42 {a : Nat} (h : a ≠ 42) (g : a < 2 ^ 31) : (nI a = (42 : Int32)) = False := eq_false (fun z => h ((el_e42 g).mp z))
theorem el_g42 (a : Nat) : nI a + (42 : Int32) = nI (a + 42) := nI_add a 42
theorem el_h42 (a : Nat) : (42 : Int32) + nI a = nI (42 + a) := nI_add 42 a
theorem el_i42 (a : Nat) : nI a * (42 : Int32) = nI (a * 42) := pk_mul a 42
theorem el_j42 (a : Nat) : (42 : Int32) * nI a = nI (42 * a) := pk_mul 42 a
theorem el_a90 {a : Nat} (h : a < 2 ^ 31) : (90 : Int32) ≤ nI a ↔ 90 ≤ a := nI_leI (a := 90) (by decide) h
theorem el_b90 {a : Nat} (h : a < 2 ^ 31) : nI a ≤ (90 : Int32) ↔ a ≤ 90 := nI_leI (b := 90) h (by decide)
theorem el_c90 {a : Nat} (h : a < 2 ^ 31) : (90 : Int32) < nI a ↔ 90 < a := nI_ltI (a := 90) (by decide) h
theorem el_d90 {a : Nat} (h : a < 2 ^ 31) : nI a < (90 : Int32) ↔ a < 90 := nI_ltI (b := 90) h (by decide)
theorem el_e90 {a : Nat} (h : a < 2 ^ 31) : nI a = (90 : Int32) ↔ a = 90 := nI_eq (b := 90) h (by decide)
theorem el_f90 {a : Nat} (h : a < 2 ^ 31) : (90 : Int32) = nI a ↔ 90 = a := nI_eq (a := 90) (by decide) h
theorem eb_a90 {a : Nat} (h : 90 ≤ a) (g : a < 2 ^ 31) : ((90 : Int32) ≤ nI a) = True := eq_true ((el_a90 g).mpr h)
theorem eb_b90 {a : Nat} (h : a < 90) : ((90 : Int32) ≤ nI a) = False := eq_false (fun z => by have := (el_a90 (by omega)).mp z; omega)
theorem eb_c90 {a : Nat} (h : a ≤ 90) : (nI a ≤ (90 : Int32)) = True := eq_true ((el_b90 (by omega)).mpr h)
theorem eb_d90 {a : Nat} (h : 90 < a) (g : a < 2 ^ 31) : (nI a ≤ (90 : Int32)) = False := eq_false (fun z => by have := (el_b90 g).mp z; omega)
theorem eb_e90 {a : Nat} (h : 90 < a) (g : a < 2 ^ 31) : ((90 : Int32) < nI a) = True := eq_true ((el_c90 g).mpr h)
theorem eb_f90 {a : Nat} (h : a ≤ 90) : ((90 : Int32) < nI a) = False := eq_false (fun z => by have := (el_c90 (by omega)).mp z; omega)
theorem eb_g90 {a : Nat} (h : a < 90) : (nI a < (90 : Int32)) = True := eq_true ((el_d90 (by omega)).mpr h)
theorem eb_h90 {a : Nat} (h : 90 ≤ a) (g : a < 2 ^ 31) : (nI a < (90 : Int32)) = False := eq_false (fun z => by have := (el_d90 g).mp z; omega)
theorem eb_i90 {a : Nat} (h : a = 90) : (nI a = (90 : Int32)) = True := eq_true ((el_e90 (by omega)).mpr h)
theorem eb_j90 {a : Nat} (h : a ≠ 90) (g : a < 2 ^ 31) : (nI a = (90 : Int32)) = False := eq_false (fun z => h ((el_e90 g).mp z))
theorem el_g90 (a : Nat) : nI a + (90 : Int32) = nI (a + 90) := nI_add a 90
theorem el_h90 (a : Nat) : (90 : Int32) + nI a = nI (90 + a) := nI_add 90 a
theorem el_i90 (a : Nat) : nI a * (90 : Int32) = nI (a * 90) := pk_mul a 90
theorem el_j90 (a : Nat) : (90 : Int32) * nI a = nI (90 * a) := pk_mul 90 a
theorem el_a100 {a : Nat} (h : a < 2 ^ 31) : (100 : Int32) ≤ nI a ↔ 100 ≤ a := nI_leI (a := 100) (by decide) h
theorem el_b100 {a : Nat} (h : a < 2 ^ 31) : nI a ≤ (100 : Int32) ↔ a ≤ 100 := nI_leI (b := 100) h (by decide)
theorem el_c100 {a : Nat} (h : a < 2 ^ 31) : (100 : Int32) < nI a ↔ 100 < a := nI_ltI (a := 100) (by decide) h
theorem el_d100 {a : Nat} (h : a < 2 ^ 31) : nI a < (100 : Int32) ↔ a < 100 := nI_ltI (b := 100) h (by decide)
theorem el_e100 {a : Nat} (h : a < 2 ^ 31) : nI a = (100 : Int32) ↔ a = 100 := nI_eq (b := 100) h (by decide)
theorem el_f100 {a : Nat} (h : a < 2 ^ 31) : (100 : Int32) = nI a ↔ 100 = a := nI_eq (a := 100) (by decide) h
theorem eb_a100 {a : Nat} (h : 100 ≤ a) (g : a < 2 ^ 31) : ((100 : Int32) ≤ nI a) = True := eq_true ((el_a100 g).mpr h)
theorem eb_b100 {a : Nat} (h : a < 100) : ((100 : Int32) ≤ nI a) = False := eq_false (fun z => by have := (el_a100 (by omega)).mp z; omega)
theorem eb_c100 {a : Nat} (h : a ≤ 100) : (nI a ≤ (100 : Int32)) = True := eq_true ((el_b100 (by omega)).mpr h)
theorem eb_d100 {a : Nat} (h : 100 < a) (g : a < 2 ^ 31) : (nI a ≤ (100 : Int32)) = False := eq_false (fun z => by have := (el_b100 g).mp z; omega)
theorem eb_e100 {a : Nat} (h : 100 < a) (g : a < 2 ^ 31) : ((100 : Int32) < nI a) = True := eq_true ((el_c100 g).mpr h)
theorem eb_f100 {a : Nat} (h : a ≤ 100) : ((100 : Int32) < nI a) = False := eq_false (fun z => by have := (el_c100 (by omega)).mp z; omega)
theorem eb_g100 {a : Nat} (h : a < 100) : (nI a < (100 : Int32)) = True := eq_true ((el_d100 (by omega)).mpr h)
theorem eb_h100 {a : Nat} (h : 100 ≤ a) (g : a < 2 ^ 31) : (nI a < (100 : Int32)) = False := eq_false (fun z => by have := (el_d100 g).mp z; omega)
theorem eb_i100 {a : Nat} (h : a = 100) : (nI a = (100 : Int32)) = True := eq_true ((el_e100 (by omega)).mpr h)
theorem eb_j100 {a : Nat} (h : a ≠ 100) (g : a < 2 ^ 31) : (nI a = (100 : Int32)) = False := eq_false (fun z => h ((el_e100 g).mp z))
theorem el_g100 (a : Nat) : nI a + (100 : Int32) = nI (a + 100) := nI_add a 100
theorem el_h100 (a : Nat) : (100 : Int32) + nI a = nI (100 + a) := nI_add 100 a
theorem el_i100 (a : Nat) : nI a * (100 : Int32) = nI (a * 100) := pk_mul a 100
theorem el_j100 (a : Nat) : (100 : Int32) * nI a = nI (100 * a) := pk_mul 100 a
theorem el_a2000 {a : Nat} (h : a < 2 ^ 31) : (2000 : Int32) ≤ nI a ↔ 2000 ≤ a := nI_leI (a := 2000) (by decide) h
theorem el_b2000 {a : Nat} (h : a < 2 ^ 31) : nI a ≤ (2000 : Int32) ↔ a ≤ 2000 := nI_leI (b := 2000) h (by decide)
theorem el_c2000 {a : Nat} (h : a < 2 ^ 31) : (2000 : Int32) < nI a ↔ 2000 < a := nI_ltI (a := 2000) (by decide) h
theorem el_d2000 {a : Nat} (h : a < 2 ^ 31) : nI a < (2000 : Int32) ↔ a < 2000 := nI_ltI (b := 2000) h (by decide)
theorem el_e2000 {a : Nat} (h : a < 2 ^ 31) : nI a = (2000 : Int32) ↔ a = 2000 := nI_eq (b := 2000) h (by decide)
theorem el_f2000 {a : Nat} (h : a < 2 ^ 31) : (2000 : Int32) = nI a ↔ 2000 = a := nI_eq (a := 2000) (by decide) h
theorem eb_a2000 {a : Nat} (h : 2000 ≤ a) (g : a < 2 ^ 31) : ((2000 : Int32) ≤ nI a) = True := eq_true ((el_a2000 g).mpr h)
theorem eb_b2000 {a : Nat} (h : a < 2000) : ((2000 : Int32) ≤ nI a) = False := eq_false (fun z => by have := (el_a2000 (by omega)).mp z; omega)
theorem eb_c2000 {a : Nat} (h : a ≤ 2000) : (nI a ≤ (2000 : Int32)) = True := eq_true ((el_b2000 (by omega)).mpr h)
theorem eb_d2000 {a : Nat} (h : 2000 < a) (g : a < 2 ^ 31) : (nI a ≤ (2000 : Int32)) = False := eq_false (fun z => by have := (el_b2000 g).mp z; omega)
theorem eb_e2000 {a : Nat} (h : 2000 < a) (g : a < 2 ^ 31) : ((2000 : Int32) < nI a) = True := eq_true ((el_c2000 g).mpr h)
theorem eb_f2000 {a : Nat} (h : a ≤ 2000) : ((2000 : Int32) < nI a) = False := eq_false (fun z => by have := (el_c2000 (by omega)).mp z; omega)
theorem eb_g2000 {a : Nat} (h : a < 2000) : (nI a < (2000 : Int32)) = True := eq_true ((el_d2000 (by omega)).mpr h)
theorem eb_h2000 {a : Nat} (h : 2000 ≤ a) (g : a < 2 ^ 31) : (nI a < (2000 : Int32)) = False := eq_false (fun z => by have := (el_d2000 g).mp z; omega)
theorem eb_i2000 {a : Nat} (h : a = 2000) : (nI a = (2000 : Int32)) = True := eq_true ((el_e2000 (by omega)).mpr h)
theorem eb_j2000 {a : Nat} (h : a ≠ 2000) (g : a < 2 ^ 31) : (nI a = (2000 : Int32)) = False := eq_false (fun z => h ((el_e2000 g).mp z))
theorem el_g2000 (a : Nat) : nI a + (2000 : Int32) = nI (a + 2000) := nI_add a 2000
theorem el_h2000 (a : Nat) : (2000 : Int32) + nI a = nI (2000 + a) := nI_add 2000 a
theorem el_i2000 (a : Nat) : nI a * (2000 : Int32) = nI (a * 2000) := pk_mul a 2000
theorem el_j2000 (a : Nat) : (2000 : Int32) * nI a = nI (2000 * a) := pk_mul 2000 a
end
