section
/-! comparisons with literals -/
theorem el_a0 {a : Nat} (h : a < 2 ^ 31) : (0 : Int32) ≤ nI a ↔ 0 ≤ a := nI_leI (a := 0) (by decide) h
theorem el_b0 {a : Nat} (h : a < 2 ^ 31) : nI a ≤ (0 : Int32) ↔ a ≤ 0 := nI_leI (b := 0) h (by decide)
theorem el_c0 {a : Nat} (h : a < 2 ^ 31) : (0 : Int32) < nI a ↔ 0 < a := nI_ltI (a := 0) (by decide) h
theorem el_d0 {a : Nat} (h : a < 2 ^ 31) : nI a < (0 : Int32) ↔ a < 0 := nI_ltI (b := 0) h (by decide)
theorem el_e0 {a : Nat} (h : a < 2 ^ 31) : nI a = (0 : Int32) ↔ a = 0 := nI_eq (b := 0) h (by decide)
theorem el_f0 {a : Nat} (h : a < 2 ^ 31) : (0 : Int32) = nI a ↔ 0 = a := nI_eq (a := 0) (by decide) h
theorem el_g0 (a : Nat) : nI a + (0 : Int32) = nI (a + 0) := nI_add a 0
theorem el_h0 (a : Nat) : (0 : Int32) + nI a = nI (0 + a) := nI_add 0 a
theorem el_i0 (a : Nat) : nI a * (0 : Int32) = nI (a * 0) := pk_mul a 0
theorem el_j0 (a : Nat) : (0 : Int32) * nI a = nI (0 * a) := pk_mul 0 a
theorem el_a1 {a : Nat} (h : a < 2 ^ 31) : (1 : Int32) ≤ nI a ↔ 1 ≤ a := nI_leI (a := 1) (by decide) h
theorem el_b1 {a : Nat} (h : a < 2 ^ 31) : nI a ≤ (1 : Int32) ↔ a ≤ 1 := nI_leI (b := 1) h (by decide)
theorem el_c1 {a : Nat} (h : a < 2 ^ 31) : (1 : Int32) < nI a ↔ 1 < a := nI_ltI (a := 1) (by decide) h
theorem el_d1 {a : Nat} (h : a < 2 ^ 31) : nI a < (1 : Int32) ↔ a < 1 := nI_ltI (b := 1) h (by decide)
theorem el_e1 {a : Nat} (h : a < 2 ^ 31) : nI a = (1 : Int32) ↔ a = 1 := nI_eq (b := 1) h (by decide)
theorem el_f1 {a : Nat} (h : a < 2 ^ 31) : (1 : Int32) = nI a ↔ 1 = a := nI_eq (a := 1) (by decide) h
theorem el_g1 (a : Nat) : nI a + (1 : Int32) = nI (a + 1) := nI_add a 1
theorem el_h1 (a : Nat) : (1 : Int32) + nI a = nI (1 + a) := nI_add 1 a
theorem el_i1 (a : Nat) : nI a * (1 : Int32) = nI (a * 1) := pk_mul a 1
theorem el_j1 (a : Nat) : (1 : Int32) * nI a = nI (1 * a) := pk_mul 1 a
theorem el_a2 {a : Nat} (h : a < 2 ^ 31) : (2 : Int32) ≤ nI a ↔ 2 ≤ a := nI_leI (a := 2) (by decide) h
theorem el_b2 {a : Nat} (h : a < 2 ^ 31) : nI a ≤ (2 : Int32) ↔ a ≤ 2 := nI_leI (b := 2) h (by decide)
theorem el_c2 {a : Nat} (h : a < 2 ^ 31) : (2 : Int32) < nI a ↔ 2 < a := nI_ltI (a := 2) (by decide) h
theorem el_d2 {a : Nat} (h : a < 2 ^ 31) : nI a < (2 : Int32) ↔ a < 2 := nI_ltI (b := 2) h (by decide)
theorem el_e2 {a : Nat} (h : a < 2 ^ 31) : nI a = (2 : Int32) ↔ a = 2 := nI_eq (b := 2) h (by decide)
theorem el_f2 {a : Nat} (h : a < 2 ^ 31) : (2 : Int32) = nI a ↔ 2 = a := nI_eq (a := 2) (by decide) h
theorem el_g2 (a : Nat) : nI a + (2 : Int32) = nI (a + 2) := nI_add a 2
theorem el_h2 (a : Nat) : (2 : Int32) + nI a = nI (2 + a) := nI_add 2 a
theorem el_i2 (a : Nat) : nI a * (2 : Int32) = nI (a * 2) := pk_mul a 2
theorem el_j2 (a : Nat) : (2 : Int32) * nI a = nI (2 * a) := pk_mul 2 a
theorem el_a3 {a : Nat} (h : a < 2 ^ 31) : (3 : Int32) ≤ nI a ↔ 3 ≤ a := nI_leI (a := 3) (by decide) h
theorem el_b3 {a : Nat} (h : a < 2 ^ 31) : nI a ≤ (3 : Int32) ↔ a ≤ 3 := nI_leI (b := 3) h (by decide)
theorem el_c3 {a : Nat} (h : a < 2 ^ 31) : (3 : Int32) < nI a ↔ 3 < a := nI_ltI (a := 3) (by decide) h
theorem el_d3 {a : Nat} (h : a < 2 ^ 31) : nI a < (3 : Int32) ↔ a < 3 := nI_ltI (b := 3) h (by decide)
theorem el_e3 {a : Nat} (h : a < 2 ^ 31) : nI a = (3 : Int32) ↔ a = 3 := nI_eq (b := 3) h (by decide)
theorem el_f3 {a : Nat} (h : a < 2 ^ 31) : (3 : Int32) = nI a ↔ 3 = a := nI_eq (a := 3) (by decide) h
theorem el_g3 (a : Nat) : nI a + (3 : Int32) = nI (a + 3) := nI_add a 3
theorem el_h3 (a : Nat) : (3 : Int32) + nI a = nI (3 + a) := nI_add 3 a
theorem el_i3 (a : Nat) : nI a * (3 : Int32) = nI (a * 3) := pk_mul a 3
theorem el_j3 (a : Nat) : (3 : Int32) * nI a = nI (3 * a) := pk_mul 3 a
theorem el_a4 {a : Nat} (h : a < 2 ^ 31) : (4 : Int32) ≤ nI a ↔ 4 ≤ a := nI_leI (a := 4) (by decide) h
theorem el_b4 {a : Nat} (h : a < 2 ^ 31) : nI a ≤ (4 : Int32) ↔ a ≤ 4 := nI_leI (b := 4) h (by decide)
theorem el_c4 {a : Nat} (h : a < 2 ^ 31) : (4 : Int32) < nI a ↔ 4 < a := nI_ltI (a := 4) (by decide) h
theorem el_d4 {a : Nat} (h : a < 2 ^ 31) : nI a < (4 : Int32) ↔ a < 4 := nI_ltI (b := 4) h (by decide)
theorem el_e4 {a : Nat} (h : a < 2 ^ 31) : nI a = (4 : Int32) ↔ a = 4 := nI_eq (b := 4) h (by decide)
theorem el_f4 {a : Nat} (h : a < 2 ^ 31) : (4 : Int32) = nI a ↔ 4 = a := nI_eq (a := 4) (by decide) h
theorem el_g4 (a : Nat) : nI a + (4 : Int32) = nI (a + 4) := nI_add a 4
theorem el_h4 (a : Nat) : (4 : Int32) + nI a = nI (4 + a) := nI_add 4 a
theorem el_i4 (a : Nat) : nI a * (4 : Int32) = nI (a * 4) := pk_mul a 4
theorem el_j4 (a : Nat) : (4 : Int32) * nI a = nI (4 * a) := pk_mul 4 a
theorem el_a5 {a : Nat} (h : a < 2 ^ 31) : (5 : Int32) ≤ nI a ↔ 5 ≤ a := nI_leI (a := 5) (by decide) h
theorem el_b5 {a : Nat} (h : a < 2 ^ 31) : nI a ≤ (5 : Int32) ↔ a ≤ 5 := nI_leI (b := 5) h (by decide)
theorem el_c5 {a : Nat} (h : a < 2 ^ 31) : (5 : Int32) < nI a ↔ 5 < a := nI_ltI (a := 5) (by decide) h
theorem el_d5 {a : Nat} (h : a < 2 ^ 31) : nI a < (5 : Int32) ↔ a < 5 := nI_ltI (b := 5) h (by decide)
theorem el_e5 {a : Nat} (h : a < 2 ^ 31) : nI a = (5 : Int32) ↔ a = 5 := nI_eq (b := 5) h (by decide)
theorem el_f5 {a : Nat} (h : a < 2 ^ 31) : (5 : Int32) = nI a ↔ 5 = a := nI_eq (a := 5) (by decide) h
theorem el_g5 (a : Nat) : nI a + (5 : Int32) = nI (a + 5) := nI_add a 5
theorem el_h5 (a : Nat) : (5 : Int32) + nI a = nI (5 + a) := nI_add 5 a
theorem el_i5 (a : Nat) : nI a * (5 : Int32) = nI (a * 5) := pk_mul a 5
theorem el_j5 (a : Nat) : (5 : Int32) * nI a = nI (5 * a) := pk_mul 5 a
theorem el_a6 {a : Nat} (h : a < 2 ^ 31) : (6 : Int32) ≤ nI a ↔ 6 ≤ a := nI_leI (a := 6) (by decide) h
theorem el_b6 {a : Nat} (h : a < 2 ^ 31) : nI a ≤ (6 : Int32) ↔ a ≤ 6 := nI_leI (b := 6) h (by decide)
theorem el_c6 {a : Nat} (h : a < 2 ^ 31) : (6 : Int32) < nI a ↔ 6 < a := nI_ltI (a := 6) (by decide) h
theorem el_d6 {a : Nat} (h : a < 2 ^ 31) : nI a < (6 : Int32) ↔ a < 6 := nI_ltI (b := 6) h (by decide)
theorem el_e6 {a : Nat} (h : a < 2 ^ 31) : nI a = (6 : Int32) ↔ a = 6 := nI_eq (b := 6) h (by decide)
theorem el_f6 {a : Nat} (h : a < 2 ^ 31) : (6 : Int32) = nI a ↔ 6 = a := nI_eq (a := 6) (by decide) h
theorem el_g6 (a : Nat) : nI a + (6 : Int32) = nI (a + 6) := nI_add a 6
theorem el_h6 (a : Nat) : (6 : Int32) + nI a = nI (6 + a) := nI_add 6 a
theorem el_i6 (a : Nat) : nI a * (6 : Int32) = nI (a * 6) := pk_mul a 6
theorem el_j6 (a : Nat) : (6 : Int32) * nI a = nI (6 * a) := pk_mul 6 a
theorem el_a7 {a : Nat} (h : a < 2 ^ 31) : (7 : Int32) ≤ nI a ↔ 7 ≤ a := nI_leI (a := 7) (by decide) h
theorem el_b7 {a : Nat} (h : a < 2 ^ 31) : nI a ≤ (7 : Int32) ↔ a ≤ 7 := nI_leI (b := 7) h (by decide)
theorem el_c7 {a : Nat} (h : a < 2 ^ 31) : (7 : Int32) < nI a ↔ 7 < a := nI_ltI (a := 7) (by decide) h
theorem el_d7 {a : Nat} (h : a < 2 ^ 31) : nI a < (7 : Int32) ↔ a < 7 := nI_ltI (b := 7) h (by decide)
theorem el_e7 {a : Nat} (h : a < 2 ^ 31) : nI a = (7 : Int32) ↔ a = 7 := nI_eq (b := 7) h (by decide)
theorem el_f7 {a : Nat} (h : a < 2 ^ 31) : (7 : Int32) = nI a ↔ 7 = a := nI_eq (a := 7) (by decide) h
theorem el_g7 (a : Nat) : nI a + (7 : Int32) = nI (a + 7) := nI_add a 7
theorem el_h7 (a : Nat) : (7 : Int32) + nI a = nI (7 + a) := nI_add 7 a
theorem el_i7 (a : Nat) : nI a * (7 : Int32) = nI (a * 7) := pk_mul a 7
theorem el_j7 (a : Nat) : (7 : Int32) * nI a = nI (7 * a) := pk_mul 7 a
theorem el_a8 {a : Nat} (h : a < 2 ^ 31) : (8 : Int32) ≤ nI a ↔ 8 ≤ a := nI_leI (a := 8) (by decide) h
theorem el_b8 {a : Nat} (h : a < 2 ^ 31) : nI a ≤ (8 : Int32) ↔ a ≤ 8 := nI_leI (b := 8) h (by decide)
theorem el_c8 {a : Nat} (h : a < 2 ^ 31) : (8 : Int32) < nI a ↔ 8 < a := nI_ltI (a := 8) (by decide) h
theorem el_d8 {a : Nat} (h : a < 2 ^ 31) : nI a < (8 : Int32) ↔ a < 8 := nI_ltI (b := 8) h (by decide)
theorem el_e8 {a : Nat} (h : a < 2 ^ 31) : nI a = (8 : Int32) ↔ a = 8 := nI_eq (b := 8) h (by decide)
theorem el_f8 {a : Nat} (h : a < 2 ^ 31) : (8 : Int32) = nI a ↔ 8 = a := nI_eq (a := 8) (by decide) h
theorem el_g8 (a : Nat) : nI a + (8 : Int32) = nI (a + 8) := nI_add a 8
theorem el_h8 (a : Nat) : (8 : Int32) + nI a = nI (8 + a) := nI_add 8 a
theorem el_i8 (a : Nat) : nI a * (8 : Int32) = nI (a * 8) := pk_mul a 8
theorem el_j8 (a : Nat) : (8 : Int32) * nI a = nI (8 * a) := pk_mul 8 a
theorem el_a9 {a : Nat} (h : a < 2 ^ 31) : (9 : Int32) ≤ nI a ↔ 9 ≤ a := nI_leI (a := 9) (by decide) h
theorem el_b9 {a : Nat} (h : a < 2 ^ 31) : nI a ≤ (9 : Int32) ↔ a ≤ 9 := nI_leI (b := 9) h (by decide)
theorem el_c9 {a : Nat} (h : a < 2 ^ 31) : (9 : Int32) < nI a ↔ 9 < a := nI_ltI (a := 9) (by decide) h
theorem el_d9 {a : Nat} (h : a < 2 ^ 31) : nI a < (9 : Int32) ↔ a < 9 := nI_ltI (b := 9) h (by decide)
theorem el_e9 {a : Nat} (h : a < 2 ^ 31) : nI a = (9 : Int32) ↔ a = 9 := nI_eq (b := 9) h (by decide)
theorem el_f9 {a : Nat} (h : a < 2 ^ 31) : (9 : Int32) = nI a ↔ 9 = a := nI_eq (a := 9) (by decide) h
theorem el_g9 (a : Nat) : nI a + (9 : Int32) = nI (a + 9) := nI_add a 9
theorem el_h9 (a : Nat) : (9 : Int32) + nI a = nI (9 + a) := nI_add 9 a
theorem el_i9 (a : Nat) : nI a * (9 : Int32) = nI (a * 9) := pk_mul a 9
theorem el_j9 (a : Nat) : (9 : Int32) * nI a = nI (9 * a) := pk_mul 9 a
theorem el_a10 {a : Nat} (h : a < 2 ^ 31) : (10 : Int32) ≤ nI a ↔ 10 ≤ a := nI_leI (a := 10) (by decide) h
theorem el_b10 {a : Nat} (h : a < 2 ^ 31) : nI a ≤ (10 : Int32) ↔ a ≤ 10 := nI_leI (b := 10) h (by decide)
theorem el_c10 {a : Nat} (h : a < 2 ^ 31) : (10 : Int32) < nI a ↔ 10 < a := nI_ltI (a := 10) (by decide) h
theorem el_d10 {a : Nat} (h : a < 2 ^ 31) : nI a < (10 : Int32) ↔ a < 10 := nI_ltI (b := 10) h (by decide)
theorem el_e10 {a : Nat} (h : a < 2 ^ 31) : nI a = (10 : Int32) ↔ a = 10 := nI_eq (b := 10) h (by decide)
theorem el_f10 {a : Nat} (h : a < 2 ^ 31) : (10 : Int32) = nI a ↔ 10 = a := nI_eq (a := 10) (by decide) h
theorem el_g10 (a : Nat) : nI a + (10 : Int32) = nI (a + 10) := nI_add a 10
theorem el_h10 (a : Nat) : (10 : Int32) + nI a = nI (10 + a) := nI_add 10 a
theorem el_i10 (a : Nat) : nI a * (10 : Int32) = nI (a * 10) := pk_mul a 10
theorem el_j10 (a : Nat) : (10 : Int32) * nI a = nI (10 * a) := pk_mul 10 a
theorem el_a11 {a : Nat} (h : a < 2 ^ 31) : (11 : Int32) ≤ nI a ↔ 11 ≤ a := nI_leI (a := 11) (by decide) h
theorem el_b11 {a : Nat} (h : a < 2 ^ 31) : nI a ≤ (11 : Int32) ↔ a ≤ 11 := nI_leI (b := 11) h (by decide)
theorem el_c11 {a : Nat} (h : a < 2 ^ 31) : (11 : Int32) < nI a ↔ 11 < a := nI_ltI (a := 11) (by decide) h
theorem el_d11 {a : Nat} (h : a < 2 ^ 31) : nI a < (11 : Int32) ↔ a < 11 := nI_ltI (b := 11) h (by decide)
theorem el_e11 {a : Nat} (h : a < 2 ^ 31) : nI a = (11 : Int32) ↔ a = 11 := nI_eq (b := 11) h (by decide)
theorem el_f11 {a : Nat} (h : a < 2 ^ 31) : (11 : Int32) = nI a ↔ 11 = a := nI_eq (a := 11) (by decide) h
theorem el_g11 (a : Nat) : nI a + (11 : Int32) = nI (a + 11) := nI_add a 11
theorem el_h11 (a : Nat) : (11 : Int32) + nI a = nI (11 + a) := nI_add 11 a
theorem el_i11 (a : Nat) : nI a * (11 : Int32) = nI (a * 11) := pk_mul a 11
theorem el_j11 (a : Nat) : (11 : Int32) * nI a = nI (11 * a) := pk_mul 11 a
theorem el_a12 {a : Nat} (h : a < 2 ^ 31) : (12 : Int32) ≤ nI a ↔ 12 ≤ a := nI_leI (a := 12) (by decide) h
theorem el_b12 {a : Nat} (h : a < 2 ^ 31) : nI a ≤ (12 : Int32) ↔ a ≤ 12 := nI_leI (b := 12) h (by decide)
theorem el_c12 {a : Nat} (h : a < 2 ^ 31) : (12 : Int32) < nI a ↔ 12 < a := nI_ltI (a := 12) (by decide) h
theorem el_d12 {a : Nat} (h : a < 2 ^ 31) : nI a < (12 : Int32) ↔ a < 12 := nI_ltI (b := 12) h (by decide)
theorem el_e12 {a : Nat} (h : a < 2 ^ 31) : nI a = (12 : Int32) ↔ a = 12 := nI_eq (b := 12) h (by decide)
theorem el_f12 {a : Nat} (h : a < 2 ^ 31) : (12 : Int32) = nI a ↔ 12 = a := nI_eq (a := 12) (by decide) h
theorem el_g12 (a : Nat) : nI a + (12 : Int32) = nI (a + 12) := nI_add a 12
theorem el_h12 (a : Nat) : (12 : Int32) + nI a = nI (12 + a) := nI_add 12 a
theorem el_i12 (a : Nat) : nI a * (12 : Int32) = nI (a * 12) := pk_mul a 12
theorem el_j12 (a : Nat) : (12 : Int32) * nI a = nI (12 * a) := pk_mul 12 a
theorem el_a13 {a : Nat} (h : a < 2 ^ 31) : (13 : Int32) ≤ nI a ↔ 13 ≤ a := nI_leI (a := 13) (by decide) h
theorem el_b13 {a : Nat} (h : a < 2 ^ 31) : nI a ≤ (13 : Int32) ↔ a ≤ 13 := nI_leI (b := 13) h (by decide)
theorem el_c13 {a : Nat} (h : a < 2 ^ 31) : (13 : Int32) < nI a ↔ 13 < a := nI_ltI (a := 13) (by decide) h
theorem el_d13 {a : Nat} (h : a < 2 ^ 31) : nI a < (13 : Int32) ↔ a < 13 := nI_ltI (b := 13) h (by decide)
theorem el_e13 {a : Nat} (h : a < 2 ^ 31) : nI a = (13 : Int32) ↔ a = 13 := nI_eq (b := 13) h (by decide)
theorem el_f13 {a : Nat} (h : a < 2 ^ 31) : (13 : Int32) = nI a ↔ 13 = a := nI_eq (a := 13) (by decide) h
theorem el_g13 (a : Nat) : nI a + (13 : Int32) = nI (a + 13) := nI_add a 13
theorem el_h13 (a : Nat) : (13 : Int32) + nI a = nI (13 + a) := nI_add 13 a
theorem el_i13 (a : Nat) : nI a * (13 : Int32) = nI (a * 13) := pk_mul a 13
theorem el_j13 (a : Nat) : (13 : Int32) * nI a = nI (13 * a) := pk_mul 13 a
theorem el_a14 {a : Nat} (h : a < 2 ^ 31) : (14 : Int32) ≤ nI a ↔ 14 ≤ a := nI_leI (a := 14) (by decide) h
theorem el_b14 {a : Nat} (h : a < 2 ^ 31) : nI a ≤ (14 : Int32) ↔ a ≤ 14 := nI_leI (b := 14) h (by decide)
theorem el_c14 {a : Nat} (h : a < 2 ^ 31) : (14 : Int32) < nI a ↔ 14 < a := nI_ltI (a := 14) (by decide) h
theorem el_d14 {a : Nat} (h : a < 2 ^ 31) : nI a < (14 : Int32) ↔ a < 14 := nI_ltI (b := 14) h (by decide)
theorem el_e14 {a : Nat} (h : a < 2 ^ 31) : nI a = (14 : Int32) ↔ a = 14 := nI_eq (b := 14) h (by decide)
theorem el_f14 {a : Nat} (h : a < 2 ^ 31) : (14 : Int32) = nI a ↔ 14 = a := nI_eq (a := 14) (by decide) h
theorem el_g14 (a : Nat) : nI a + (14 : Int32) = nI (a + 14) := nI_add a 14
theorem el_h14 (a : Nat) : (14 : Int32) + nI a = nI (14 + a) := nI_add 14 a
theorem el_i14 (a : Nat) : nI a * (14 : Int32) = nI (a * 14) := pk_mul a 14
theorem el_j14 (a : Nat) : (14 : Int32) * nI a = nI (14 * a) := pk_mul 14 a
theorem el_a15 {a : Nat} (h : a < 2 ^ 31) : (15 : Int32) ≤ nI a ↔ 15 ≤ a := nI_leI (a := 15) (by decide) h
theorem el_b15 {a : Nat} (h : a < 2 ^ 31) : nI a ≤ (15 : Int32) ↔ a ≤ 15 := nI_leI (b := 15) h (by decide)
theorem el_c15 {a : Nat} (h : a < 2 ^ 31) : (15 : Int32) < nI a ↔ 15 < a := nI_ltI (a := 15) (by decide) h
theorem el_d15 {a : Nat} (h : a < 2 ^ 31) : nI a < (15 : Int32) ↔ a < 15 := nI_ltI (b := 15) h (by decide)
theorem el_e15 {a : Nat} (h : a < 2 ^ 31) : nI a = (15 : Int32) ↔ a = 15 := nI_eq (b := 15) h (by decide)
theorem el_f15 {a : Nat} (h : a < 2 ^ 31) : (15 : Int32) = nI a ↔ 15 = a := nI_eq (a := 15) (by decide) h
theorem el_g15 (a : Nat) : nI a + (15 : Int32) = nI (a + 15) := nI_add a 15
theorem el_h15 (a : Nat) : (15 : Int32) + nI a = nI (15 + a) := nI_add 15 a
theorem el_i15 (a : Nat) : nI a * (15 : Int32) = nI (a * 15) := pk_mul a 15
theorem el_j15 (a : Nat) : (15 : Int32) * nI a = nI (15 * a) := pk_mul 15 a
theorem el_a16 {a : Nat} (h : a < 2 ^ 31) : (16 : Int32) ≤ nI a ↔ 16 ≤ a := nI_leI (a := 16) (by decide) h
theorem el_b16 {a : Nat} (h : a < 2 ^ 31) : nI a ≤ (16 : Int32) ↔ a ≤ 16 := nI_leI (b := 16) h (by decide)
theorem el_c16 {a : Nat} (h : a < 2 ^ 31) : (16 : Int32) < nI a ↔ 16 < a := nI_ltI (a := 16) (by decide) h
theorem el_d16 {a : Nat} (h : a < 2 ^ 31) : nI a < (16 : Int32) ↔ a < 16 := nI_ltI (b := 16) h (by decide)
theorem el_e16 {a : Nat} (h : a < 2 ^ 31) : nI a = (16 : Int32) ↔ a = 16 := nI_eq (b := 16) h (by decide)
theorem el_f16 {a : Nat} (h : a < 2 ^ 31) : (16 : Int32) = nI a ↔ 16 = a := nI_eq (a := 16) (by decide) h
theorem el_g16 (a : Nat) : nI a + (16 : Int32) = nI (a + 16) := nI_add a 16
theorem el_h16 (a : Nat) : (16 : Int32) + nI a = nI (16 + a) := nI_add 16 a
theorem el_i16 (a : Nat) : nI a * (16 : Int32) = nI (a * 16) := pk_mul a 16
theorem el_j16 (a : Nat) : (16 : Int32) * nI a = nI (16 * a) := pk_mul 16 a
theorem el_a18 {a : Nat} (h : a < 2 ^ 31) : (18 : Int32) ≤ nI a ↔ 18 ≤ a := nI_leI (a := 18) (by decide) h
theorem el_b18 {a : Nat} (h : a < 2 ^ 31) : nI a ≤ (18 : Int32) ↔ a ≤ 18 := nI_leI (b := 18) h (by decide)
theorem el_c18 {a : Nat} (h : a < 2 ^ 31) : (18 : Int32) < nI a ↔ 18 < a := nI_ltI (a := 18) (by decide) h
theorem el_d18 {a : Nat} (h : a < 2 ^ 31) : nI a < (18 : Int32) ↔ a < 18 := nI_ltI (b := 18) h (by decide)
theorem el_e18 {a : Nat} (h : a < 2 ^ 31) : nI a = (18 : Int32) ↔ a = 18 := nI_eq (b := 18) h (by decide)
theorem el_f18 {a : Nat} (h : a < 2 ^ 31) : (18 : Int32) = nI a ↔ 18 = a := nI_eq (a := 18) (by decide) h
theorem el_g18 (a : Nat) : nI a + (18 : Int32) = nI (a + 18) := nI_add a 18
theorem el_h18 (a : Nat) : (18 : Int32) + nI a = nI (18 + a) := nI_add 18 a
theorem el_i18 (a : Nat) : nI a * (18 : Int32) = nI (a * 18) := pk_mul a 18
theorem el_j18 (a : Nat) : (18 : Int32) * nI a = nI (18 * a) := pk_mul 18 a
theorem el_a20 {a : Nat} (h : a < 2 ^ 31) : (20 : Int32) ≤ nI a ↔ 20 ≤ a := nI_leI (a := 20) (by decide) h
theorem el_b20 {a : Nat} (h : a < 2 ^ 31) : nI a ≤ (20 : Int32) ↔ a ≤ 20 := nI_leI (b := 20) h (by decide)
theorem el_c20 {a : Nat} (h : a < 2 ^ 31) : (20 : Int32) < nI a ↔ 20 < a := nI_ltI (a := 20) (by decide) h
theorem el_d20 {a : Nat} (h : a < 2 ^ 31) : nI a < (20 : Int32) ↔ a < 20 := nI_ltI (b := 20) h (by decide)
theorem el_e20 {a : Nat} (h : a < 2 ^ 31) : nI a = (20 : Int32) ↔ a = 20 := nI_eq (b := 20) h (by decide)
theorem el_f20 {a : Nat} (h : a < 2 ^ 31) : (20 : Int32) = nI a ↔ 20 = a := nI_eq (a := 20) (by decide) h
theorem el_g20 (a : Nat) : nI a + (20 : Int32) = nI (a + 20) := nI_add a 20
theorem el_h20 (a : Nat) : (20 : Int32) + nI a = nI (20 + a) := nI_add 20 a
theorem el_i20 (a : Nat) : nI a * (20 : Int32) = nI (a * 20) := pk_mul a 20
theorem el_j20 (a : Nat) : (20 : Int32) * nI a = nI (20 * a) := pk_mul 20 a
theorem el_a32 {a : Nat} (h : a < 2 ^ 31) : (32 : Int32) ≤ nI a ↔ 32 ≤ a := nI_leI (a := 32) (by decide) h
theorem el_b32 {a : Nat} (h : a < 2 ^ 31) : nI a ≤ (32 : Int32) ↔ a ≤ 32 := nI_leI (b := 32) h (by decide)
theorem el_c32 {a : Nat} (h : a < 2 ^ 31) : (32 : Int32) < nI a ↔ 32 < a := nI_ltI (a := 32) (by decide) h
theorem el_d32 {a : Nat} (h : a < 2 ^ 31) : nI a < (32 : Int32) ↔ a < 32 := nI_ltI (b := 32) h (by decide)
theorem el_e32 {a : Nat} (h : a < 2 ^ 31) : nI a = (32 : Int32) ↔ a = 32 := nI_eq (b := 32) h (by decide)
theorem el_f32 {a : Nat} (h : a < 2 ^ 31) : (32 : Int32) = nI a ↔ 32 = a := nI_eq (a := 32) (by decide) h
theorem el_g32 (a : Nat) : nI a + (32 : Int32) = nI (a + 32) := nI_add a 32
theorem el_h32 (a : Nat) : (32 : Int32) + nI a = nI (32 + a) := nI_add 32 a
theorem el_i32 (a : Nat) : nI a * (32 : Int32) = nI (a * 32) := pk_mul a 32
theorem el_j32 (a : Nat) : (32 : Int32) * nI a = nI (32 * a) := pk_mul 32 a
theorem el_a33 {a : Nat} (h : a < 2 ^ 31) : (33 : Int32) ≤ nI a ↔ 33 ≤ a := nI_leI (a := 33) (by decide) h
theorem el_b33 {a : Nat} (h : a < 2 ^ 31) : nI a ≤ (33 : Int32) ↔ a ≤ 33 := nI_leI (b := 33) h (by decide)
theorem el_c33 {a : Nat} (h : a < 2 ^ 31) : (33 : Int32) < nI a ↔ 33 < a := nI_ltI (a := 33) (by decide) h
theorem el_d33 {a : Nat} (h : a < 2 ^ 31) : nI a < (33 : Int32) ↔ a < 33 := nI_ltI (b := 33) h (by decide)
theorem el_e33 {a : Nat} (h : a < 2 ^ 31) : nI a = (33 : Int32) ↔ a = 33 := nI_eq (b := 33) h (by decide)
theorem el_f33 {a : Nat} (h : a < 2 ^ 31) : (33 : Int32) = nI a ↔ 33 = a := nI_eq (a := 33) (by decide) h
theorem el_g33 (a : Nat) : nI a + (33 : Int32) = nI (a + 33) := nI_add a 33
theorem el_h33 (a : Nat) : (33 : Int32) + nI a = nI (33 + a) := nI_add 33 a
theorem el_i33 (a : Nat) : nI a * (33 : Int32) = nI (a * 33) := pk_mul a 33
theorem el_j33 (a : Nat) : (33 : Int32) * nI a = nI (33 * a) := pk_mul 33 a
theorem el_a39 {a : Nat} (h : a < 2 ^ 31) : (39 : Int32) ≤ nI a ↔ 39 ≤ a := nI_leI (a := 39) (by decide) h
theorem el_b39 {a : Nat} (h : a < 2 ^ 31) : nI a ≤ (39 : Int32) ↔ a ≤ 39 := nI_leI (b := 39) h (by decide)
theorem el_c39 {a : Nat} (h : a < 2 ^ 31) : (39 : Int32) < nI a ↔ 39 < a := nI_ltI (a := 39) (by decide) h
theorem el_d39 {a : Nat} (h : a < 2 ^ 31) : nI a < (39 : Int32) ↔ a < 39 := nI_ltI (b := 39) h (by decide)
theorem el_e39 {a : Nat} (h : a < 2 ^ 31) : nI a = (39 : Int32) ↔ a = 39 := nI_eq (b := 39) h (by decide)
theorem el_f39 {a : Nat} (h : a < 2 ^ 31) : (39 : Int32) = nI a ↔ 39 = a := nI_eq (a := 39) (by decide) h
theorem el_g39 (a : Nat) : nI a + (39 : Int32) = nI (a + 39) := nI_add a 39
theorem el_h39 (a : Nat) : (39 : Int32) + nI a = nI (39 + a) := nI_add 39 a
theorem el_i39 (a : Nat) : nI a * (39 : Int32) = nI (a * 39) := pk_mul a 39
theorem el_j39 (a : Nat) : (39 : Int32) * nI a = nI (39 * a) := pk_mul 39 a
theorem el_a40 {a : Nat} (h : a < 2 ^ 31) : (40 : Int32) ≤ nI a ↔ 40 ≤ a := nI_leI (a := 40) (by decide) h
theorem el_b40 {a : Nat} (h : a < 2 ^ 31) : nI a ≤ (40 : Int32) ↔ a ≤ 40 := nI_leI (b := 40) h (by decide)
theorem el_c40 {a : Nat} (h : a < 2 ^ 31) : (40 : Int32) < nI a ↔ 40 < a := nI_ltI (a := 40) (by decide) h
theorem el_d40 {a : Nat} (h : a < 2 ^ 31) : nI a < (40 : Int32) ↔ a < 40 := nI_ltI (b := 40) h (by decide)
theorem el_e40 {a : Nat} (h : a < 2 ^ 31) : nI a = (40 : Int32) ↔ a = 40 := nI_eq (b := 40) h (by decide)
theorem el_f40 {a : Nat} (h : a < 2 ^ 31) : (40 : Int32) = nI a ↔ 40 = a := nI_eq (a := 40) (by decide) h
theorem el_g40 (a : Nat) : nI a + (40 : Int32) = nI (a + 40) := nI_add a 40
theorem el_h40 (a : Nat) : (40 : Int32) + nI a = nI (40 + a) := nI_add 40 a
theorem el_i40 (a : Nat) : nI a * (40 : Int32) = nI (a * 40) := pk_mul a 40
theorem el_j40 (a : Nat) : (40 : Int32) * nI a = nI (40 * a) := pk_mul 40 a
theorem el_a42 {a : Nat} (h : a < 2 ^ 31) : (42 : Int32) ≤ nI a ↔ 42 ≤ a := nI_leI (a := 42) (by decide) h
theorem el_b42 {a : Nat} (h : a < 2 ^ 31) : nI a ≤ (42 : Int32) ↔ a ≤ 42 := nI_leI (b := 42) h (by decide)
theorem el_c42 {a : Nat} (h : a < 2 ^ 31) : (42 : Int32) < nI a ↔ 42 < a := nI_ltI (a := 42) (by decide) h
theorem el_d42 {a : Nat} (h : a < 2 ^ 31) : nI a < (42 : Int32) ↔ a < 42 := nI_ltI (b := 42) h (by decide)
theorem el_e42 {a : Nat} (h : a < 2 ^ 31) : nI a = (42 : Int32) ↔ a = 42 := nI_eq (b := 42) h (by decide)
theorem el_f42 {a : Nat} (h : a < 2 ^ 31) : (42 : Int32) = nI a ↔ 42 = a := nI_eq (a := 42) (by decide) h
theorem el_g42 (a : Nat) : nI a + (42 : Int32) = nI (a + 42) := nI_add a 42
theorem el_h42 (a : Nat) : (42 : Int32) + nI a = nI (42 + a) := nI_add 42 a
theorem el_i42 (a : Nat) : nI a * (42 : Int32) = nI (a * 42) := pk_mul a 42
theorem el_j42 (a : Nat) : (42 : Int32) * nI a = nI (42 * a) := pk_mul 42 a
theorem el_a90 {a : Nat} (h : a < 2 ^ 31) : (90 : Int32) ≤ nI a ↔ 90 ≤ a := nI_leI (a := 90) (by decide) h
theorem el_b90 {a : Nat} (h : a < 2 ^ 31) : nI a ≤ (90 : Int32) ↔ a ≤ 90 := nI_leI (b := 90) h (by decide)
theorem el_c90 {a : Nat} (h : a < 2 ^ 31) : (90 : Int32) < nI a ↔ 90 < a := nI_ltI (a := 90) (by decide) h
theorem el_d90 {a : Nat} (h : a < 2 ^ 31) : nI a < (90 : Int32) ↔ a < 90 := nI_ltI (b := 90) h (by decide)
theorem el_e90 {a : Nat} (h : a < 2 ^ 31) : nI a = (90 : Int32) ↔ a = 90 := nI_eq (b := 90) h (by decide)
theorem el_f90 {a : Nat} (h : a < 2 ^ 31) : (90 : Int32) = nI a ↔ 90 = a := nI_eq (a := 90) (by decide) h
theorem el_g90 (a : Nat) : nI a + (90 : Int32) = nI (a + 90) := nI_add a 90
theorem el_h90 (a : Nat) : (90 : Int32) + nI a = nI (90 + a) := nI_add 90 a
theorem el_i90 (a : Nat) : nI a * (90 : Int32) = nI (a * 90) := pk_mul a 90
theorem el_j90 (a : Nat) : (90 : Int32) * nI a = nI (90 * a) := pk_mul 90 a
theorem el_a100 {a : Nat} (h : a < 2 ^ 31) : (100 : Int32) ≤ nI a ↔ 100 ≤ a := nI_leI (a := 100) (by decide) h
theorem el_b100 {a : Nat} (h : a < 2 ^ 31) : nI a ≤ (100 : Int32) ↔ a ≤ 100 := nI_leI (b := 100) h (by decide)
theorem el_c100 {a : Nat} (h : a < 2 ^ 31) : (100 : Int32) < nI a ↔ 100 < a := nI_ltI (a := 100) (by decide) h
theorem el_d100 {a : Nat} (h : a < 2 ^ 31) : nI a < (100 : Int32) ↔ a < 100 := nI_ltI (b := 100) h (by decide)
theorem el_e100 {a : Nat} (h : a < 2 ^ 31) : nI a = (100 : Int32) ↔ a = 100 := nI_eq (b := 100) h (by decide)
theorem el_f100 {a : Nat} (h : a < 2 ^ 31) : (100 : Int32) = nI a ↔ 100 = a := nI_eq (a := 100) (by decide) h
theorem el_g100 (a : Nat) : nI a + (100 : Int32) = nI (a + 100) := nI_add a 100
theorem el_h100 (a : Nat) : (100 : Int32) + nI a = nI (100 + a) := nI_add 100 a
theorem el_i100 (a : Nat) : nI a * (100 : Int32) = nI (a * 100) := pk_mul a 100
theorem el_j100 (a : Nat) : (100 : Int32) * nI a = nI (100 * a) := pk_mul 100 a
theorem el_a2000 {a : Nat} (h : a < 2 ^ 31) : (2000 : Int32) ≤ nI a ↔ 2000 ≤ a := nI_leI (a := 2000) (by decide) h
theorem el_b2000 {a : Nat} (h : a < 2 ^ 31) : nI a ≤ (2000 : Int32) ↔ a ≤ 2000 := nI_leI (b := 2000) h (by decide)
theorem el_c2000 {a : Nat} (h : a < 2 ^ 31) : (2000 : Int32) < nI a ↔ 2000 < a := nI_ltI (a := 2000) (by decide) h
theorem el_d2000 {a : Nat} (h : a < 2 ^ 31) : nI a < (2000 : Int32) ↔ a < 2000 := nI_ltI (b := 2000) h (by decide)
theorem el_e2000 {a : Nat} (h : a < 2 ^ 31) : nI a = (2000 : Int32) ↔ a = 2000 := nI_eq (b := 2000) h (by decide)
theorem el_f2000 {a : Nat} (h : a < 2 ^ 31) : (2000 : Int32) = nI a ↔ 2000 = a := nI_eq (a := 2000) (by decide) h
theorem el_g2000 (a : Nat) : nI a + (2000 : Int32) = nI (a + 2000) := nI_add a 2000
theorem el_h2000 (a : Nat) : (2000 : Int32) + nI a = nI (2000 + a) := nI_add 2000 a
theorem el_i2000 (a : Nat) : nI a * (2000 : Int32) = nI (a * 2000) := pk_mul a 2000
theorem el_j2000 (a : Nat) : (2000 : Int32) * nI a = nI (2000 * a) := pk_mul 2000 a
end
