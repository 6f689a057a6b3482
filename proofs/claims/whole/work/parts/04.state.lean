/-! numbers -/
theorem ti_0 : (0 : Int32).toInt = 0 := by decide
theorem ti_1 : (1 : Int32).toInt = 1 := by decide
theorem ti_m1 : (-1 : Int32).toInt = -1 := by decide
theorem ti_2 : (2 : Int32).toInt = 2 := by decide
theorem ti_3 : (3 : Int32).toInt = 3 := by decide
theorem ti_4 : (4 : Int32).toInt = 4 := by decide
theorem ti_8 : (8 : Int32).toInt = 8 := by decide
theorem ti_10 : (10 : Int32).toInt = 10 := by decide
theorem ti_39 : (39 : Int32).toInt = 39 := by decide
theorem ti_40 : (40 : Int32).toInt = 40 := by decide
theorem ti_300 : (300 : Int32).toInt = 300 := by decide
theorem ti_add {x y : Int32} (h1 : -2147483648 ≤ x.toInt + y.toInt) (h2 : x.toInt + y.toInt < 2147483648) : (x + y).toInt = x.toInt + y.toInt := by
  rw [Int32.toInt_add]
  apply Int.bmod_eq_of_le <;> omega
theorem ti_sub {x y : Int32} (h1 : -2147483648 ≤ x.toInt - y.toInt) (h2 : x.toInt - y.toInt < 2147483648) : (x - y).toInt = x.toInt - y.toInt := by
  rw [Int32.toInt_sub]
  apply Int.bmod_eq_of_le <;> omega
theorem ti_lo (x : Int32) : -2147483648 ≤ x.toInt := Int32.le_toInt x
theorem ti_hi (x : Int32) : x.toInt < 2147483648 := Int32.toInt_lt x
theorem ti_inc {x : Int32} (h : x.toInt < 2147483647) : (x + 1).toInt = x.toInt + 1 := by
  have h1 := ti_lo x
  rw [ti_add (by rw [ti_1]; omega) (by rw [ti_1]; omega), ti_1]
theorem ti_dec {x : Int32} (h : -2147483648 < x.toInt) : (x + (-1)).toInt = x.toInt - 1 := by
  have h1 := ti_hi x
  rw [ti_add (by rw [ti_m1]; omega) (by rw [ti_m1]; omega), ti_m1]; omega
theorem ti_dec' {x : Int32} (h : -2147483648 < x.toInt) : (x - 1).toInt = x.toInt - 1 := by
  have h1 := ti_hi x
  rw [ti_sub (by rw [ti_1]; omega) (by rw [ti_1]; omega), ti_1]
theorem ti_ix {x : Int32} {n : Nat} (h0 : 0 ≤ x.toInt) (h1 : x.toInt < n) : x.toNatClampNeg < n := by
  have : x.toNatClampNeg = x.toInt.toNat := rfl
  omega
theorem ti_vp {x : Int32} {n : Nat} (h0 : 0 ≤ x.toInt) (h1 : x.toInt < n) : vp_in x n := vp_in_iff.mpr ⟨h0, h1⟩
/-! states -/
abbrev cA : Type := Nat → Int32
/-- there, parent, wasLast, line, size -/
abbrev cT : Type := cA × cA × cA × cA × Int32
abbrev wT (cI cZ : ClassId) (h0 a1 a2 a3 a4 : Nat) (T : cT) : va_W := [(h0, .inr (0, [.ref a1, .ref a2, .ref a3, .ref a4, .int T.2.2.2.2])), (a1, .inl (cZ, 40, .inl T.1)), (a2, .inl (cI, 40, .inl T.2.1)), (a3, .inl (cI, 40, .inl T.2.2.1)), (a4, .inl (cI, 40, .inl T.2.2.2.1))]
/-- sort, node, time, subject, parent, behind, undoing, ordered, count, made -/
abbrev cL : Type := cA × cA × cA × cA × cA × cA × cA × cA × Int32 × Int32
abbrev wL (cI cZ : ClassId) (g0 g1 g2 g3 g4 g5 g6 g7 g8 : Nat) (L : cL) : va_W := [(g0, .inr (1, [.ref g1, .ref g2, .ref g3, .ref g4, .ref g5, .ref g6, .ref g7, .ref g8, .int L.2.2.2.2.2.2.2.2.1, .int L.2.2.2.2.2.2.2.2.2])), (g1, .inl (cI, 301, .inl L.1)), (g2, .inl (cI, 301, .inl L.2.1)), (g3, .inl (cI, 301, .inl L.2.2.1)), (g4, .inl (cI, 301, .inl L.2.2.2.1)), (g5, .inl (cI, 301, .inl L.2.2.2.2.1)), (g6, .inl (cI, 301, .inl L.2.2.2.2.2.1)), (g7, .inl (cI, 301, .inl L.2.2.2.2.2.2.1)), (g8, .inl (cI, 300, .inl L.2.2.2.2.2.2.2.1))]
/-- takes, tree, known, time, lastCost -/
abbrev cP : Type := cA × cT × Int32 × Int32 × Int32
abbrev wP (cI cZ : ClassId) (p0 p1 h0 a1 a2 a3 a4 : Nat) (P : cP) : va_W := [(p0, .inr (2, [.ref p1, .ref h0, .int P.2.2.1, .int P.2.2.2.1, .int P.2.2.2.2])), (p1, .inl (cI, 301, .inl P.1)), (h0, .inr (0, [.ref a1, .ref a2, .ref a3, .ref a4, .int P.2.1.2.2.2.2])), (a1, .inl (cZ, 40, .inl P.2.1.1)), (a2, .inl (cI, 40, .inl P.2.1.2.1)), (a3, .inl (cI, 40, .inl P.2.1.2.2.1)), (a4, .inl (cI, 40, .inl P.2.1.2.2.2.1))]
/-- an array of its own -/
abbrev wZ (cI cZ : ClassId) (z0 : Nat) (f : cA) : va_W := [(z0, .inl (cZ, 40, .inl f))]
/-- the object and its people -/
abbrev wB (cI cZ cQ : ClassId) (b0 b1 u0 : Nat) (F : Nat → Option Nat) : va_W := [(b0, .inr (3, [.ref u0, .ref b1])), (b1, .inl (cQ, 4, .inr (.inr (.inr (.inr F)))))]
