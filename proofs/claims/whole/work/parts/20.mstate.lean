/-! a callee that gets the whole world -/
theorem vz_allU0 : ∀ (ws pre w1 : va_W), ws.length = w1.length → vz_put (pre ++ ws) (List.range' pre.length ws.length) w1 = pre ++ w1
  | [], pre, [], _ => by simp [vz_put]
  | a :: as, pre, b :: bs, h => by
    have h' : as.length = bs.length := by simpa using h
    have e1 : List.range' pre.length (a :: as).length = pre.length :: List.range' (pre ++ [b]).length as.length := by
      simp [List.range'_succ]
    rw [e1]
    show vz_put ((pre ++ a :: as).set pre.length b) (List.range' (pre ++ [b]).length as.length) bs = _
    have e2 : (pre ++ a :: as).set pre.length b = (pre ++ [b]) ++ as := by simp
    rw [e2, vz_allU0 as (pre ++ [b]) bs h']
    simp
theorem vz_allU (ws w1 : va_W) (n : Nat) (h : ws.length = n) (h1 : w1.length = n) : vz_put ws (List.range' 0 n) w1 = w1 := by
  subst h
  exact vz_allU0 ws [] w1 h1.symm
theorem vz_allC (ws : va_W) (n : Nat) (h : ws.length = n) : (List.range' 0 n).map (fun i => ws[i]?) = ws.map some := by
  subst h
  apply List.ext_getElem?
  intro k
  simp only [List.getElem?_map]
  by_cases hk : k < ws.length
  · rw [List.getElem?_range' (by simpa using hk)]
    simp [hk]
  · rw [List.getElem?_eq_none (by simp; omega), List.getElem?_eq_none (by omega)]
    rfl
/-- rows, objects, sort, who, time, what, to, behind -/
abbrev cR : Type := Int32 × Int32 × cA × cA × cA × cA × cA × cA
/-- knows, clock, cost -/
abbrev cK : Type := cA × cA × cA
/-- there, parent, last, kids, kid -/
abbrev cU : Type := cA × cA × cA × cA × cA
/-- builtFor, how, orders, order -/
abbrev cH : Type := Int32 × cA × Int32 × cA
/-- thrown, others, other, oldKids, oldKid, oldThere -/
abbrev cX : Type := Int32 × Int32 × cA × cA × cA × cA
abbrev cM : Type := cR × cK × cU × cH × cX
abbrev wM (cI cZ : ClassId) (v0 v1 v2 v3 v4 v5 v6 v7 v8 v9 v10 v11 v12 v13 v14 v15 v16 v17 v18 v19 v20 : Nat) (M : cM) : va_W := [(v0, .inr (4, [.int M.2.2.2.2.1, .int M.1.1, .ref v1, .ref v2, .ref v3, .ref v4, .ref v5, .ref v6, .int M.1.2.1, .ref v7, .ref v8, .ref v9, .int M.2.2.2.1.1, .ref v10, .ref v11, .ref v12, .ref v13, .ref v14, .ref v15, .int M.2.2.2.1.2.2.1, .ref v16, .int M.2.2.2.2.2.1, .ref v17, .ref v18, .ref v19, .ref v20])), (v1, .inl (cI, 301, .inl M.1.2.2.1)), (v2, .inl (cI, 301, .inl M.1.2.2.2.1)), (v3, .inl (cI, 301, .inl M.1.2.2.2.2.1)), (v4, .inl (cI, 301, .inl M.1.2.2.2.2.2.1)), (v5, .inl (cI, 301, .inl M.1.2.2.2.2.2.2.1)), (v6, .inl (cI, 301, .inl M.1.2.2.2.2.2.2.2)), (v7, .inl (cZ, 1204, .inl M.2.1.1)), (v8, .inl (cI, 4, .inl M.2.1.2.1)), (v9, .inl (cI, 4, .inl M.2.1.2.2)), (v10, .inl (cZ, 40, .inl M.2.2.1.1)), (v11, .inl (cI, 40, .inl M.2.2.1.2.1)), (v12, .inl (cI, 40, .inl M.2.2.1.2.2.1)), (v13, .inl (cI, 41, .inl M.2.2.1.2.2.2.1)), (v14, .inl (cI, 1640, .inl M.2.2.1.2.2.2.2)), (v15, .inl (cI, 301, .inl M.2.2.2.1.2.1)), (v16, .inl (cI, 301, .inl M.2.2.2.1.2.2.2)), (v17, .inl (cI, 301, .inl M.2.2.2.2.2.2.1)), (v18, .inl (cI, 41, .inl M.2.2.2.2.2.2.2.1)), (v19, .inl (cI, 1640, .inl M.2.2.2.2.2.2.2.2.1)), (v20, .inl (cZ, 40, .inl M.2.2.2.2.2.2.2.2.2))]
theorem ti_301 : (301 : Int32).toInt = 301 := by decide
theorem ti_43 : (43 : Int32).toInt = 43 := by decide
theorem ti_mul {x y : Int32} (h1 : -2147483648 ≤ x.toInt * y.toInt) (h2 : x.toInt * y.toInt < 2147483648) : (x * y).toInt = x.toInt * y.toInt := by
  rw [Int32.toInt_mul]
  apply Int.bmod_eq_of_le <;> omega
theorem ti_301k {x1 x2 : Int32} (h1 : 0 ≤ x1.toInt ∧ x1.toInt < 4) (h2 : 0 ≤ x2.toInt ∧ x2.toInt < 301) : (301 * x1 + x2).toInt = 301 * x1.toInt + x2.toInt := by
  have e1 : (301 * x1).toInt = 301 * x1.toInt := by rw [ti_mul (by rw [ti_301]; omega) (by rw [ti_301]; omega), ti_301]
  rw [ti_add (by rw [e1]; omega) (by rw [e1]; omega), e1]
theorem ti_40k {x1 x2 : Int32} (h1 : 0 ≤ x1.toInt ∧ x1.toInt < 41) (h2 : -1 ≤ x2.toInt ∧ x2.toInt ≤ 40) : (40 * x1 + x2).toInt = 40 * x1.toInt + x2.toInt := by
  have e1 : (40 * x1).toInt = 40 * x1.toInt := by rw [ti_mul (by rw [ti_40]; omega) (by rw [ti_40]; omega), ti_40]
  rw [ti_add (by rw [e1]; omega) (by rw [e1]; omega), e1]
theorem nar_b {x : Int32} (h : x = 0 ∨ x = 1) : narrow .boolean (.int x) = .int x := by
  rcases h with rfl | rfl <;> decide
