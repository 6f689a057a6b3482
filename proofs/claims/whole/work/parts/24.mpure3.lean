theorem okU_par {U : cU} (h : okU U) {x : Int32} (h1 : 1 ≤ x.toInt ∧ x.toInt < 40) (ht : U.1 x.toNatClampNeg = 1) : 0 ≤ (U.2.1 x.toNatClampNeg).toInt ∧ (U.2.1 x.toNatClampNeg).toInt < 41 := by
  obtain ⟨⟨d, hd, hp⟩, -⟩ := h
  rcases hp x.toNatClampNeg (by have := ti_nn x; omega) (ti_ix (by omega) (by omega)) ht with h | h
  · rw [h, ti_40]; omega
  · omega
theorem okU_kids {U : cU} {f g : cA} (h : okU U) (hg : ∀ j, j < 41 → 0 ≤ (g j).toInt ∧ (g j).toInt ≤ 39) : okU (U.1, U.2.1, U.2.2.1, g, f) := ⟨h.1, h.2.1, hg, h.2.2.2⟩
theorem mt_ok {M : cM} {x1 : Int32} (h : okU M.2.2.1) (hk : (M.2.2.1.2.2.2.1 (M.2.2.1.2.1 x1.toNatClampNeg).toNatClampNeg).toInt ≤ 39) : ∀ (n : Nat) (x3 x4 : Int32) (f : cA), 0 ≤ x3.toInt → x3.toInt ≤ x4.toInt → x3.toInt ≤ 39 → okU (l_M_takeOut_12 M x1 n x3 x4 f) ∧ (l_M_takeOut_12 M x1 n x3 x4 f).1 = M.2.2.1.1 ∧ (l_M_takeOut_12 M x1 n x3 x4 f).2.1 = M.2.2.1.2.1 ∧ (l_M_takeOut_12 M x1 n x3 x4 f).2.2.1 = M.2.2.1.2.2.1 := by
  intro n
  induction n with
  | zero => intro x3 x4 f h1 h2 h3; rw [l_M_takeOut_12]; exact ⟨h, rfl, rfl, rfl⟩
  | succ n ih =>
    intro x3 x4 f h1 h2 h3
    rw [l_M_takeOut_12]
    split
    · refine ⟨okU_kids h (fun j hj => ?_), rfl, rfl, rfl⟩
      by_cases hjk : j = (M.2.2.1.2.1 x1.toNatClampNeg).toNatClampNeg
      · rw [hjk, pk_us]; omega
      · rw [pk_un hjk]; exact h.2.2.1 j hj
    · rename_i hc
      have z := mt Int32.le_iff_toInt_le.mpr hc
      have hh := ti_hi x4
      have e4 : (x4 + 1).toInt = x4.toInt + 1 := ti_inc (by omega)
      have e3 : (x3 + 1).toInt = x3.toInt + 1 := ti_inc (by omega)
      split
      · exact ih _ _ _ h1 (by omega) h3
      · exact ih _ _ _ (by omega) (by omega) (by omega)
theorem mt_ok' {M : cM} {x1 : Int32} (h : okU M.2.2.1) (hp : 0 ≤ (M.2.2.1.2.1 x1.toNatClampNeg).toInt ∧ (M.2.2.1.2.1 x1.toNatClampNeg).toInt < 41) : okU (m_M_takeOut M x1) ∧ (m_M_takeOut M x1).1 = M.2.2.1.1 ∧ (m_M_takeOut M x1).2.1 = M.2.2.1.2.1 ∧ (m_M_takeOut M x1).2.2.1 = M.2.2.1.2.2.1 := mt_ok h (h.2.2.1 _ (ti_ix hp.1 hp.2)).2 41 0 0 _ (by rw [ti_0]; omega) (by omega) (by rw [ti_0]; omega)
theorem po_rg {M : cM} {x1 x2 : Int32} (hk : 0 ≤ (M.2.2.1.2.2.2.1 x2.toNatClampNeg).toInt) : ∀ (n : Nat) (x3 : Int32), 0 ≤ x3.toInt → (l_M_placeOf_2 M x1 x2 n x3).toInt = 0 ∨ (-1 ≤ (l_M_placeOf_2 M x1 x2 n x3).toInt ∧ (l_M_placeOf_2 M x1 x2 n x3).toInt < (M.2.2.1.2.2.2.1 x2.toNatClampNeg).toInt) ∨ n = 0 := by
  intro n
  induction n with
  | zero => intro x3 h; exact Or.inr (Or.inr rfl)
  | succ n ih =>
    intro x3 h
    rw [l_M_placeOf_2]
    split
    · right; left; rw [ti_m1]; omega
    · rename_i hc
      have z := mt Int32.le_iff_toInt_le.mpr hc
      have hh := ti_hi (M.2.2.1.2.2.2.1 x2.toNatClampNeg)
      have e3 : (x3 + 1).toInt = x3.toInt + 1 := ti_inc (by omega)
      split
      · right; left; omega
      · rcases ih (x3 + 1) (by omega) with q | q | q
        · exact Or.inl q
        · exact Or.inr (Or.inl q)
        · subst q
          rw [l_M_placeOf_2]
          exact Or.inl ti_0
theorem po_rg2 {M : cM} {x1 x2 : Int32} (hk : 0 ≤ (M.2.2.1.2.2.2.1 x2.toNatClampNeg).toInt ∧ (M.2.2.1.2.2.2.1 x2.toNatClampNeg).toInt ≤ 39) : ∀ (n : Nat) (x3 : Int32), 0 ≤ x3.toInt → 40 < n + x3.toInt → -1 ≤ (l_M_placeOf_2 M x1 x2 n x3).toInt ∧ ((l_M_placeOf_2 M x1 x2 n x3).toInt < (M.2.2.1.2.2.2.1 x2.toNatClampNeg).toInt ∨ 40 < x3.toInt) := by
  intro n
  induction n with
  | zero => intro x3 h h2; rw [l_M_placeOf_2, ti_0]; exact ⟨by omega, Or.inr (by omega)⟩
  | succ n ih =>
    intro x3 h h2
    rw [l_M_placeOf_2]
    split
    · rw [ti_m1]; exact ⟨by omega, Or.inl (by omega)⟩
    · rename_i hc
      have z := mt Int32.le_iff_toInt_le.mpr hc
      have e3 : (x3 + 1).toInt = x3.toInt + 1 := ti_inc (by omega)
      split
      · exact ⟨by omega, Or.inl (by omega)⟩
      · have q := ih (x3 + 1) (by omega) (by omega)
        exact ⟨q.1, q.2.elim Or.inl (fun q => by omega)⟩
theorem po_rg' {M : cM} {x1 x2 : Int32} (h : okU M.2.2.1) (h2 : 0 ≤ x2.toInt ∧ x2.toInt < 41) : -1 ≤ (m_M_placeOf M x1 x2).toInt ∧ (m_M_placeOf M x1 x2).toInt < (M.2.2.1.2.2.2.1 x2.toNatClampNeg).toInt := by
  have hk := h.2.2.1 _ (ti_ix h2.1 h2.2)
  have q := po_rg2 (M := M) (x1 := x1) (x2 := x2) hk 41 0 (by rw [ti_0]; omega) (by rw [ti_0]; omega)
  rw [ti_0] at q
  exact ⟨q.1, q.2.elim id (fun q => by omega)⟩
