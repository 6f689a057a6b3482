/-- a row of the reference, as doRow needs it -/
def okRM (M : cM) (r : Int32) : Prop := (0 ≤ r.toInt ∧ r.toInt < 301) ∧ (¬ M.1.2.2.1 r.toNatClampNeg = 4 → 1 ≤ (M.1.2.2.2.2.2.1 r.toNatClampNeg).toInt ∧ (M.1.2.2.2.2.2.1 r.toNatClampNeg).toInt < 40) ∧ (M.1.2.2.1 r.toNatClampNeg = 1 → 0 ≤ (M.1.2.2.2.2.2.2.1 r.toNatClampNeg).toInt ∧ (M.1.2.2.2.2.2.2.1 r.toNatClampNeg).toInt < 40)
theorem fo_rg {M : cM} {x1 : Int32} : ∀ (n : Nat) (x2 o : Int32) (f : cA), 0 ≤ o.toInt → o.toInt < x2.toInt → x2.toInt ≤ 301 → M.1.1.toInt ≤ 300 → (∀ j, j < 301 → 0 ≤ (f j).toInt ∧ (f j).toInt < 301) → 301 < n + x2.toInt → (0 ≤ (l_M_findOrder_7 M x1 n x2 o f).2.2.1.toInt ∧ (l_M_findOrder_7 M x1 n x2 o f).2.2.1.toInt ≤ 300) ∧ ∀ j, j < 301 → 0 ≤ ((l_M_findOrder_7 M x1 n x2 o f).2.2.2 j).toInt ∧ ((l_M_findOrder_7 M x1 n x2 o f).2.2.2 j).toInt < 301 := by
  have inner : ∀ (x2 o : Int32) (n : Nat) (x3 : Int32) (f : cA), 0 ≤ x3.toInt → x3.toInt ≤ 300 → (∀ j, j < 301 → 0 ≤ (f j).toInt ∧ (f j).toInt < 301) → ∀ j, j < 301 → 0 ≤ ((l_M_findOrder_32 M x1 x2 o n x3 f).2 j).toInt ∧ ((l_M_findOrder_32 M x1 x2 o n x3 f).2 j).toInt < 301 := by
    intro x2 o n
    induction n with
    | zero => intro x3 f h1 h2 hf; rw [l_M_findOrder_32]; exact hf
    | succ n ih =>
      intro x3 f h1 h2 hf
      rw [l_M_findOrder_32]
      split
      · exact hf
      · rename_i hc
        have z := mt Int32.le_iff_toInt_le.mpr hc
        rw [ti_0] at z
        split
        · exact hf
        · exact ih _ _ (by rw [ti_dec (by omega)]; omega) (by rw [ti_dec (by omega)]; omega) (upd_rg hf (hf _ (ti_ix (by rw [ti_dec' (by omega)]; omega) (by rw [ti_dec' (by omega)]; omega))))
  intro n
  induction n with
  | zero => intro x2 o f h1 h2 h3 h4 hf h5; exfalso; omega
  | succ n ih =>
    intro x2 o f h1 h2 h3 h4 hf h5
    rw [l_M_findOrder_7]
    split
    · exact ⟨by dsimp only; omega, hf⟩
    · rename_i hc
      have z := mt Int32.lt_iff_toInt_lt.mpr hc
      have e2 := ti_inc (x := x2) (by omega)
      have eo := ti_inc (x := o) (by omega)
      split
      · exact ih _ _ _ h1 (by omega) (by omega) h4 hf (by omega)
      · exact ih _ _ _ (by omega) (by omega) (by omega) h4 (upd_rg (inner x2 o 301 o f h1 (by omega) hf) (by omega)) (by omega)
theorem fo_rg' {M : cM} {x1 : Int32} (h4 : M.1.1.toInt ≤ 300) (hf : ∀ j, j < 301 → 0 ≤ (M.2.2.2.1.2.2.2 j).toInt ∧ (M.2.2.2.1.2.2.2 j).toInt < 301) : (0 ≤ (m_M_findOrder M x1).2.2.1.toInt ∧ (m_M_findOrder M x1).2.2.1.toInt ≤ 300) ∧ ∀ j, j < 301 → 0 ≤ ((m_M_findOrder M x1).2.2.2 j).toInt ∧ ((m_M_findOrder M x1).2.2.2 j).toInt < 301 := fo_rg 301 1 0 _ (by rw [ti_0]; omega) (by rw [ti_0, ti_1]; omega) (by rw [ti_1]; omega) h4 hf (by rw [ti_1]; omega)
