theorem in_t {M : cM} {x1 x2 : Int32} (hob : 1 ≤ M.1.2.1.toInt ∧ M.1.2.1.toInt ≤ 40) (h : ¬ (m_M_isIn M x1 x2).1 = 0) : (0 ≤ x1.toInt ∧ x1.toInt < 4) ∧ (0 ≤ x2.toInt ∧ x2.toInt < 40) ∧ (m_M_isIn M x1 x2).2 = m_M_build M x1 ∧ (m_M_isIn M x1 x2).1 = (m_M_build M x1).2.2.1.1 x2.toNatClampNeg := by
  unfold m_M_isIn at h ⊢
  by_cases c1 : m_M_isNode x1 = 0
  · rw [if_pos c1] at h
    exact absurd rfl h
  · rw [if_neg c1] at h ⊢
    by_cases c2 : m_M_within x2 0 (M.1.2.1 - 1) = 0
    · rw [if_pos c2] at h
      exact absurd rfl h
    · rw [if_neg c2] at h ⊢
      have hw := mw_in c2
      rw [ti_0, ti_dec' (by omega)] at hw
      exact ⟨mn_in c1, by omega, rfl, rfl⟩
theorem rem10 {x : Int32} (h : 10 ≤ x.toInt) : 0 ≤ (x - x / 10 * 10).toInt ∧ (x - x / 10 * 10).toInt < 10 := by
  obtain ⟨j, hj, rfl⟩ := nI_of (x := x) (by rw [Int32.lt_iff_toInt_lt, ti_0]; omega)
  have e := pk_rem (a := j) (d := 10) hj (by omega) (by omega)
  have e10 : nI 10 = 10 := by decide
  rw [e10] at e
  rw [e, nI_toInt (by omega)]
  omega
