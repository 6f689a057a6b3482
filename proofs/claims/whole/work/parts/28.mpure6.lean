theorem mw_in {x0 x1 x2 : Int32} (h : ¬ m_M_within x0 x1 x2 = 0) : x1.toInt ≤ x0.toInt ∧ x0.toInt ≤ x2.toInt := by
  rw [m_M_within] at h
  split at h
  · exact absurd rfl h
  · rename_i c1
    split at h
    · exact absurd rfl h
    · rename_i c2
      have z1 := mt Int32.lt_iff_toInt_lt.mpr c1
      have z2 := mt Int32.lt_iff_toInt_lt.mpr c2
      omega
theorem mn_in {x0 : Int32} (h : ¬ m_M_isNode x0 = 0) : 0 ≤ x0.toInt ∧ x0.toInt < 4 := by
  rw [m_M_isNode] at h
  have := mw_in h
  rw [ti_0, ti_3] at this
  omega
theorem learn_R {M : cM} {x1 x2 : Int32} : (m_M_learn M x1 x2).1 = M.1 := by
  unfold m_M_learn
  split <;> rfl
