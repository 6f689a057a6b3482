theorem mw_in' {x0 x1 x2 g : Int32} (e : m_M_within x0 x1 x2 = g) (h : ¬ g = 0) : x1.toInt ≤ x0.toInt ∧ x0.toInt ≤ x2.toInt := mw_in (by rw [e]; exact h)
