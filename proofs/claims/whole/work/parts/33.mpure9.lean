/-- what build needs, and what its readers need behind it -/
def okBuild (M : cM) (x1 : Int32) : Prop := (0 ≤ M.1.1.toInt ∧ M.1.1.toInt ≤ 300) ∧ (1 ≤ M.1.2.1.toInt ∧ M.1.2.1.toInt ≤ 40) ∧ (∀ j, j < 1204 → M.2.1.1 j = 0 ∨ M.2.1.1 j = 1) ∧ (∀ j, j < 301 → 0 ≤ (M.2.2.2.1.2.2.2 j).toInt ∧ (M.2.2.2.1.2.2.2 j).toInt < 301) ∧ bOK M x1 ∧ okU (m_M_build M x1).2.2.1
