theorem dm_b {M : cM} {x1 : Int32} : (m_M_doMove M x1).1 = 0 ∨ (m_M_doMove M x1).1 = 1 := by
  unfold m_M_doMove
  repeat' split
  all_goals first | exact Or.inl rfl | exact Or.inr rfl
theorem dr_b {M : cM} {x1 : Int32} : (m_M_doRemove M x1).1 = 0 ∨ (m_M_doRemove M x1).1 = 1 := by
  unfold m_M_doRemove
  repeat' split
  all_goals first | exact Or.inl rfl | exact Or.inr rfl
theorem upd01 {f : cA} {n k : Nat} (h : ∀ j, j < n → f j = 0 ∨ f j = 1) : ∀ j, j < n → upd f k 1 j = 0 ∨ upd f k 1 j = 1 := by
  intro j hj
  by_cases hk : j = k
  · subst hk; rw [pk_us]; exact Or.inr rfl
  · rw [pk_un hk]; exact h j hj
