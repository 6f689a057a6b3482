theorem isn_t {x0 : Int32} (h : ¬ m_B_isNode x0 = 0) : 0 ≤ x0.toInt ∧ x0.toInt < 4 := by
  rw [m_B_isNode] at h
  split at h
  · exact absurd rfl h
  · rename_i c1
    split at h
    · exact absurd rfl h
    · rename_i c2
      have z1 := mt Int32.lt_iff_toInt_lt.mpr c1
      have z2 := mt Int32.le_iff_toInt_le.mpr c2
      rw [ti_0] at z1
      rw [ti_4] at z2
      omega
theorem iso_t {L : cL} {x1 : Int32} (h : ¬ m_B_isObject L x1 = 0) : 0 ≤ x1.toInt ∧ x1.toInt ≤ L.2.2.2.2.2.2.2.2.2.toInt := by
  rw [m_B_isObject] at h
  split at h
  · exact absurd rfl h
  · rename_i c1
    split at h
    · exact absurd rfl h
    · rename_i c2
      have z1 := mt Int32.lt_iff_toInt_lt.mpr c1
      have z2 := mt Int32.lt_iff_toInt_lt.mpr c2
      rw [ti_0] at z1
      omega
theorem ism_t {L : cL} {x1 : Int32} (h : ¬ m_B_isMade L x1 = 0) : 1 ≤ x1.toInt ∧ x1.toInt ≤ L.2.2.2.2.2.2.2.2.2.toInt := by
  rw [m_B_isMade] at h
  split at h
  · exact absurd rfl h
  · rename_i c1
    split at h
    · exact absurd rfl h
    · rename_i c2
      have z1 := mt Int32.le_iff_toInt_le.mpr c1
      have z2 := mt Int32.lt_iff_toInt_lt.mpr c2
      rw [ti_0] at z1
      omega
theorem isr_t {L : cL} {x1 : Int32} (h : ¬ m_B_isRow L x1 = 0) : 1 ≤ x1.toInt ∧ x1.toInt ≤ L.2.2.2.2.2.2.2.2.1.toInt := by
  rw [m_B_isRow] at h
  split at h
  · exact absurd rfl h
  · rename_i c1
    split at h
    · exact absurd rfl h
    · rename_i c2
      have z1 := mt Int32.lt_iff_toInt_lt.mpr c1
      have z2 := mt Int32.lt_iff_toInt_lt.mpr c2
      rw [ti_1] at z1
      omega
theorem mw_t {L : cL} {x1 : Int32} (h : ¬ m_B_mayWrite L x1 = 0) : (0 ≤ x1.toInt ∧ x1.toInt < 4) ∧ L.2.2.2.2.2.2.2.2.1.toInt < 300 := by
  rw [m_B_mayWrite] at h
  split at h
  · exact absurd rfl h
  · rename_i c1
    split at h
    · exact absurd rfl h
    · rename_i c2
      have z2 := mt Int32.le_iff_toInt_le.mpr c2
      rw [ti_300] at z2
      exact ⟨isn_t c1, by omega⟩
/-- what judgeAll needs: something that holds at each of its steps -/
def jOK (L : cL) (P : cP) : Prop := ∃ J : Int32 → cP → Prop, J 0 (P.1, m_T_startAnew P.2.1, P.2.2) ∧ ∀ (x : Int32) (S : cP), 0 ≤ x.toInt → x.toInt < L.2.2.2.2.2.2.2.2.1.toInt → J x S → okR L (L.2.2.2.2.2.2.2.1 x.toNatClampNeg) ∧ okT S.2.1 ∧ (¬ m_P_knows S (L.2.2.2.2.2.2.2.1 x.toNatClampNeg) = 0 → J (x + 1) (m_P_judge L S (L.2.2.2.2.2.2.2.1 x.toNatClampNeg))) ∧ (m_P_knows S (L.2.2.2.2.2.2.2.1 x.toNatClampNeg) = 0 → J (x + 1) S)
/-- the log's ranges -/
def okL (L : cL) : Prop := (0 ≤ L.2.2.2.2.2.2.2.2.1.toInt ∧ L.2.2.2.2.2.2.2.2.1.toInt ≤ 300) ∧ (∀ j, j < 300 → 0 ≤ (L.2.2.2.2.2.2.2.1 j).toInt ∧ (L.2.2.2.2.2.2.2.1 j).toInt < 301) ∧ (0 ≤ L.2.2.2.2.2.2.2.2.2.toInt ∧ L.2.2.2.2.2.2.2.2.2.toInt ≤ 39)
def okTold (L : cL) (P : cP) (x : Int32) : Prop := okT P.2.1 ∧ okR L x ∧ okL L ∧ jOK L (m_P_learn L P x)
theorem learn_tree {L : cL} {P : cP} {x : Int32} : (m_P_learn L P x).2.1 = P.2.1 := by
  rw [m_P_learn]
  split <;> rfl
