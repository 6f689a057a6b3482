/-! what the small methods of Tree leave as it is, and ranges -/
def okT (T : cT) : Prop := (∀ j, j < 40 → -1 ≤ (T.2.1 j).toInt ∧ (T.2.1 j).toInt < 40) ∧ (∀ j, j < 40 → 0 ≤ (T.2.2.2.1 j).toInt ∧ (T.2.2.2.1 j).toInt < 40) ∧ (0 ≤ T.2.2.2.2.toInt ∧ T.2.2.2.2.toInt ≤ 39) ∧ (∀ j, j < 40 → T.1 j = 0 ∨ T.1 j = 1) ∧ (∀ j, 1 ≤ j → j < 40 → 0 ≤ (T.2.2.1 j).toInt ∧ (T.2.2.1 j).toInt < 40)
theorem upd_rg {f : cA} {n k : Nat} {x : Int32} {lo hi : Int} (h : ∀ j, j < n → lo ≤ (f j).toInt ∧ (f j).toInt < hi) (hx : lo ≤ x.toInt ∧ x.toInt < hi) : ∀ j, j < n → lo ≤ (upd f k x j).toInt ∧ (upd f k x j).toInt < hi := by
  intro j hj
  by_cases hk : j = k
  · subst hk; rw [pk_us]; exact hx
  · rw [pk_un hk]; exact h j hj
theorem su_rg {T : cT} {x2 : Int32} : ∀ (n : Nat) (x3 x4 : Int32), 0 ≤ x4.toInt → x4.toInt ≤ 40 → -1 ≤ (l_T_stepsUp_5 T x2 n x3 x4).toInt ∧ (l_T_stepsUp_5 T x2 n x3 x4).toInt < 40 := by
  intro n
  induction n with
  | zero => intro x3 x4 h1 h2; rw [l_T_stepsUp_5, ti_0]; omega
  | succ n ih =>
    intro x3 x4 h1 h2
    rw [l_T_stepsUp_5]
    split
    · rw [ti_m1]; omega
    · rename_i hc
      have z := mt Int32.le_iff_toInt_le.mpr hc
      rw [ti_40] at z
      split
      · rw [ti_m1]; omega
      · split
        · omega
        · exact ih _ _ (by rw [ti_inc (by omega)]; omega) (by rw [ti_inc (by omega)]; omega)
theorem su_rg' {T : cT} {x1 x2 : Int32} : -1 ≤ (m_T_stepsUp T x1 x2).toInt ∧ (m_T_stepsUp T x1 x2).toInt < 40 := su_rg 41 x1 0 (by rw [ti_0]; omega) (by rw [ti_0]; omega)
theorem to_ok {T : cT} {x1 : Int32} (hsz : 0 ≤ T.2.2.2.2.toInt ∧ T.2.2.2.2.toInt ≤ 39) (hok : okT T) : ∀ (n : Nat) (x2 x3 : Int32) (f : cA), 0 ≤ x2.toInt → x2.toInt ≤ x3.toInt → x3.toInt ≤ T.2.2.2.2.toInt → (∀ j, j < 40 → 0 ≤ (f j).toInt ∧ (f j).toInt < 40) → okT (l_T_takeOut_4 T x1 n x2 x3 f) ∧ (l_T_takeOut_4 T x1 n x2 x3 f).1 = T.1 ∧ (l_T_takeOut_4 T x1 n x2 x3 f).2.1 = T.2.1 ∧ (l_T_takeOut_4 T x1 n x2 x3 f).2.2.1 = T.2.2.1 := by
  intro n
  induction n with
  | zero => intro x2 x3 f h1 h2 h3 hf; rw [l_T_takeOut_4]; exact ⟨hok, rfl, rfl, rfl⟩
  | succ n ih =>
    intro x2 x3 f h1 h2 h3 hf
    rw [l_T_takeOut_4]
    split
    · rename_i hc
      have z := Int32.le_iff_toInt_le.mp hc
      exact ⟨⟨hok.1, hf, by dsimp only; omega, hok.2.2.2.1, hok.2.2.2.2⟩, rfl, rfl, rfl⟩
    · rename_i hc
      have z := mt Int32.le_iff_toInt_le.mpr hc
      have e3 := ti_inc (x := x3) (by omega)
      have e2 := ti_inc (x := x2) (by omega)
      split
      · exact ih _ _ _ h1 (by omega) (by omega) hf
      · exact ih _ _ _ (by omega) (by omega) (by omega) (upd_rg hf (hf _ (ti_ix (by omega) (by omega))))
theorem to_ok' {T : cT} {x1 : Int32} (hok : okT T) : okT (m_T_takeOut T x1) := (to_ok hok.2.2.1 hok 41 0 0 _ (by rw [ti_0]; omega) (by omega) (by rw [ti_0]; exact hok.2.2.1.1) hok.2.1).1
theorem to_f {T : cT} {x1 : Int32} (hok : okT T) : (m_T_takeOut T x1).1 = T.1 ∧ (m_T_takeOut T x1).2.1 = T.2.1 ∧ (m_T_takeOut T x1).2.2.1 = T.2.2.1 := (to_ok hok.2.2.1 hok 41 0 0 _ (by rw [ti_0]; omega) (by omega) (by rw [ti_0]; exact hok.2.2.1.1) hok.2.1).2
theorem sb_rg {T : cT} {x1 x2 : Int32} (hsz : 0 ≤ T.2.2.2.2.toInt ∧ T.2.2.2.2.toInt ≤ 39) : ∀ (n : Nat) (x3 : Int32), 0 ≤ x3.toInt → x3.toInt ≤ T.2.2.2.2.toInt → 0 ≤ (l_T_spotBehind_2 T x1 x2 n x3).toInt ∧ (l_T_spotBehind_2 T x1 x2 n x3).toInt ≤ T.2.2.2.2.toInt := by
  intro n
  induction n with
  | zero => intro x3 h1 h2; rw [l_T_spotBehind_2, ti_0]; omega
  | succ n ih =>
    intro x3 h1 h2
    rw [l_T_spotBehind_2]
    split
    · rw [ti_0]; omega
    · rename_i hc
      have z := mt Int32.le_iff_toInt_le.mpr hc
      have e3 := ti_inc (x := x3) (by omega)
      split
      · split
        · omega
        · exact ih _ (by omega) (by omega)
      · exact ih _ (by omega) (by omega)
theorem sb_rg' {T : cT} {x1 x2 : Int32} (hok : okT T) : 0 ≤ (m_T_spotBehind T x1 x2).toInt ∧ (m_T_spotBehind T x1 x2).toInt ≤ T.2.2.2.2.toInt := sb_rg hok.2.2.1 41 0 (by rw [ti_0]; omega) (by rw [ti_0]; exact hok.2.2.1.1)
theorem ok_lt {T : cT} (hok : okT T) : 0 ≤ T.2.2.2.2.toInt ∧ T.2.2.2.2.toInt < 40 := by have := hok.2.2.1; omega
theorem ok_le {T : cT} (hok : okT T) : 0 ≤ T.2.2.2.2.toInt ∧ T.2.2.2.2.toInt ≤ 40 := by have := hok.2.2.1; omega
