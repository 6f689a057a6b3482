/-! the states at the start -/
def s0L : cL := ((fun _ => 0), (fun _ => 0), (fun _ => 0), (fun _ => 0), (fun _ => 0), (fun _ => 0), (fun _ => 0), (fun _ => 0), 0, 0)
def s0P : cP := ((fun _ => 0), m_T_startAnew ((fun _ => 0), (fun _ => 0), (fun _ => 0), (fun _ => 0), 0), 0, 0, 0)
def s0M : cM := ((0, 1, (fun _ => 0), (fun _ => 0), (fun _ => 0), (fun _ => 0), (fun _ => 0), (fun _ => 0)), ((fun _ => 0), (fun _ => 0), (fun _ => 0)), ((fun _ => 0), (fun _ => 0), (fun _ => 0), (fun _ => 0), (fun _ => 0)), (-1, (fun _ => 0), 0, (fun _ => 0)), (0, 0, (fun _ => 0), (fun _ => 0), (fun _ => 0), (fun _ => 0)))
theorem s0_rg (lo hi : Int) (h1 : lo ≤ 0) (h2 : 0 < hi) : lo ≤ (0 : Int32).toInt ∧ (0 : Int32).toInt < hi := by rw [ti_0]; exact ⟨h1, h2⟩
theorem s0_T : okT ((fun _ => 0), (fun _ => 0), (fun _ => 0), (fun _ => 0), 0) := ⟨fun _ _ => s0_rg _ _ (by omega) (by omega), fun _ _ => s0_rg _ _ (by omega) (by omega), by show 0 ≤ (0 : Int32).toInt ∧ (0 : Int32).toInt ≤ 39; rw [ti_0]; omega, fun _ _ => Or.inl rfl, fun _ _ _ => s0_rg _ _ (by omega) (by omega)⟩
theorem s0_log : pLog s0L 0 0 := ⟨⟨by omega, by omega⟩, ⟨rfl, rfl⟩, fun _ _ => s0_rg _ _ (by omega) (by omega), List.Perm.refl _, List.Pairwise.nil, fun x hx => (List.not_mem_nil hx).elim, fun x hx => (List.not_mem_nil hx).elim, fun _ _ _ => rfl⟩
theorem s0_res : pRes s0L 0 s0P.1 = (pA0, fun _ => 0) := rfl
theorem s0_tr {T : cT} (h : rT T pA0) : rT (((fun _ => 0), T, 0, 0, 0) : cP).2.1 pA0 := h
theorem s0_rT : rT s0P.2.1 pA0 := by
  unfold s0P
  exact s0_tr (pt_start s0_T)
theorem s0_rel : pREL s0L (fun _ => s0P) s0M 0 0 := by
  refine ⟨⟨s0_log, ⟨rfl, rfl, fun x hx => (List.not_mem_nil hx).elim⟩, fun _ _ => Or.inl rfl, fun _ _ => s0_rg _ _ (by omega) (by omega), fun j _ h => absurd (show (0 : Int32) = 4 from h) (by decide), fun n hn => ⟨⟨rfl, fun _ _ _ => rfl⟩, ⟨rfl, 0, rfl, Nat.le_refl _, fun x hx => (List.not_mem_nil hx).elim⟩, s0_rT.1, fun x _ _ => ⟨fun _ => rfl, fun _ => rfl⟩, rfl, rfl⟩⟩, fun n hn => ⟨⟨?_, fun x _ _ => ?_⟩, fun x hx => (List.not_mem_nil hx).elim⟩, fun n hn hb => absurd hb (pm1_ne hn)⟩
  · rw [s0_res]; exact s0_rT
  · rw [s0_res]; rfl
/-- two people for a call that wants two -/
theorem p_pair (x1 x2 : Int32) : ∃ n o : Nat, n < 4 ∧ o < 4 ∧ n ≠ o ∧ ((0 ≤ x1.toInt ∧ x1.toInt < 4) → pq n = x1 ∧ x1.toNatClampNeg = n) ∧ ((0 ≤ x2.toInt ∧ x2.toInt < 4) → x1 ≠ x2 → pq o = x2 ∧ x2.toNatClampNeg = o) := by
  have h1 := pI_4 x1
  have h2 := pI_4 x2
  by_cases g1 : 0 ≤ x1.toInt ∧ x1.toInt < 4
  · by_cases e : pI x2 = pI x1
    · refine ⟨pI x1, if pI x1 = 0 then 1 else 0, h1, by split <;> omega, by split <;> omega, fun g => ⟨(pI_q g).1, (pI_q g).2.symm⟩, fun g hne => ?_⟩
      exact absurd (by rw [← (pI_q g1).1, ← (pI_q g).1, e]) hne
    · exact ⟨pI x1, pI x2, h1, h2, fun h => e h.symm, fun g => ⟨(pI_q g).1, (pI_q g).2.symm⟩, fun g _ => ⟨(pI_q g).1, (pI_q g).2.symm⟩⟩
  · exact ⟨if pI x2 = 0 then 1 else 0, pI x2, by split <;> omega, h2, by split <;> omega, fun g => absurd g g1, fun g _ => ⟨(pI_q g).1, (pI_q g).2.symm⟩⟩
