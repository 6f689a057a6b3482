/-- the reference's tree, in ranges; d falls towards the top -/
def okU (U : cU) : Prop := (∃ d : Nat → Nat, (∀ j, j < 40 → d j < 40) ∧ ∀ j, 1 ≤ j → j < 40 → U.1 j = 1 → U.2.1 j = 40 ∨ (0 ≤ (U.2.1 j).toInt ∧ (U.2.1 j).toInt < 40 ∧ U.1 (U.2.1 j).toNatClampNeg = 1 ∧ d (U.2.1 j).toNatClampNeg < d j)) ∧ (∀ j, j < 40 → U.1 j = 0 ∨ U.1 j = 1) ∧ (∀ j, j < 41 → 0 ≤ (U.2.2.2.1 j).toInt ∧ (U.2.2.2.1 j).toInt ≤ 39) ∧ (∀ j, 1 ≤ j → j < 40 → U.1 j = 1 → 0 ≤ (U.2.2.1 j).toInt ∧ (U.2.2.1 j).toInt < 40)
theorem ti_nn (x : Int32) : (x.toNatClampNeg : Int) = max x.toInt 0 := by
  have : x.toNatClampNeg = x.toInt.toNat := rfl
  omega
