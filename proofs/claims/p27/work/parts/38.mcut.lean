def SetV (v : Nat → Nat) : Prop := (1 ≤ v 0 ∧ v 0 ≤ 6) ∧ (1 ≤ v 1 ∧ v 1 ≤ 9) ∧ v 2 ≤ 8 ∧ (1 ≤ v 3 ∧ v 3 ≤ 6) ∧ (6 ≤ v 4 ∧ v 4 ≤ 20)
