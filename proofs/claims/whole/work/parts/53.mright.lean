/-- whether a letter stands behind which place k is -/
def opnN (cd : Nat → Nat) (k : Nat) : Bool := decide (0 < k) && lett (cd (k - 1))
theorem addN_tk (cd : Nat → Nat) (k : Nat) : tkN (cd k) (opnN cd k) = addN cd k := by
  unfold tkN addN opnN
  by_cases h : lett (cd k) = true
  · rw [if_pos h, if_pos h]
  · rw [if_neg h, if_neg h]
    by_cases z : 50 ≤ cd k ∧ cd k ≤ 57 ∧ 0 < k ∧ lett (cd (k - 1)) = true
    · rw [if_pos z, if_pos ⟨by rw [decide_eq_true z.2.2.1, z.2.2.2]; rfl, z.1, z.2.1⟩]
    · rw [if_neg z, if_neg (fun y => z ⟨y.2.1, y.2.2, by
        have := y.1
        rw [Bool.and_eq_true] at this
        exact ⟨of_decide_eq_true this.1, this.2⟩⟩)]
