abbrev putK (A : mAs) : mCt := cutK (tV (aT A)) (smN (addN (aD A)) (aB A)) (tlN (aD A) (aB A))
def PutOK (A : mAs) : Prop := whol (aD A) (aB A) = true → (smN (addN (aD A)) (aB A)) ≤ 40 ∧ (∀ j, j < (smN (addN (aD A)) (aB A)) → 1 ≤ (tlN (aD A) (aB A)) j) ∧ ∀ t, t < 4 → ChOK (aT A) t (putK A)
