theorem sel_0 : FP.dcmp FP.dconst0 FP.dconst0 = some .eq := of_decide_eq_true (show decide (FP.dcmp FP.dconst0 FP.dconst0 = some .eq) = true by decide +kernel)
/-- all that is asked of a state, of what is saved, of the buffer -/
def InvA (A : mAs) : Prop := InvT (aT A) ∧ (∀ i, i < aN A → InvT (aH A i)) ∧ aN A ≤ 6 ∧ aB A ≤ 60 ∧ ∀ j, j < aB A → aD A j ≤ 200
theorem InvA.his {A : mAs} (h : InvA A) {T : mSt} (hT : InvT T) {b : Nat} {d : Nat → Nat} (hb : b ≤ 60) (hd : ∀ j, j < b → d j ≤ 200) : InvA (T, hisA A, (b, d)) := by
  obtain ⟨h1, h2, h3, -, -⟩ := h
  refine ⟨hT, fun i hi => ?_, ?_, hb, hd⟩
  · show InvT (pshT (aN A) (aH A) (aT A) i)
    have hi' : i < pshN (aN A) := hi
    unfold pshT
    unfold pshN at hi'
    by_cases c : aN A < 6
    · rw [if_pos c] at hi' ⊢
      show InvT (if i = aN A then aT A else aH A i)
      by_cases e : i = aN A
      · rw [if_pos e]; exact h1
      · rw [if_neg e]; exact h2 i (by omega)
    · rw [if_neg c] at hi' ⊢
      show InvT (if i = 5 then aT A else aH A (i + 1))
      by_cases e : i = 5
      · rw [if_pos e]; exact h1
      · rw [if_neg e]; exact h2 (i + 1) (by omega)
  · show pshN (aN A) ≤ 6
    unfold pshN
    split <;> omega
