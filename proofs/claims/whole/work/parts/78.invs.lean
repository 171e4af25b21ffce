/-! shares are as wanted -/
theorem shrU_all {a b : Nat} (h1 : 1 ≤ b) (h2 : b ≤ 160) (h3 : a ≤ b) : shrU a b = true := by
  by_cases c1 : b < 81
  · exact tabT_at tab_0 (by omega) (by omega) h3
  · by_cases c2 : b < 114
    · exact tabT_at tab_1 (by omega) (by omega) h3
    · by_cases c3 : b < 139
      · exact tabT_at tab_2 (by omega) (by omega) h3
      · exact tabT_at tab_3 (by omega) (by omega) h3
theorem sgs_le {T : mSt} (h : InvT T) : sgsN T ≤ 160 := smN_le (c := 40) (n := 4) (fun t ht => (h.2.1 t ht).1)
theorem InvT.sh {T : mSt} (h : InvT T) : ShOK T := fun hn => by
  have := shrU_all (a := owdN T) (b := sgsN T) (by omega) (sgs_le h) (owd_le h)
  rw [shrU, Bool.and_eq_true] at this
  exact this.1
theorem sel_0 : FP.dcmp FP.dconst0 FP.dconst0 = some .eq := of_decide_eq_true (show decide (FP.dcmp FP.dconst0 FP.dconst0 = some .eq) = true by decide +kernel)
theorem InvT.se {T : mSt} (h : InvT T) : FP.dcmp (savD T) (savD T) = some .eq := by
  by_cases hn : sgsN T = 0
  · rw [savD, if_pos hn]; exact sel_0
  · rw [savD, if_neg hn]
    have := shrU_all (a := owdN T) (b := sgsN T) (by omega) (sgs_le h) (owd_le h)
    rw [shrU, Bool.and_eq_true] at this
    exact of_decide_eq_true this.2
/-- all that is asked of a state, of what is saved, of the buffer -/
def InvA (A : mAs) : Prop := InvT (aT A) ∧ (∀ i, i < aN A → InvT (aH A i)) ∧ aN A ≤ 6 ∧ aB A ≤ 60 ∧ ∀ j, j < aB A → aD A j ≤ 200
theorem InvA.lk {A : mAs} (h : InvA A) : LkOK A := by
  obtain ⟨h1, -⟩ := h
  exact ⟨h1.B, fun t ht j hj => ((h1.2.1 t ht).2.1 j hj).1, fun t ht p hp => by have := (h1.2.1 t ht).en hp; omega, fun k hk hz => by obtain ⟨c, n, x⟩ := h1.2.2.2.1 k hk hz; rw [x.rl]; exact x.le.1, h1.sh, h1.put⟩
theorem InvA.his {A : mAs} (h : InvA A) {T : mSt} (hT : InvT T) {b : Nat} {d : Nat → Nat} (hb : b ≤ 60) (hd : ∀ j, j < b → d j ≤ 200) : InvA (T, hisA A, (b, d)) := by
  obtain ⟨h1, h2, h3, -, -⟩ := h
  refine ⟨hT, fun i hi => ?_, ?_, hb, hd⟩
  · show InvT (pshT (aN A) (aH A) (aT A) i)
    have hi' : i < pshN (aN A) := hi
    unfold pshT
    unfold pshN at hi'
    by_cases c : aN A < 6
    · rw [if_pos c] at hi' ⊢
      show InvT (if i = aN A then aT A else aH A i)
      by_cases e : i = aN A
      · rw [if_pos e]; exact h1
      · rw [if_neg e]; exact h2 i (by omega)
    · rw [if_neg c] at hi' ⊢
      show InvT (if i = 5 then aT A else aH A (i + 1))
      by_cases e : i = 5
      · rw [if_pos e]; exact h1
      · rw [if_neg e]; exact h2 (i + 1) (by omega)
  · show pshN (aN A) ≤ 6
    unfold pshN
    split <;> omega
