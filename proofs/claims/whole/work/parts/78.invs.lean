/-! shares are as wanted -/
theorem shrU_all {a b : Nat} (h1 : 1 ≤ b) (h2 : b ≤ 160) (h3 : a ≤ b) : shrU a b = true := by
  by_cases c0 : b < 28
  · exact tabT_at tab_0 (by omega) (by omega) h3
  by_cases c1 : b < 40
  · exact tabT_at tab_1 (by omega) (by omega) h3
  by_cases c2 : b < 49
  · exact tabT_at tab_2 (by omega) (by omega) h3
  by_cases c3 : b < 56
  · exact tabT_at tab_3 (by omega) (by omega) h3
  by_cases c4 : b < 63
  · exact tabT_at tab_4 (by omega) (by omega) h3
  by_cases c5 : b < 69
  · exact tabT_at tab_5 (by omega) (by omega) h3
  by_cases c6 : b < 74
  · exact tabT_at tab_6 (by omega) (by omega) h3
  by_cases c7 : b < 79
  · exact tabT_at tab_7 (by omega) (by omega) h3
  by_cases c8 : b < 84
  · exact tabT_at tab_8 (by omega) (by omega) h3
  by_cases c9 : b < 88
  · exact tabT_at tab_9 (by omega) (by omega) h3
  by_cases c10 : b < 92
  · exact tabT_at tab_10 (by omega) (by omega) h3
  by_cases c11 : b < 96
  · exact tabT_at tab_11 (by omega) (by omega) h3
  by_cases c12 : b < 100
  · exact tabT_at tab_12 (by omega) (by omega) h3
  by_cases c13 : b < 104
  · exact tabT_at tab_13 (by omega) (by omega) h3
  by_cases c14 : b < 107
  · exact tabT_at tab_14 (by omega) (by omega) h3
  by_cases c15 : b < 110
  · exact tabT_at tab_15 (by omega) (by omega) h3
  by_cases c16 : b < 113
  · exact tabT_at tab_16 (by omega) (by omega) h3
  by_cases c17 : b < 116
  · exact tabT_at tab_17 (by omega) (by omega) h3
  by_cases c18 : b < 119
  · exact tabT_at tab_18 (by omega) (by omega) h3
  by_cases c19 : b < 122
  · exact tabT_at tab_19 (by omega) (by omega) h3
  by_cases c20 : b < 125
  · exact tabT_at tab_20 (by omega) (by omega) h3
  by_cases c21 : b < 128
  · exact tabT_at tab_21 (by omega) (by omega) h3
  by_cases c22 : b < 131
  · exact tabT_at tab_22 (by omega) (by omega) h3
  by_cases c23 : b < 134
  · exact tabT_at tab_23 (by omega) (by omega) h3
  by_cases c24 : b < 137
  · exact tabT_at tab_24 (by omega) (by omega) h3
  by_cases c25 : b < 140
  · exact tabT_at tab_25 (by omega) (by omega) h3
  by_cases c26 : b < 142
  · exact tabT_at tab_26 (by omega) (by omega) h3
  by_cases c27 : b < 144
  · exact tabT_at tab_27 (by omega) (by omega) h3
  by_cases c28 : b < 146
  · exact tabT_at tab_28 (by omega) (by omega) h3
  by_cases c29 : b < 148
  · exact tabT_at tab_29 (by omega) (by omega) h3
  by_cases c30 : b < 150
  · exact tabT_at tab_30 (by omega) (by omega) h3
  by_cases c31 : b < 152
  · exact tabT_at tab_31 (by omega) (by omega) h3
  by_cases c32 : b < 154
  · exact tabT_at tab_32 (by omega) (by omega) h3
  by_cases c33 : b < 156
  · exact tabT_at tab_33 (by omega) (by omega) h3
  by_cases c34 : b < 158
  · exact tabT_at tab_34 (by omega) (by omega) h3
  by_cases c35 : b < 160
  · exact tabT_at tab_35 (by omega) (by omega) h3
  exact tabT_at tab_36 (by omega) (by omega) h3
theorem sgs_le {T : mSt} (h : InvT T) : sgsN T ≤ 160 := smN_le (c := 40) (n := 4) (fun t ht => (h.2.1 t ht).1)
theorem InvT.sh {T : mSt} (h : InvT T) : ShOK T := fun hn => by
  have := shrU_all (a := owdN T) (b := sgsN T) (by omega) (sgs_le h) (owd_le h)
  rw [shrU, Bool.and_eq_true] at this
  exact this.1
theorem sel_0 : FP.dcmp FP.dconst0 FP.dconst0 = some .eq := of_decide_eq_true (show decide (FP.dcmp FP.dconst0 FP.dconst0 = some .eq) = true by decide +kernel)
theorem InvT.se {T : mSt} (h : InvT T) : FP.dcmp (savD T) (savD T) = some .eq := by
  by_cases hn : sgsN T = 0
  · rw [savD, if_pos hn]; exact sel_0
  · rw [savD, if_neg hn]
    have := shrU_all (a := owdN T) (b := sgsN T) (by omega) (sgs_le h) (owd_le h)
    rw [shrU, Bool.and_eq_true] at this
    exact of_decide_eq_true this.2
/-- all that is asked of a state, of what is saved, of the buffer -/
def InvA (A : mAs) : Prop := InvT (aT A) ∧ (∀ i, i < aN A → InvT (aH A i)) ∧ aN A ≤ 6 ∧ aB A ≤ 60 ∧ ∀ j, j < aB A → aD A j ≤ 200
theorem InvA.lk {A : mAs} (h : InvA A) : LkOK A := by
  obtain ⟨h1, -⟩ := h
  exact ⟨h1.B, fun t ht j hj => ((h1.2.1 t ht).2.1 j hj).1, fun t ht p hp => by have := (h1.2.1 t ht).en hp; omega, fun k hk hz => by obtain ⟨c, n, x⟩ := h1.2.2.2.1 k hk hz; rw [x.rl]; exact x.le.1, h1.sh, h1.put⟩
theorem InvA.his {A : mAs} (h : InvA A) {T : mSt} (hT : InvT T) {b : Nat} {d : Nat → Nat} (hb : b ≤ 60) (hd : ∀ j, j < b → d j ≤ 200) : InvA (T, hisA A, (b, d)) := by
  obtain ⟨h1, h2, h3, -, -⟩ := h
  refine ⟨hT, fun i hi => ?_, ?_, hb, hd⟩
  · show InvT (pshT (aN A) (aH A) (aT A) i)
    have hi' : i < pshN (aN A) := hi
    unfold pshT
    unfold pshN at hi'
    by_cases c : aN A < 6
    · rw [if_pos c] at hi' ⊢
      show InvT (if i = aN A then aT A else aH A i)
      by_cases e : i = aN A
      · rw [if_pos e]; exact h1
      · rw [if_neg e]; exact h2 i (by omega)
    · rw [if_neg c] at hi' ⊢
      show InvT (if i = 5 then aT A else aH A (i + 1))
      by_cases e : i = 5
      · rw [if_pos e]; exact h1
      · rw [if_neg e]; exact h2 (i + 1) (by omega)
  · show pshN (aN A) ≤ 6
    unfold pshN
    split <;> omega
