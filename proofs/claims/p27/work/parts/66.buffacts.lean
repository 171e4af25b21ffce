theorem addN_congr {a b : Nat → Nat} {n i : Nat} (h : ∀ j, j < n → a j = b j) (hi : i < n) : addN a i = addN b i := by
  unfold addN
  rw [h i hi, h (i - 1) (by omega)]
theorem smA_congr {a b : Nat → Nat} {n i : Nat} (h : ∀ j, j < n → a j = b j) (hi : i ≤ n) : smN (addN a) i = smN (addN b) i := smN_congr (fun k hk => addN_congr h (by omega))
theorem errI_congr {a b : Nat → Nat} {n : Nat} (h : ∀ j, j < n → a j = b j) : errI a n = errI b n := upTo_congr (fun k hk => by rw [addN_congr h hk, smA_congr h (by omega)])
theorem whol_congr {a b : Nat → Nat} {n : Nat} (h : ∀ j, j < n → a j = b j) : whol a n = whol b n := by rw [whol, whol, errI_congr h]
theorem sgnL_congr {a b : Nat → Nat} {n : Nat} (h : ∀ j, j < n → a j = b j) : ∀ i, i ≤ n → sgnL a i = sgnL b i
  | 0, _ => rfl
  | i + 1, hi => by rw [sgnL, sgnL, h i (by omega), sgnL_congr h i (by omega)]
theorem tlN_congr {a b : Nat → Nat} {n : Nat} (h : ∀ j, j < n → a j = b j) : ∀ i, i ≤ n → tlN a i = tlN b i
  | 0, _ => rfl
  | i + 1, hi => by rw [tlN, tlN, tlN_congr h i (by omega), sgnL_congr h (i + 1) hi, smA_congr h (show i ≤ n by omega)]
theorem whol_all {cd : Nat → Nat} {n : Nat} (h : whol cd n = true) : 0 < n ∧ errI cd n = n ∧ ∀ i, i < n → addN cd i ≠ 0 ∧ smN (addN cd) (i + 1) ≤ 40 := by
  obtain ⟨h1, h2⟩ := of_decide_eq_true h
  exact ⟨h1, h2, fun i hi => of_decide_eq_true (upTo_pre h2 hi)⟩
theorem sgnL_pos {cd : Nat → Nat} {n : Nat} (h : ∀ i, i < n → addN cd i ≠ 0) : ∀ i, i < n → 1 ≤ sgnL cd (i + 1)
  | i, hi => by
    have ha := h i hi
    cases hl : lett (cd i) with
    | true =>
      have := lett_is hl
      rw [sgnL_y hl]
      omega
    | false =>
      rw [sgnL_n hl]
      rw [addN, if_neg (by rw [hl]; decide)] at ha
      by_cases z : 50 ≤ cd i ∧ cd i ≤ 57 ∧ 0 < i ∧ lett (cd (i - 1)) = true
      · obtain ⟨j, rfl⟩ : ∃ j, i = j + 1 := ⟨i - 1, by omega⟩
        rw [Nat.add_sub_cancel] at z
        have := lett_is z.2.2.2
        rw [sgnL_y z.2.2.2]
        omega
      · rw [if_neg z] at ha
        exact absurd rfl ha
theorem tlN_pos {cd : Nat → Nat} {n : Nat} (h : ∀ i, i < n → addN cd i ≠ 0) : ∀ i, i ≤ n → ∀ j, j < smN (addN cd) i → 1 ≤ tlN cd i j ∧ tlN cd i j ≤ 8
  | 0, _, j, hj => absurd hj (Nat.not_lt_zero j)
  | i + 1, hi, j, hj => by
    show 1 ≤ (if j < smN (addN cd) i then tlN cd i j else sgnL cd (i + 1)) ∧ (if j < smN (addN cd) i then tlN cd i j else sgnL cd (i + 1)) ≤ 8
    by_cases z : j < smN (addN cd) i
    · rw [if_pos z]
      exact tlN_pos h i (by omega) j z
    · rw [if_neg z]
      exact ⟨sgnL_pos h i (by omega), sgnL_le cd _⟩
theorem whol_ok {cd : Nat → Nat} {n : Nat} (h : whol cd n = true) : smN (addN cd) n ≤ 40 ∧ ∀ j, j < smN (addN cd) n → 1 ≤ tlN cd n j ∧ tlN cd n j ≤ 8 := by
  obtain ⟨h1, h2, h3⟩ := whol_all h
  refine ⟨?_, tlN_pos (fun i hi => (h3 i hi).1) n (Nat.le_refl n)⟩
  have := (h3 (n - 1) (by omega)).2
  rw [show n - 1 + 1 = n by omega] at this
  exact this
theorem InvT.put {A : mAs} (h : InvT (aT A)) : PutOK A := fun hw => by
  obtain ⟨a, b⟩ := whol_ok hw
  exact ⟨a, fun j hj => (b j hj).1, fun t ht => h.ch ht (cutK_tile h.1 a b)⟩
