theorem addN_congr {a b : Nat → Nat} {n i : Nat} (h : ∀ j, j < n → a j = b j) (hi : i < n) : addN a i = addN b i := by
  unfold addN
  rw [h i hi, h (i - 1) (by omega)]
theorem smA_congr {a b : Nat → Nat} {n i : Nat} (h : ∀ j, j < n → a j = b j) (hi : i ≤ n) : smN (addN a) i = smN (addN b) i := smN_congr (fun k hk => addN_congr h (by omega))
theorem errI_congr {a b : Nat → Nat} {n : Nat} (h : ∀ j, j < n → a j = b j) : errI a n = errI b n := upTo_congr (fun k hk => by rw [addN_congr h hk, smA_congr h (by omega)])
theorem whol_congr {a b : Nat → Nat} {n : Nat} (h : ∀ j, j < n → a j = b j) : whol a n = whol b n := by rw [whol, whol, errI_congr h]
theorem sgnL_congr {a b : Nat → Nat} {n : Nat} (h : ∀ j, j < n → a j = b j) : ∀ i, i ≤ n → sgnL a i = sgnL b i
  | 0, _ => rfl
  | i + 1, hi => by rw [sgnL, sgnL, h i (by omega), sgnL_congr h i (by omega)]
theorem tlN_congr {a b : Nat → Nat} {n : Nat} (h : ∀ j, j < n → a j = b j) : ∀ i, i ≤ n → tlN a i = tlN b i
  | 0, _ => rfl
  | i + 1, hi => by rw [tlN, tlN, tlN_congr h i (by omega), sgnL_congr h (i + 1) hi, smA_congr h (show i ≤ n by omega)]
theorem whol_all {cd : Nat → Nat} {n : Nat} (h : whol cd n = true) : 0 < n ∧ errI cd n = n ∧ ∀ i, i < n → addN cd i ≠ 0 ∧ smN (addN cd) (i + 1) ≤ 40 := by
  obtain ⟨h1, h2⟩ := of_decide_eq_true h
  exact ⟨h1, h2, fun i hi => of_decide_eq_true (upTo_pre h2 hi)⟩
theorem sgnL_pos {cd : Nat → Nat} {n : Nat} (h : ∀ i, i < n → addN cd i ≠ 0) : ∀ i, i < n → 1 ≤ sgnL cd (i + 1)
  | i, hi => by
    have ha := h i hi
    cases hl : lett (cd i) with
    | true =>
      have := lett_is hl
      rw [sgnL_y hl]
      omega
    | false =>
      rw [sgnL_n hl]
      rw [addN, if_neg (by rw [hl]; decide)] at ha
      by_cases z : 50 ≤ cd i ∧ cd i ≤ 57 ∧ 0 < i ∧ lett (cd (i - 1)) = true
      · obtain ⟨j, rfl⟩ : ∃ j, i = j + 1 := ⟨i - 1, by omega⟩
        rw [Nat.add_sub_cancel] at z
        have := lett_is z.2.2.2
        rw [sgnL_y z.2.2.2]
        omega
      · rw [if_neg z] at ha
        exact absurd rfl ha
theorem tlN_pos {cd : Nat → Nat} {n : Nat} (h : ∀ i, i < n → addN cd i ≠ 0) : ∀ i, i ≤ n → ∀ j, j < smN (addN cd) i → 1 ≤ tlN cd i j ∧ tlN cd i j ≤ 8
  | 0, _, j, hj => absurd hj (Nat.not_lt_zero j)
  | i + 1, hi, j, hj => by
    show 1 ≤ (if j < smN (addN cd) i then tlN cd i j else sgnL cd (i + 1)) ∧ (if j < smN (addN cd) i then tlN cd i j else sgnL cd (i + 1)) ≤ 8
    by_cases z : j < smN (addN cd) i
    · rw [if_pos z]
      exact tlN_pos h i (by omega) j z
    · rw [if_neg z]
      exact ⟨sgnL_pos h i (by omega), sgnL_le cd _⟩
theorem whol_ok {cd : Nat → Nat} {n : Nat} (h : whol cd n = true) : smN (addN cd) n ≤ 40 ∧ ∀ j, j < smN (addN cd) n → 1 ≤ tlN cd n j ∧ tlN cd n j ≤ 8 := by
  obtain ⟨h1, h2, h3⟩ := whol_all h
  refine ⟨?_, tlN_pos (fun i hi => (h3 i hi).1) n (Nat.le_refl n)⟩
  have := (h3 (n - 1) (by omega)).2
  rw [show n - 1 + 1 = n by omega] at this
  exact this
theorem InvT.put {A : mAs} (h : InvT (aT A)) : PutOK A := fun hw => by
  obtain ⟨a, b⟩ := whol_ok hw
  exact ⟨a, fun j hj => (b j hj).1, fun t ht => h.ch ht (cutK_tile h.1 a b)⟩
/-- the unlike rows so far -/
def UlR (ga : Nat → Int64) (gv : Nat → Nat) (gw : Nat) (σ : mUl) : Prop := gw = σ.1 ∧ ∀ k, k < σ.1 → Cd (σ.2.1 k) (ga k) (gv k)
theorem ul_hit {ga : Nat → Int64} {gv : Nat → Nat} {gw : Nat} {σ : mUl} (h : UlR ga gv gw σ) {w c : Int64} {n k : Nat} (x : Cd w c n) (hk : k < gw) : (σ.2.1 k == w) = (decide (ga k = c) && decide (gv k = n)) := by
  have hi := (h.2 k (by rw [← h.1]; exact hk)).iff x
  rw [ieq]
  by_cases e : σ.2.1 k = w
  · rw [decide_eq_true e, decide_eq_true (hi.mp e).1, decide_eq_true (hi.mp e).2]; rfl
  · rw [decide_eq_false e]
    by_cases z : ga k = c
    · rw [decide_eq_false (fun q => e (hi.mpr ⟨q, z⟩)), Bool.and_false]
    · rw [decide_eq_false z, Bool.false_and]
theorem ul_new {ga : Nat → Int64} {gv : Nat → Nat} {gw : Nat} {σ : mUl} (h : UlR ga gv gw σ) {w c : Int64} {n : Nat} (x : Cd w c n) (hn : exN (fun q => σ.2.1 q == w) σ.1 = false) : UlR (vp_updL ga gw c) (upN gv gw n) (gw + 1) (ul1 σ w n) := by
  rw [ul1, if_neg (by rw [hn]; decide)]
  refine ⟨by rw [h.1], fun k hk => ?_⟩
  have hk' : k < σ.1 + 1 := hk
  show Cd (vp_updL σ.2.1 σ.1 w k) _ _
  rw [h.1]
  by_cases e : k = σ.1
  · rw [e, upL_s, upL_s, upN_s]; exact x
  · rw [upL_n e, upL_n e, upN_n e]; exact h.2 k (by omega)
/-- the greatest divisor with the least sum -/
def bmD (T : mSt) : Nat → Nat × Nat
  | 0 => (9, ulL T 9)
  | n + 1 => if ulL T (8 - n) < (bmD T n).2 then (8 - n, ulL T (8 - n)) else bmD T n
theorem bsD_is (T : mSt) : ∀ n, (1 ≤ (bsD T n).1 ∧ (bsD T n).1 ≤ n + 1) ∧ (bsD T n).2 = ulL T (bsD T n).1 ∧ (∀ d, 1 ≤ d → d ≤ n + 1 → (bsD T n).2 ≤ ulL T d) ∧ ∀ d, (bsD T n).1 < d → d ≤ n + 1 → (bsD T n).2 < ulL T d
  | 0 => ⟨⟨Nat.le_refl 1, Nat.le_refl 1⟩, rfl, fun d h1 h2 => by rw [show d = 1 by omega]; exact Nat.le_refl _, fun d h1 h2 => by have : 1 < d := h1; omega⟩
  | n + 1 => by
    obtain ⟨h1, h2, h3, h4⟩ := bsD_is T n
    rw [bsD]
    by_cases z : ulL T (n + 2) ≤ (bsD T n).2
    · rw [if_pos z]
      refine ⟨⟨by show 1 ≤ n + 2; omega, by show n + 2 ≤ n + 1 + 1; omega⟩, rfl, fun d d1 d2 => ?_, fun d d1 d2 => ?_⟩
      · show ulL T (n + 2) ≤ _
        by_cases e : d = n + 2
        · rw [e]; exact Nat.le_refl _
        · exact Nat.le_trans z (h3 d d1 (by omega))
      · have : n + 2 < d := d1
        omega
    · rw [if_neg z]
      refine ⟨⟨h1.1, by omega⟩, h2, fun d d1 d2 => ?_, fun d d1 d2 => ?_⟩
      · by_cases e : d = n + 2
        · rw [e]; omega
        · exact h3 d d1 (by omega)
      · by_cases e : d = n + 2
        · rw [e]; omega
        · exact h4 d d1 (by omega)
theorem bmD_is (T : mSt) : ∀ n, n ≤ 8 → (9 - n ≤ (bmD T n).1 ∧ (bmD T n).1 ≤ 9) ∧ (bmD T n).2 = ulL T (bmD T n).1 ∧ (∀ d, 9 - n ≤ d → d ≤ 9 → (bmD T n).2 ≤ ulL T d) ∧ ∀ d, (bmD T n).1 < d → d ≤ 9 → (bmD T n).2 < ulL T d
  | 0, _ => ⟨⟨Nat.le_refl 9, Nat.le_refl 9⟩, rfl, fun d h1 h2 => by rw [show d = 9 by omega]; exact Nat.le_refl _, fun d h1 h2 => by have : 9 < d := h1; omega⟩
  | n + 1, hn => by
    obtain ⟨h1, h2, h3, h4⟩ := bmD_is T n (by omega)
    rw [bmD]
    by_cases z : ulL T (8 - n) < (bmD T n).2
    · rw [if_pos z]
      refine ⟨⟨by show 9 - (n + 1) ≤ 8 - n; omega, by show 8 - n ≤ 9; omega⟩, rfl, fun d d1 d2 => ?_, fun d d1 d2 => ?_⟩
      · show ulL T (8 - n) ≤ _
        by_cases e : d = 8 - n
        · rw [e]; exact Nat.le_refl _
        · exact Nat.le_trans (Nat.le_of_lt z) (h3 d (by omega) d2)
      · have d1' : 8 - n < d := d1
        show ulL T (8 - n) < _
        exact Nat.lt_of_lt_of_le z (h3 d (by omega) d2)
    · rw [if_neg z]
      refine ⟨⟨by omega, h1.2⟩, h2, fun d d1 d2 => ?_, h4⟩
      by_cases e : d = 8 - n
      · rw [e]; omega
      · exact h3 d (by omega) d2
theorem bmD_bs (T : mSt) : (bmD T 8).1 = (bsD T 8).1 := by
  obtain ⟨a1, a2, a3, a4⟩ := bsD_is T 8
  obtain ⟨b1, b2, b3, b4⟩ := bmD_is T 8 (Nat.le_refl 8)
  generalize (bsD T 8).1 = x at *
  generalize (bmD T 8).1 = y at *
  rcases Nat.lt_trichotomy y x with z | z | z
  · have := b4 x z (by omega)
    have := a3 y (by omega) (by omega)
    omega
  · exact z
  · have := a4 y z (by omega)
    have := b3 x (by omega) (by omega)
    omega
