/-! texts tiled by pieces; the model's cutting is the class's -/
theorem smN_add (f : Nat → Nat) (a : Nat) : ∀ b, smN f (a + b) = smN f a + smN (fun i => f (a + i)) b
  | 0 => rfl
  | b + 1 => by
    show smN f (a + b) + f (a + b) = smN f a + (smN (fun i => f (a + i)) b + f (a + b))
    rw [smN_add f a b]
    omega
theorem mxN_add (f : Nat → Nat) (a : Nat) : ∀ b, mxN f (a + b) = max (mxN f a) (mxN (fun i => f (a + i)) b)
  | 0 => (Nat.max_zero _).symm
  | b + 1 => by
    show max (mxN f (a + b)) (f (a + b)) = max (mxN f a) (max (mxN (fun i => f (a + i)) b) (f (a + b)))
    rw [mxN_add f a b]
    omega
theorem smN_ge {f : Nat → Nat} {n : Nat} (h : ∀ k, k < n → 1 ≤ f k) : n ≤ smN f n := by
  induction n with
  | zero => exact Nat.zero_le _
  | succ n ih =>
    have := ih (fun k hk => h k (by omega))
    have := h n (by omega)
    rw [smN]
    omega
theorem smN_zero {f : Nat → Nat} {n : Nat} (h : ∀ k, k < n → f k = 0) : smN f n = 0 := by
  induction n with
  | zero => rfl
  | succ n ih => rw [smN, ih (fun k hk => h k (by omega)), h n (by omega)]
theorem smN_at {f : Nat → Nat} {n k : Nat} (hk : k < n) : smN f k + f k ≤ smN f n := smN_mono f (show k + 1 ≤ n from hk)
theorem ctN_sm (p : Nat → Bool) : ∀ n, ctN p n = smN (fun k => if p k = true then 1 else 0) n
  | 0 => rfl
  | n + 1 => by rw [ctN, smN, ctN_sm p n]
theorem sm_last {f : Nat → Nat} {m g : Nat} (hm : 1 ≤ m) (h : ∀ i, i < m → f i = if i + 1 = m then g else 0) : smN f m = g := by
  obtain ⟨k, rfl⟩ : ∃ k, m = k + 1 := ⟨m - 1, by omega⟩
  rw [smN, smN_zero (fun i hi => by rw [h i (by omega), if_neg (by omega)]), h k (by omega), if_pos rfl, Nat.zero_add]
theorem sm_const {f : Nat → Nat} {g : Nat} : ∀ {m : Nat}, (∀ i, i < m → f i = g) → smN f m = g * m
  | 0, _ => by rw [smN, Nat.mul_zero]
  | m + 1, h => by rw [smN, sm_const (m := m) (fun i hi => h i (by omega)), h m (by omega), Nat.mul_succ]
theorem mx_const {f : Nat → Nat} {g : Nat} {m : Nat} (hm : 1 ≤ m) (h : ∀ i, i < m → f i = g) : mxN f m = g := by
  induction m with
  | zero => omega
  | succ m ih =>
    rw [mxN, h m (by omega)]
    by_cases e : m = 0
    · subst e; exact Nat.zero_max g
    · rw [ih (by omega) (fun i hi => h i (by omega)), Nat.max_self]
def Tile (K : mCt) : Prop := kL K ≤ 40 ∧ (∀ j, j < kL K → 1 ≤ kS K j ∧ kS K j ≤ 8) ∧ (∀ p, p < kN K → kP K p = smN (kQ K) p ∧ 1 ≤ kQ K p ∧ kQ K p ≤ 20 ∧ kR K p = rowC (kS K) (kP K p) (kQ K p)) ∧ smN (kQ K) (kN K) = kL K
theorem Tile.en {K : mCt} (x : Tile K) {p : Nat} (hp : p < kN K) : kP K p + kQ K p ≤ kL K ∧ kP K p + kQ K p = smN (kQ K) (p + 1) ∧ 1 ≤ kQ K p ∧ kQ K p ≤ 20 := by
  obtain ⟨x1, x2, x3, x4⟩ := x
  obtain ⟨y1, y2, y3, y4⟩ := x3 p hp
  have := smN_at (f := kQ K) hp
  exact ⟨by rw [y1]; omega, by rw [y1]; rfl, y2, y3⟩
theorem Tile.n40 {K : mCt} (x : Tile K) : kN K ≤ 40 := by
  obtain ⟨x1, x2, x3, x4⟩ := x
  have := smN_ge (f := kQ K) (n := kN K) (fun k hk => (x3 k hk).2.1)
  omega
theorem Tile.sg {K : mCt} (x : Tile K) {p : Nat} (hp : p < kN K) : Sg (kS K) (kP K p) (kQ K p) := fun i hi => x.2.1 _ (by have := x.en hp; omega)
theorem Tile.cd {K : mCt} (x : Tile K) {p : Nat} (hp : p < kN K) : Cd (kR K p) (codC (kS K) (kP K p) (kQ K p)) (kQ K p) := by
  have y := x.en hp
  rw [(x.2.2.1 p hp).2.2.2]
  exact Cd.of y.2.2.1 y.2.2.2 (x.sg hp)
/-- each place is in a piece -/
theorem pl_in (q : Nat → Nat) : ∀ n j, j < smN q n → ∃ p i, p < n ∧ i < q p ∧ j = smN q p + i
  | 0, j, h => absurd h (Nat.not_lt_zero j)
  | n + 1, j, h => by
    by_cases k : j < smN q n
    · obtain ⟨p, i, h1, h2, h3⟩ := pl_in q n j k
      exact ⟨p, i, by omega, h2, h3⟩
    · rw [smN] at h
      exact ⟨n, j - smN q n, by omega, by omega, by omega⟩
theorem Tile.pl {K : mCt} (x : Tile K) {j : Nat} (hj : j < kL K) : ∃ p i, p < kN K ∧ i < kQ K p ∧ j = kP K p + i := by
  obtain ⟨p, i, h1, h2, h3⟩ := pl_in (kQ K) (kN K) j (by rw [x.2.2.2]; exact hj)
  exact ⟨p, i, h1, h2, by rw [(x.2.2.1 p h1).1]; exact h3⟩
/-- sums over places are sums over pieces -/
theorem sm_pc (f q g : Nat → Nat) : ∀ n, (∀ p, p < n → smN (fun i => f (smN q p + i)) (q p) = g p) → smN f (smN q n) = smN g n
  | 0, _ => rfl
  | n + 1, h => by rw [smN, smN_add, sm_pc f q g n (fun p hp => h p (by omega)), h n (by omega), smN]
theorem mx_pc (f q g : Nat → Nat) : ∀ n, (∀ p, p < n → mxN (fun i => f (smN q p + i)) (q p) = g p) → mxN f (smN q n) = mxN g n
  | 0, _ => rfl
  | n + 1, h => by rw [smN, mxN_add, mx_pc f q g n (fun p hp => h p (by omega)), h n (by omega), mxN]
theorem Tile.last {K : mCt} (x : Tile K) (f g : Nat → Nat) (h : ∀ p, p < kN K → ∀ i, i < kQ K p → f (kP K p + i) = if i + 1 = kQ K p then g p else 0) {n : Nat} (hn : n ≤ kN K) : smN f (smN (kQ K) n) = smN g n := by
  refine sm_pc f (kQ K) g n (fun p hp => ?_)
  obtain ⟨y1, y2, y3, y4⟩ := x.2.2.1 p (by omega)
  rw [← y1]
  exact sm_last y2 (h p (by omega))
theorem Tile.lastp {K : mCt} (x : Tile K) (f g : Nat → Nat) (h : ∀ p, p < kN K → ∀ i, i < kQ K p → f (kP K p + i) = if i + 1 = kQ K p then g p else 0) {p i : Nat} (hp : p < kN K) (hi : i < kQ K p) : smN f (kP K p + i) = smN g p := by
  rw [smN_add, (x.2.2.1 p hp).1, x.last f g h (Nat.le_of_lt hp), ← (x.2.2.1 p hp).1, smN_zero (f := fun j => f (kP K p + j)) (fun j hj => by rw [h p hp j (by omega), if_neg (by omega)]), Nat.add_zero]
theorem Tile.each {K : mCt} (x : Tile K) (f g : Nat → Nat) (h : ∀ p, p < kN K → ∀ i, i < kQ K p → f (kP K p + i) = g p) : smN f (kL K) = smN (fun p => g p * kQ K p) (kN K) := by
  rw [← x.2.2.2]
  refine sm_pc f (kQ K) _ _ (fun p hp => ?_)
  rw [← (x.2.2.1 p hp).1]
  exact sm_const (h p hp)
theorem Tile.most {K : mCt} (x : Tile K) (f g : Nat → Nat) (h : ∀ p, p < kN K → ∀ i, i < kQ K p → f (kP K p + i) = g p) : mxN f (kL K) = mxN g (kN K) := by
  rw [← x.2.2.2]
  refine mx_pc f (kQ K) _ _ (fun p hp => ?_)
  rw [← (x.2.2.1 p hp).1]
  exact mx_const (x.2.2.1 p hp).2.1 (h p hp)
theorem sumN_congr {s r : Nat → Nat} {w j : Nat} (h : ∀ i, i ≤ j → r i = s i) : sumN r w j = sumN s w j := smN_congr (fun k hk => by rw [h _ (by omega)])
theorem upB_at {f : Nat → Bool} {k j : Nat} {x : Bool} : upB f k x j = if j = k then x else f j := rfl
def CutM (gp : Nat → Int64) (gq ge : Nat → Nat) (gn : Nat) (K : mCt) : Prop := gn = kN K ∧ ∀ p, p < kN K → gp p = codC (kS K) (kP K p) (kQ K p) ∧ gq p = kQ K p ∧ (1 ≤ ge p ∧ ge p ≤ 3) ∧ (ge p = 2 ↔ kF K p = true)
theorem cut_in {v s : Nat → Nat} {n : Nat} (hv : SetV v) (hs : ∀ j, j < n → 1 ≤ s j ∧ s j ≤ 8) : ∀ i, i ≤ n → (smN (cutG v n s i).2.2.2.1 (cutG v n s i).2.1 = (cutG v n s i).1 ∧ (∀ p, p < (cutG v n s i).2.1 → (cutG v n s i).2.2.1 p = smN (cutG v n s i).2.2.2.1 p ∧ 1 ≤ (cutG v n s i).2.2.2.1 p ∧ (cutG v n s i).2.2.2.1 p ≤ 20 ∧ (cutG v n s i).2.2.2.2.2 p = rowC s ((cutG v n s i).2.2.1 p) ((cutG v n s i).2.2.2.1 p))) ∧ i - (cutG v n s i).1 < v 4 ∧ (i = n → (cutG v n s i).1 = n)
  | 0, _ => ⟨⟨rfl, fun p hp => absurd hp (Nat.not_lt_zero p)⟩, by have := hv.2.2.2.2.1; show 0 - 0 < v 4; omega, fun z => z⟩
  | i + 1, hi => by
    obtain ⟨⟨h1, h2⟩, h3, h4⟩ := cut_in (n := n) hv hs i (by omega)
    have hst := cutG_st v n s i
    have h6 := hv.2.2.2.2
    cases hc : cutH v s n i (i - (cutG v n s i).1 + 1) with
    | false =>
      rw [cutG_n hc]
      simp only [cutH, Bool.or_eq_false_iff, cutF, decide_eq_false_iff_not] at hc
      exact ⟨⟨h1, h2⟩, by omega, fun z => absurd z hc.2⟩
    | true =>
      rw [cutG_y hc]
      have e : ∀ k, k ≤ (cutG v n s i).2.1 → smN (upN (cutG v n s i).2.2.2.1 (cutG v n s i).2.1 (i - (cutG v n s i).1 + 1)) k = smN (cutG v n s i).2.2.2.1 k := fun k hk => smN_congr (fun q hq => upN_n (by omega))
      refine ⟨⟨?_, fun p hp => ?_⟩, by show i + 1 - (i + 1) < v 4; omega, fun z => z⟩
      · show smN (upN (cutG v n s i).2.2.2.1 (cutG v n s i).2.1 (i - (cutG v n s i).1 + 1)) ((cutG v n s i).2.1 + 1) = i + 1
        rw [smN, e _ (Nat.le_refl _), upN_s, h1]
        omega
      · have hp' : p < (cutG v n s i).2.1 + 1 := hp
        show upN (cutG v n s i).2.2.1 (cutG v n s i).2.1 (cutG v n s i).1 p = smN (upN (cutG v n s i).2.2.2.1 (cutG v n s i).2.1 (i - (cutG v n s i).1 + 1)) p ∧ 1 ≤ upN (cutG v n s i).2.2.2.1 (cutG v n s i).2.1 (i - (cutG v n s i).1 + 1) p ∧ upN (cutG v n s i).2.2.2.1 (cutG v n s i).2.1 (i - (cutG v n s i).1 + 1) p ≤ 20 ∧ vp_updL (cutG v n s i).2.2.2.2.2 (cutG v n s i).2.1 (rowC s (cutG v n s i).1 (i - (cutG v n s i).1 + 1)) p = rowC s (upN (cutG v n s i).2.2.1 (cutG v n s i).2.1 (cutG v n s i).1 p) (upN (cutG v n s i).2.2.2.1 (cutG v n s i).2.1 (i - (cutG v n s i).1 + 1) p)
        rw [e p (by omega)]
        by_cases k : p = (cutG v n s i).2.1
        · rw [k, upN_s, upN_s, upL_s]
          exact ⟨h1.symm, by omega, by omega, rfl⟩
        · rw [upN_n k, upN_n k, upL_n k]
          exact h2 p (by omega)
theorem cutK_tile {v s : Nat → Nat} {n : Nat} (hv : SetV v) (hn : n ≤ 40) (hs : ∀ j, j < n → 1 ≤ s j ∧ s j ≤ 8) : Tile (cutK v n s) := by
  obtain ⟨⟨h1, h2⟩, h3, h4⟩ := cut_in hv hs n (Nat.le_refl n)
  exact ⟨hn, hs, h2, h1.trans (h4 rfl)⟩
