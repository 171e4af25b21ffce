/-! the relation is kept: clearing a text, sweeping slots -/
theorem RelT.congr {gz y : Nat → Nat} {gc d : Nat → Int64} {T : mSt} (h : RelT gz gc T) (hT : InvT T) (e : ∀ i, i < 611 → y i = gz i) (e2 : ∀ k, k < 60 → d k = gc k) : RelT y d T := by
  obtain ⟨h1, h2, h3⟩ := h
  refine ⟨fun k hk => by rw [e k (by omega)]; exact h1 k hk, h2.congr (fun i hi => e i (by omega)) e2, fun t ht => (h3 t ht).congr (hT.2.1 t ht) (fun i hi => e i (by omega)) (fun _ _ => rfl)⟩
theorem clB_out {gz : Nat → Nat} {t i : Nat} (h : ¬ ((11 + 40 * t ≤ i ∧ i < 11 + 40 * t + 40) ∨ (171 + 40 * t ≤ i ∧ i < 171 + 40 * t + 40) ∨ (331 + 40 * t ≤ i ∧ i < 331 + 40 * t + 40))) : clB gz t 40 i = gz i := if_neg h
theorem rel_clr {gz : Nat → Nat} {gc : Nat → Int64} {T : mSt} (h : RelT gz gc T) (hT : InvT T) {t : Nat} (ht : t < 4) : RelT (clB (upN (clA gz t 60) (7 + t) 0) t 40) gc (clrT T t) := by
  have e1 : ∀ i, i ≠ 7 + t → (i < 551) → ¬ ((11 + 40 * t ≤ i ∧ i < 11 + 40 * t + 40) ∨ (171 + 40 * t ≤ i ∧ i < 171 + 40 * t + 40) ∨ (331 + 40 * t ≤ i ∧ i < 331 + 40 * t + 40)) → clB (upN (clA gz t 60) (7 + t) 0) t 40 i = gz i := fun i h1 h2 h3 => by rw [clB_out h3, upN_n h1, clA_lo (by omega)]
  have e2 : ∀ k, k < 60 → clB (upN (clA gz t 60) (7 + t) 0) t 40 (551 + k) = gz (551 + k) - ownM gz t k (gz (7 + t)) := fun k hk => by
    rw [clB_out (by omega), upN_n (by omega)]
    show (if 551 ≤ 551 + k ∧ 551 + k < 551 + 60 then gz (551 + k) - ownM gz t (551 + k - 551) (gz (7 + t)) else gz (551 + k)) = _
    rw [if_pos (by omega), Nat.add_sub_cancel_left]
  refine ⟨fun k hk => by rw [e1 k (by omega) (by omega) (by omega)]; exact h.1 k hk, ⟨?_, ?_, fun k hk => ?_⟩, fun u hu => ?_⟩
  · rw [e1 5 (by omega) (by omega) (by omega)]; exact h.2.1.1
  · rw [e1 6 (by omega) (by omega) (by omega)]; exact h.2.1.2.1
  · rw [e1 (491 + k) (by omega) (by omega) (by omega), e2 k hk, (h.2.2 t ht).own2 hT ht hk]
    refine ⟨fun e => ?_, fun e => ?_⟩
    · have e' : sR (tS T) k = 0 := e
      have := (h.2.1.2.2 k hk).1 e'
      rw [if_pos e']
      exact ⟨this.1, by omega, this.2.2⟩
    · have e' : sR (tS T) k ≠ 0 := e
      have := (h.2.1.2.2 k hk).2 e'
      rw [if_neg e', this.2]
      exact ⟨this.1, rfl⟩
  · show RelX _ u (if u = t then rawK 0 (fun _ => 0) else tC T u) (los1 T t)
    by_cases eu : u = t
    · rw [if_pos eu]
      refine ⟨?_, fun j hj => absurd hj (Nat.not_lt_zero j), fun p hp => absurd hp (Nat.not_lt_zero p)⟩
      rw [eu, clB_out (by omega), upN_s]
    · rw [if_neg eu]
      exact (h.2.2 u hu).congr (hT.2.1 u hu) (fun i hi => e1 i (by omega) (by omega) (by omega)) (fun p hp => slU_congr (fun k _ => rfl))
/-- one slot is swept -/
def swpZ (z : Nat → Nat) (k : Nat) : Nat → Nat := upN (upN (upN z (491 + k) 0) (551 + k) 0) 6 (upN (upN z (491 + k) 0) (551 + k) 0 6 + 1)
theorem swpZ_o {z : Nat → Nat} {k i : Nat} (h1 : i ≠ 6) (h2 : i ≠ 491 + k) (h3 : i ≠ 551 + k) : swpZ z k i = z i := by rw [swpZ, upN_n h1, upN_n h3, upN_n h2]
theorem swpZ_6 {z : Nat → Nat} {k : Nat} : swpZ z k 6 = z 6 + 1 := by rw [swpZ, upN_s, upN_n (by omega), upN_n (by omega)]
theorem swpZ_a {z : Nat → Nat} {k : Nat} (hk : k < 60) : swpZ z k (491 + k) = 0 := by rw [swpZ, upN_n (by omega), upN_n (by omega), upN_s]
theorem swpZ_b {z : Nat → Nat} {k : Nat} : swpZ z k (551 + k) = 0 := by rw [swpZ, upN_n (by omega), upN_s]
theorem swN_k {S : mSo} {R : mCt} {n w k : Nat} : sR (swN S R n w) k = if decide (k < n) && rmS S R k then 0 else sR S k := rfl
theorem rel_swpY {z : Nat → Nat} {c : Nat → Int64} {S : mSo} {R : mCt} {k w : Nat} (h : RelS z c (swN S R k w)) (hk : k < 60) (hy : rmS S R k = true) : RelS (swpZ z k) (vp_updL c k 0) (swN S R (k + 1) (w + 1)) := by
  obtain ⟨h1, h2, h3⟩ := h
  refine ⟨by rw [swpZ_o (by omega) (by omega) (by omega)]; exact h1, by rw [swpZ_6, h2]; rfl, fun j hj => ?_⟩
  by_cases e : j = k
  · subst e
    rw [swN_k, decide_eq_true (Nat.lt_succ_self j), hy, swpZ_a hk, swpZ_b, upL_s]
    exact ⟨fun _ => ⟨rfl, rfl, rfl⟩, fun z => absurd rfl z⟩
  · rw [swpZ_o (by omega) (by omega) (by omega), swpZ_o (by omega) (by omega) (by omega), upL_n e]
    have er : sR (swN S R (k + 1) (w + 1)) j = sR (swN S R k w) j := by
      rw [swN_k, swN_k]
      rw [show decide (j < k + 1) = decide (j < k) from decide_eq_decide.mpr (by omega)]
    rw [er]
    exact h3 j hj
theorem rel_swpN {z : Nat → Nat} {c : Nat → Int64} {S : mSo} {R : mCt} {k w : Nat} (h : RelS z c (swN S R k w)) (hn : rmS S R k = false) : RelS z c (swN S R (k + 1) w) := by
  obtain ⟨h1, h2, h3⟩ := h
  refine ⟨h1, h2, fun j hj => ?_⟩
  have er : sR (swN S R (k + 1) w) j = sR (swN S R k w) j := by
    rw [swN_k, swN_k]
    by_cases e : j = k
    · subst e
      rw [hn, Bool.and_false, Bool.and_false]
    · rw [show decide (j < k + 1) = decide (j < k) from decide_eq_decide.mpr (by omega)]
  rw [er]
  exact h3 j hj
theorem rel_rm0 {z : Nat → Nat} {c : Nat → Int64} {S : mSo} {R : mCt} {k w : Nat} (h : RelS z c (swN S R k w)) (hk : k < 60) : (decide (0 < z (491 + k)) && decide (z (551 + k) = 0)) = isU S k := by
  have hp := h.pos hk
  rw [swN_ge (Nat.le_refl k)] at hp
  rw [isU]
  by_cases e : sR S k = 0
  · rw [decide_eq_false (fun q => hp.mp q e), show (sR S k == 0) = true from by rw [ieq]; exact decide_eq_true e]
    rfl
  · have := ((h.2.2 k hk).2 (by rw [swN_ge (Nat.le_refl k)]; exact e)).2
    rw [decide_eq_true (hp.mpr e), show (sR S k == 0) = false from by rw [ieq]; exact decide_eq_false e, this]
    rfl
theorem rmS_raw {S : mSo} {f : Nat → Nat} {k : Nat} : rmS S (rawK 0 f) k = isU S k := by rw [rmS]; show (isU S k && !false) = _; rw [Bool.not_false, Bool.and_true]
/-- the saved states -/
def HisR (gs : Nat) (gh : Nat → Nat) (gk : Nat → Int64) (n : Nat) (Ts : Nat → mSt) : Prop := gs = n ∧ ∀ i, i < n → RelT (fun k => gh (611 * i + k)) (fun k => gk (60 * i + k)) (Ts i)
