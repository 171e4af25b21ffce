/-! a piece comes; a text is laid -/
theorem rel_comesY {z : Nat → Nat} {c : Nat → Int64} {S : mSo} (h : RelS z c S) {u : Nat} (hu : u < 60) (h0 : sR S u ≠ 0) : RelS (upN z (551 + u) (z (551 + u) + 1)) c (ownS S u) := by
  obtain ⟨h1, h2, h3⟩ := h
  refine ⟨by rw [upN_n (by omega)]; exact h1, by rw [upN_n (by omega)]; exact h2, fun k hk => ?_⟩
  rw [upN_n (show 491 + k ≠ 551 + u by omega)]
  by_cases e : k = u
  · subst e
    rw [upN_s]
    refine ⟨fun z => absurd z h0, fun _ => ⟨((h3 k hk).2 h0).1, ?_⟩⟩
    rw [((h3 k hk).2 h0).2]
    exact (upN_s _ _ _).symm
  · rw [upN_n (show 551 + k ≠ 551 + u by omega)]
    refine ⟨(h3 k hk).1, fun q => ⟨((h3 k hk).2 q).1, ?_⟩⟩
    rw [((h3 k hk).2 q).2]
    exact (upN_n e).symm
theorem rel_comesN {z : Nat → Nat} {c : Nat → Int64} {S : mSo} (h : RelS z c S) {f : Nat} (hf : f < 60) (h0 : sR S f = 0) {w cc : Int64} {n : Nat} (x : Cd w cc n) (hs : slU S 0 = f) : RelS (upN (upN (upN z (491 + f) n) 5 ((upN z (491 + f) n) 5 + 1)) (551 + f) ((upN (upN z (491 + f) n) 5 ((upN z (491 + f) n) 5 + 1)) (551 + f) + 1)) (vp_updL c f cc) (ownS (putS S w) f) := by
  obtain ⟨h1, h2, h3⟩ := h
  have hz := (h3 f hf).1 h0
  have eR : ∀ k, k ≠ f → sR (ownS (putS S w) f) k = sR S k := fun k hk => by rw [← hs] at hk ⊢; exact upL_n hk
  have eU : sR (ownS (putS S w) f) f = w := by rw [← hs]; exact upL_s _ _ _
  have oO : ∀ k, k ≠ f → sO (ownS (putS S w) f) k = sO S k := fun k hk => by
    show upN (upN (sO S) (slU S 0) 0) f (upN (sO S) (slU S 0) 0 f + 1) k = _
    rw [hs, upN_n hk, upN_n hk]
  have oU : sO (ownS (putS S w) f) f = 1 := by
    show upN (upN (sO S) (slU S 0) 0) f (upN (sO S) (slU S 0) 0 f + 1) f = _
    rw [hs, upN_s, upN_s]
  refine ⟨?_, ?_, fun k hk => ?_⟩
  · rw [upN_n (by omega), upN_s, upN_n (by omega), h1]
    rfl
  · rw [upN_n (by omega), upN_n (by omega), upN_n (by omega)]
    exact h2
  · rw [upN_n (show 491 + k ≠ 551 + f by omega), upN_n (show 491 + k ≠ 5 by omega)]
    by_cases e : k = f
    · subst e
      rw [upN_s, upN_s, upN_n (show 551 + k ≠ 5 by omega), upN_n (show 551 + k ≠ 491 + k by omega), upL_s, eU, oU, hz.2.1]
      exact ⟨fun q => absurd q x.n0, fun _ => ⟨x, rfl⟩⟩
    · rw [upN_n (show 491 + k ≠ 491 + f by omega), upN_n (show 551 + k ≠ 551 + f by omega), upN_n (show 551 + k ≠ 5 by omega), upN_n (show 551 + k ≠ 491 + f by omega), upL_n e, eR k e, oO k e]
      exact h3 k hk
/-- of a piece the first k signs are laid -/
def PrA (z : Nat → Nat) (t : Nat) (K : mCt) (u p k : Nat) : Prop := ∀ i, i < k → z (11 + 40 * t + (kP K p + i)) = kS K (kP K p + i) ∧ z (331 + 40 * t + (kP K p + i)) = u ∧ z (171 + 40 * t + (kP K p + i)) ≤ 3 ∧ (z (171 + 40 * t + (kP K p + i)) = 0 ↔ i + 1 ≠ kQ K p) ∧ (z (171 + 40 * t + (kP K p + i)) = 2 ↔ i + 1 = kQ K p ∧ kF K p = true)
def PreX (z : Nat → Nat) (t : Nat) (K : mCt) (S : mSo) (p : Nat) : Prop := ∀ q, q < p → PrA z t K (slU S (kR K q)) q (kQ K q)
theorem PrA.congr {z y : Nat → Nat} {t : Nat} {K : mCt} {u p k : Nat} (h : PrA z t K u p k) (h40 : kP K p + k ≤ 40) (e : ∀ i, (11 + 40 * t ≤ i ∧ i < 51 + 40 * t) ∨ (171 + 40 * t ≤ i ∧ i < 211 + 40 * t) ∨ (331 + 40 * t ≤ i ∧ i < 371 + 40 * t) → y i = z i) : PrA y t K u p k := fun i hi => by
  rw [e (11 + 40 * t + (kP K p + i)) (by omega), e (331 + 40 * t + (kP K p + i)) (by omega), e (171 + 40 * t + (kP K p + i)) (by omega)]
  exact h i hi
theorem PreX.congr {z y : Nat → Nat} {t : Nat} {K : mCt} {S S1 : mSo} {p : Nat} (h : PreX z t K S p) (hK : Tile K) (hp : p ≤ kN K) (e : ∀ i, (11 + 40 * t ≤ i ∧ i < 51 + 40 * t) ∨ (171 + 40 * t ≤ i ∧ i < 211 + 40 * t) ∨ (331 + 40 * t ≤ i ∧ i < 371 + 40 * t) → y i = z i) (e2 : ∀ q, q < p → slU S1 (kR K q) = slU S (kR K q)) : PreX y t K S1 p := fun q hq => by
  have he := hK.en (p := q) (by omega)
  have := hK.1
  rw [e2 q hq]
  exact (h q hq).congr (by omega) e
/-- one sign is laid -/
def layZ (z : Nat → Nat) (t j s m u : Nat) : Nat → Nat := upN (upN (upN z (11 + 40 * t + j) s) (171 + 40 * t + j) m) (331 + 40 * t + j) u
theorem layZ_o {z : Nat → Nat} {t j s m u i : Nat} (h1 : i ≠ 11 + 40 * t + j) (h2 : i ≠ 171 + 40 * t + j) (h3 : i ≠ 331 + 40 * t + j) : layZ z t j s m u i = z i := by rw [layZ, upN_n h3, upN_n h2, upN_n h1]
theorem PrA.lay {z : Nat → Nat} {t : Nat} {K : mCt} {u p k m : Nat} (ht : t < 4) (h : PrA z t K u p k) (h40 : kP K p + k < 40) (hm3 : m ≤ 3) (hm0 : m = 0 ↔ k + 1 ≠ kQ K p) (hm2 : m = 2 ↔ k + 1 = kQ K p ∧ kF K p = true) : PrA (layZ z t (kP K p + k) (kS K (kP K p + k)) m u) t K u p (k + 1) := fun i hi => by
  by_cases e : i = k
  · subst e
    have e1 : layZ z t (kP K p + i) (kS K (kP K p + i)) m u (11 + 40 * t + (kP K p + i)) = kS K (kP K p + i) := by rw [layZ, upN_n (by omega), upN_n (by omega), upN_s]
    have e2 : layZ z t (kP K p + i) (kS K (kP K p + i)) m u (171 + 40 * t + (kP K p + i)) = m := by rw [layZ, upN_n (by omega), upN_s]
    have e3 : layZ z t (kP K p + i) (kS K (kP K p + i)) m u (331 + 40 * t + (kP K p + i)) = u := by rw [layZ, upN_s]
    rw [e1, e2, e3]
    exact ⟨rfl, rfl, hm3, hm0, hm2⟩
  · rw [layZ_o (by omega) (by omega) (by omega), layZ_o (by omega) (by omega) (by omega), layZ_o (by omega) (by omega) (by omega)]
    exact h i (by omega)
theorem PreX.lay {z : Nat → Nat} {t : Nat} {K : mCt} {S : mSo} {p k s m u : Nat} (ht : t < 4) (h : PreX z t K S p) (hK : Tile K) (hp : p < kN K) (hk : k < kQ K p) : PreX (layZ z t (kP K p + k) s m u) t K S p := fun q hq i hi => by
  have he := hK.en hp
  have he2 := hK.en (p := q) (by omega)
  have h40 := hK.1
  have := smN_mono (kQ K) (show q + 1 ≤ p from hq)
  have := (hK.2.2.1 p hp).1
  rw [layZ_o (by omega) (by omega) (by omega), layZ_o (by omega) (by omega) (by omega), layZ_o (by omega) (by omega) (by omega)]
  exact h q hq i hi
theorem PreX.step {z : Nat → Nat} {t : Nat} {K : mCt} {S : mSo} {p : Nat} (h : PreX z t K S p) (h2 : PrA z t K (slU S (kR K p)) p (kQ K p)) : PreX z t K S (p + 1) := fun q hq => by
  by_cases e : q = p
  · rw [e]; exact h2
  · exact h q (by omega)
theorem PreX.rel {z : Nat → Nat} {t : Nat} {K : mCt} {S : mSo} (hK : Tile K) (h : PreX z t K S (kN K)) (h7 : z (7 + t) = kL K) : RelX z t K S := by
  refine ⟨h7, fun j hj => ?_, fun p hp i hi => (h p hp i hi).2⟩
  obtain ⟨p, i, hp, hi, e⟩ := hK.pl hj
  rw [e]
  exact (h p hp i hi).1
